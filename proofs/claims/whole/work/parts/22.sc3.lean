/-! SortedCodes, on: what is in just one of two; those that are alike -/
def ot (l : List Nat) (k : Nat) : Prop := (k = 0 ∨ ¬ l.getD (k - 1) 0 / 64 = l.getD k 0 / 64) ∧ k + 1 < l.length ∧ l.getD (k + 1) 0 / 64 = l.getD k 0 / 64
def rg (l : List Nat) (k j : Nat) : Int32 := if k + j < l.length ∧ l.getD (k + j) 0 / 64 = l.getD k 0 / 64 then nI (l.getD (k + j) 0 % 64) else -1
/-- the place of the g-th key that two and more have -/
noncomputable def tg (l : List Nat) (g : Nat) : Nat := fs (fun k => ot l k ∧ cn (ot l) k = g) l.length
noncomputable def rt (l : List Nat) (g j : Nat) : Int32 := if tg l g < l.length then rg l (tg l g) j else -1
def sh2 (l m : List Nat) (k : Nat) : Prop := pl (l.getD k 0) m < m.length ∧ m.getD (pl (l.getD k 0) m) 0 = l.getD k 0

set_option maxHeartbeats 4000000 in
set_option maxRecDepth 100000 in
theorem lp_diff {D : zD} {z0 nx : Nat} {L : zL} {V : zV} {a b : Nat} {l m : List Nat} (hs : sSC L a) (hl : SC V a l) (hs2 : sSC L b) (hm : SC V b m) (hc : 2 * cn (sh2 l m) l.length ≤ l.length + m.length) : ∀ (fu : Nat) (i : Nat), l.length - i = fu → i ≤ l.length → Z D z0 2 0 0 mX6_differenceFrom 0 0 4 [some (.ref a), some (.ref b), some (.int (nI (cn (sh2 l m) i))), some (.int (nI i)), none] [] L V nx (zi (nI (l.length + m.length - 2 * cn (sh2 l m) l.length)) L V nx) := by
  intro fu
  induction fu using Nat.strongRecOn with
  | ind fu ih =>
    intro i h_fu h_0
    have hs0 := hs
    obtain ⟨h1, h2⟩ := hs
    have hn := hl.1
    have hn48 := hl.2.2.1
    have hs20 := hs2
    obtain ⟨h3, h4⟩ := hs2
    have hmn := hm.1
    have hm48 := hm.2.2.1
    have hcl := cn_le (sh2 l m) i
    refine z_iload_n dX6_differenceFrom_4 rfl ?_
    refine z_aload_n dX6_differenceFrom_5 rfl ?_
    refine z_getIe dX6_differenceFrom_6 fX6_15 (by first | assumption | exact And.left (by assumption)) rfl (by first | assumption | exact zup_s _ _ _ _ | rfl) ?_
    refine z_icmp_geN (tgt := 58) dX6_differenceFrom_9 (by decide) (by omega) (by omega) (fun c_9 => ?_) (fun c_9 => ?_)
    · have e_i : i = l.length := by omega
      subst e_i
      refine z_aload_n dX6_differenceFrom_58 rfl ?_
      refine z_getIe dX6_differenceFrom_59 fX6_15 (by first | assumption | exact And.left (by assumption)) rfl (by first | assumption | exact zup_s _ _ _ _ | rfl) ?_
      refine z_aload_n dX6_differenceFrom_62 rfl ?_
      refine z_getIe dX6_differenceFrom_63 fX6_15 (by first | assumption | exact And.left (by assumption)) rfl (by first | assumption | exact zup_s _ _ _ _ | rfl) ?_
      refine z_addN dX6_differenceFrom_66 ?_
      refine z_iconst (v := nI 2) dX6_differenceFrom_67 rfl ?_
      refine z_iload_n dX6_differenceFrom_68 rfl ?_
      refine z_mulN dX6_differenceFrom_69 ?_
      refine z_subN dX6_differenceFrom_70 (by omega) ?_
      refine z_ireturn dX6_differenceFrom_71 (Nat.le_of_ble_eq_true rfl) (Nat.le_of_ble_eq_true rfl) rfl ?_
      exact zi_r rfl
    · refine z_aload_n dX6_differenceFrom_12 rfl ?_
      refine z_aload_n dX6_differenceFrom_13 rfl ?_
      refine z_getR dX6_differenceFrom_14 fX6_9 (by first | assumption | exact And.left (by assumption)) rfl ?_
      refine z_iload_n dX6_differenceFrom_17 rfl ?_
      refine z_ialdN dX6_differenceFrom_18 (by first | assumption | exact And.left (by assumption)) (by omega) (by decide) (hl.2.1 i (by omega)) ?_
      have b1 := hl.lt (k := i) (by omega)
      have hp := pl_le (l.getD i 0) m
      refine z_callV1i dX6_differenceFrom_19 kX6_placeFor lX6_25 (by first | assumption | exact And.left (by assumption)) rfl (s_placeFor hs20 hm b1) (Nat.le_of_ble_eq_true rfl) (Nat.le_of_ble_eq_true rfl) ⟨Nat.le_of_ble_eq_true rfl, Nat.le_of_ble_eq_true rfl⟩ ?_
      refine z_istore dX6_differenceFrom_22 (Nat.le_of_ble_eq_true rfl) rfl ?_
      refine z_iload dX6_differenceFrom_24 rfl ?_
      refine z_aload_n dX6_differenceFrom_26 rfl ?_
      refine z_getIe dX6_differenceFrom_27 fX6_15 (by first | assumption | exact And.left (by assumption)) rfl (by first | assumption | exact zup_s _ _ _ _ | rfl) ?_
      refine z_icmp_geN (tgt := 52) dX6_differenceFrom_30 (by decide) (by omega) (by omega) (fun c_30 => ?_) (fun c_30 => ?_)
      · refine z_incN dX6_differenceFrom_52 rfl rfl ?_
        refine z_goto (tgt := 4) dX6_differenceFrom_55 (by decide) ?_
        refine z_fg 4 ?_
        first
          | (have hz := ih _ (by omega) (i + 1) rfl (by omega); rw [cn_y (p := sh2 l m) (⟨c_30, c_46⟩)] at hz; exact hz)
          | (have hz := ih _ (by omega) (i + 1) rfl (by omega); rw [cn_n (p := sh2 l m) (fun q => c_46 q.2)] at hz; exact hz)
          | (have hz := ih _ (by omega) (i + 1) rfl (by omega); rw [cn_n (p := sh2 l m) (fun q => by have := q.1; omega)] at hz; exact hz)
      · refine z_aload_n dX6_differenceFrom_33 rfl ?_
        refine z_getR dX6_differenceFrom_34 fX6_9 (by first | assumption | exact And.left (by assumption)) rfl ?_
        refine z_iload dX6_differenceFrom_37 rfl ?_
        refine z_ialdN dX6_differenceFrom_39 (by first | assumption | exact And.left (by assumption)) (by omega) (by decide) (hm.2.1 _ (by omega)) ?_
        have b2 := hm.lt (k := pl (l.getD i 0) m) (by omega)
        refine z_aload_n dX6_differenceFrom_40 rfl ?_
        refine z_getR dX6_differenceFrom_41 fX6_9 (by first | assumption | exact And.left (by assumption)) rfl ?_
        refine z_iload_n dX6_differenceFrom_44 rfl ?_
        refine z_ialdN dX6_differenceFrom_45 (by first | assumption | exact And.left (by assumption)) (by omega) (by decide) (hl.2.1 i (by omega)) ?_
        refine z_icmp_neN (tgt := 52) dX6_differenceFrom_46 (by decide) (by omega) (by omega) (fun c_46 => ?_) (fun c_46 => ?_)
        · refine z_incN dX6_differenceFrom_52 rfl rfl ?_
          refine z_goto (tgt := 4) dX6_differenceFrom_55 (by decide) ?_
          refine z_fg 4 ?_
          first
            | (have hz := ih _ (by omega) (i + 1) rfl (by omega); rw [cn_y (p := sh2 l m) (⟨c_30, c_46⟩)] at hz; exact hz)
            | (have hz := ih _ (by omega) (i + 1) rfl (by omega); rw [cn_n (p := sh2 l m) (fun q => c_46 q.2)] at hz; exact hz)
            | (have hz := ih _ (by omega) (i + 1) rfl (by omega); rw [cn_n (p := sh2 l m) (fun q => by have := q.1; omega)] at hz; exact hz)
        · refine z_incN dX6_differenceFrom_49 rfl rfl ?_
          refine z_incN dX6_differenceFrom_52 rfl rfl ?_
          refine z_goto (tgt := 4) dX6_differenceFrom_55 (by decide) ?_
          refine z_fg 4 ?_
          first
            | (have hz := ih _ (by omega) (i + 1) rfl (by omega); rw [cn_y (p := sh2 l m) (⟨c_30, c_46⟩)] at hz; exact hz)
            | (have hz := ih _ (by omega) (i + 1) rfl (by omega); rw [cn_n (p := sh2 l m) (fun q => c_46 q.2)] at hz; exact hz)
            | (have hz := ih _ (by omega) (i + 1) rfl (by omega); rw [cn_n (p := sh2 l m) (fun q => by have := q.1; omega)] at hz; exact hz)

set_option maxHeartbeats 4000000 in
set_option maxRecDepth 100000 in
theorem s_diff {D : zD} {z0 nx : Nat} {L : zL} {V : zV} {a b : Nat} {l m : List Nat} (hs : sSC L a) (hl : SC V a l) (hs2 : sSC L b) (hm : SC V b m) (hc : 2 * cn (sh2 l m) l.length ≤ l.length + m.length) : Sp D z0 2 0 0 mX6_differenceFrom [.ref a, .ref b] L V nx (zi (nI (l.length + m.length - 2 * cn (sh2 l m) l.length)) L V nx) := by
  refine Sp.of 3 (by decide) rfl rfl (Nat.le_of_ble_eq_true rfl) ?_
  refine z_iconst (v := nI 0) dX6_differenceFrom_0 rfl ?_
  refine z_istore_n dX6_differenceFrom_1 (Nat.le_of_ble_eq_true rfl) rfl ?_
  refine z_iconst (v := nI 0) dX6_differenceFrom_2 rfl ?_
  refine z_istore_n dX6_differenceFrom_3 (Nat.le_of_ble_eq_true rfl) rfl ?_
  exact lp_diff hs hl hs2 hm hc _ 0 rfl (by omega)

set_option maxHeartbeats 4000000 in
set_option maxRecDepth 100000 in
theorem s_opens {D : zD} {z0 nx : Nat} {L : zL} {V : zV} {a k : Nat} {l : List Nat} (hs : sSC L a) (hl : SC V a l) (hk : k < l.length) : Sp D z0 2 0 0 mX6_opensTwins [.ref a, .int (nI k)] L V nx (zi (zb (ot l k)) L V nx) := by
  have hs0 := hs
  obtain ⟨h1, h2⟩ := hs
  have hn := hl.1
  have hn48 := hl.2.2.1
  have b1 := hl.lt hk
  have e1 := hl.2.1 k hk
  refine Sp.of 2 (by decide) rfl rfl (Nat.le_of_ble_eq_true rfl) ?_
  refine z_aload_n dX6_opensTwins_0 rfl ?_
  refine z_getR dX6_opensTwins_1 fX6_9 (by first | assumption | exact And.left (by assumption)) rfl ?_
  refine z_iload_n dX6_opensTwins_4 rfl ?_
  refine z_ialdN dX6_opensTwins_5 (by first | assumption | exact And.left (by assumption)) (by omega) (by decide) (by first | assumption | exact zup_s _ _ _ _ | rfl) ?_
  refine z_callS1i dX6_opensTwins_6 kX6_rankIn lX6_33 (s_rankIn (by omega)) (Nat.le_of_ble_eq_true rfl) (Nat.le_of_ble_eq_true rfl) ⟨Nat.le_of_ble_eq_true rfl, Nat.le_of_ble_eq_true rfl⟩ ?_
  refine z_istore_n dX6_opensTwins_9 (Nat.le_of_ble_eq_true rfl) rfl ?_
  refine z_iload_n dX6_opensTwins_10 rfl ?_
  refine z_if_eqN (tgt := 29) dX6_opensTwins_11 (by decide) (by omega) (fun c_11 => ?_) (fun c_11 => ?_)
  · refine z_iconst (v := nI 1) dX6_opensTwins_29 rfl ?_
    refine z_goto (tgt := 34) dX6_opensTwins_30 (by decide) ?_
    refine z_istore_n dX6_opensTwins_34 (Nat.le_of_ble_eq_true rfl) rfl ?_
    refine z_iload_n dX6_opensTwins_35 rfl ?_
    refine z_if_eqN (tgt := 68) dX6_opensTwins_36 (by decide) (by omega) (fun c_36 => ?_) (fun c_36 => ?_)
    · exact absurd c_36 (by omega)
    · refine z_iload_n dX6_opensTwins_39 rfl ?_
      refine z_iconst (v := nI 1) dX6_opensTwins_40 rfl ?_
      refine z_addN dX6_opensTwins_41 ?_
      refine z_aload_n dX6_opensTwins_42 rfl ?_
      refine z_getIe dX6_opensTwins_43 fX6_15 (by first | assumption | exact And.left (by assumption)) rfl (by first | assumption | exact zup_s _ _ _ _ | rfl) ?_
      refine z_icmp_geN (tgt := 68) dX6_opensTwins_46 (by decide) (by omega) (by omega) (fun c_46 => ?_) (fun c_46 => ?_)
      · refine z_iconst (v := nI 0) dX6_opensTwins_68 rfl ?_
        refine z_zreturn dX6_opensTwins_69 (Nat.le_of_ble_eq_true rfl) (Nat.le_of_ble_eq_true rfl) rfl (by first | exact Or.inl rfl | exact Or.inr rfl | exact zb_01 _ | assumption) ?_
        exact zi_r (by first | exact (zb_t ⟨by omega, by omega, by omega⟩).symm | exact (zb_f (fun q => by obtain ⟨q1, q2, q3⟩ := q; omega)).symm)
      · refine z_aload_n dX6_opensTwins_49 rfl ?_
        refine z_getR dX6_opensTwins_50 fX6_9 (by first | assumption | exact And.left (by assumption)) rfl ?_
        refine z_iload_n dX6_opensTwins_53 rfl ?_
        refine z_iconst (v := nI 1) dX6_opensTwins_54 rfl ?_
        refine z_addN dX6_opensTwins_55 ?_
        refine z_ialdN dX6_opensTwins_56 (by first | assumption | exact And.left (by assumption)) (by omega) (by decide) (hl.2.1 (k + 1) (by omega)) ?_
        have b3 := hl.lt (k := k + 1) (by omega)
        refine z_callS1i dX6_opensTwins_57 kX6_rankIn lX6_33 (s_rankIn (by omega)) (Nat.le_of_ble_eq_true rfl) (Nat.le_of_ble_eq_true rfl) ⟨Nat.le_of_ble_eq_true rfl, Nat.le_of_ble_eq_true rfl⟩ ?_
        refine z_iload_n dX6_opensTwins_60 rfl ?_
        refine z_icmp_neN (tgt := 68) dX6_opensTwins_61 (by decide) (by omega) (by omega) (fun c_61 => ?_) (fun c_61 => ?_)
        · refine z_iconst (v := nI 0) dX6_opensTwins_68 rfl ?_
          refine z_zreturn dX6_opensTwins_69 (Nat.le_of_ble_eq_true rfl) (Nat.le_of_ble_eq_true rfl) rfl (by first | exact Or.inl rfl | exact Or.inr rfl | exact zb_01 _ | assumption) ?_
          exact zi_r (by first | exact (zb_t ⟨by omega, by omega, by omega⟩).symm | exact (zb_f (fun q => by obtain ⟨q1, q2, q3⟩ := q; omega)).symm)
        · refine z_iconst (v := nI 1) dX6_opensTwins_64 rfl ?_
          refine z_goto (tgt := 69) dX6_opensTwins_65 (by decide) ?_
          refine z_zreturn dX6_opensTwins_69 (Nat.le_of_ble_eq_true rfl) (Nat.le_of_ble_eq_true rfl) rfl (by first | exact Or.inl rfl | exact Or.inr rfl | exact zb_01 _ | assumption) ?_
          exact zi_r (by first | exact (zb_t ⟨by omega, by omega, by omega⟩).symm | exact (zb_f (fun q => by obtain ⟨q1, q2, q3⟩ := q; omega)).symm)
  · refine z_aload_n dX6_opensTwins_14 rfl ?_
    refine z_getR dX6_opensTwins_15 fX6_9 (by first | assumption | exact And.left (by assumption)) rfl ?_
    refine z_iload_n dX6_opensTwins_18 rfl ?_
    refine z_iconst (v := nI 1) dX6_opensTwins_19 rfl ?_
    refine z_subN dX6_opensTwins_20 (by omega) ?_
    
    refine z_ialdN dX6_opensTwins_21 (by first | assumption | exact And.left (by assumption)) (by omega) (by decide) (hl.2.1 (k - 1) (by omega)) ?_
    have b2 := hl.lt (k := k - 1) (by omega)
    refine z_callS1i dX6_opensTwins_22 kX6_rankIn lX6_33 (s_rankIn (by omega)) (Nat.le_of_ble_eq_true rfl) (Nat.le_of_ble_eq_true rfl) ⟨Nat.le_of_ble_eq_true rfl, Nat.le_of_ble_eq_true rfl⟩ ?_
    refine z_iload_n dX6_opensTwins_25 rfl ?_
    refine z_icmp_eqN (tgt := 33) dX6_opensTwins_26 (by decide) (by omega) (by omega) (fun c_26 => ?_) (fun c_26 => ?_)
    · refine z_iconst (v := nI 0) dX6_opensTwins_33 rfl ?_
      refine z_istore_n dX6_opensTwins_34 (Nat.le_of_ble_eq_true rfl) rfl ?_
      refine z_iload_n dX6_opensTwins_35 rfl ?_
      refine z_if_eqN (tgt := 68) dX6_opensTwins_36 (by decide) (by omega) (fun c_36 => ?_) (fun c_36 => ?_)
      · refine z_iconst (v := nI 0) dX6_opensTwins_68 rfl ?_
        refine z_zreturn dX6_opensTwins_69 (Nat.le_of_ble_eq_true rfl) (Nat.le_of_ble_eq_true rfl) rfl (by first | exact Or.inl rfl | exact Or.inr rfl | exact zb_01 _ | assumption) ?_
        exact zi_r (by first | exact (zb_t ⟨by omega, by omega, by omega⟩).symm | exact (zb_f (fun q => by obtain ⟨q1, q2, q3⟩ := q; omega)).symm)
      · exact absurd c_36 (by omega)
    · refine z_iconst (v := nI 1) dX6_opensTwins_29 rfl ?_
      refine z_goto (tgt := 34) dX6_opensTwins_30 (by decide) ?_
      refine z_istore_n dX6_opensTwins_34 (Nat.le_of_ble_eq_true rfl) rfl ?_
      refine z_iload_n dX6_opensTwins_35 rfl ?_
      refine z_if_eqN (tgt := 68) dX6_opensTwins_36 (by decide) (by omega) (fun c_36 => ?_) (fun c_36 => ?_)
      · exact absurd c_36 (by omega)
      · refine z_iload_n dX6_opensTwins_39 rfl ?_
        refine z_iconst (v := nI 1) dX6_opensTwins_40 rfl ?_
        refine z_addN dX6_opensTwins_41 ?_
        refine z_aload_n dX6_opensTwins_42 rfl ?_
        refine z_getIe dX6_opensTwins_43 fX6_15 (by first | assumption | exact And.left (by assumption)) rfl (by first | assumption | exact zup_s _ _ _ _ | rfl) ?_
        refine z_icmp_geN (tgt := 68) dX6_opensTwins_46 (by decide) (by omega) (by omega) (fun c_46 => ?_) (fun c_46 => ?_)
        · refine z_iconst (v := nI 0) dX6_opensTwins_68 rfl ?_
          refine z_zreturn dX6_opensTwins_69 (Nat.le_of_ble_eq_true rfl) (Nat.le_of_ble_eq_true rfl) rfl (by first | exact Or.inl rfl | exact Or.inr rfl | exact zb_01 _ | assumption) ?_
          exact zi_r (by first | exact (zb_t ⟨by omega, by omega, by omega⟩).symm | exact (zb_f (fun q => by obtain ⟨q1, q2, q3⟩ := q; omega)).symm)
        · refine z_aload_n dX6_opensTwins_49 rfl ?_
          refine z_getR dX6_opensTwins_50 fX6_9 (by first | assumption | exact And.left (by assumption)) rfl ?_
          refine z_iload_n dX6_opensTwins_53 rfl ?_
          refine z_iconst (v := nI 1) dX6_opensTwins_54 rfl ?_
          refine z_addN dX6_opensTwins_55 ?_
          refine z_ialdN dX6_opensTwins_56 (by first | assumption | exact And.left (by assumption)) (by omega) (by decide) (hl.2.1 (k + 1) (by omega)) ?_
          have b3 := hl.lt (k := k + 1) (by omega)
          refine z_callS1i dX6_opensTwins_57 kX6_rankIn lX6_33 (s_rankIn (by omega)) (Nat.le_of_ble_eq_true rfl) (Nat.le_of_ble_eq_true rfl) ⟨Nat.le_of_ble_eq_true rfl, Nat.le_of_ble_eq_true rfl⟩ ?_
          refine z_iload_n dX6_opensTwins_60 rfl ?_
          refine z_icmp_neN (tgt := 68) dX6_opensTwins_61 (by decide) (by omega) (by omega) (fun c_61 => ?_) (fun c_61 => ?_)
          · refine z_iconst (v := nI 0) dX6_opensTwins_68 rfl ?_
            refine z_zreturn dX6_opensTwins_69 (Nat.le_of_ble_eq_true rfl) (Nat.le_of_ble_eq_true rfl) rfl (by first | exact Or.inl rfl | exact Or.inr rfl | exact zb_01 _ | assumption) ?_
            exact zi_r (by first | exact (zb_t ⟨by omega, by omega, by omega⟩).symm | exact (zb_f (fun q => by obtain ⟨q1, q2, q3⟩ := q; omega)).symm)
          · refine z_iconst (v := nI 1) dX6_opensTwins_64 rfl ?_
            refine z_goto (tgt := 69) dX6_opensTwins_65 (by decide) ?_
            refine z_zreturn dX6_opensTwins_69 (Nat.le_of_ble_eq_true rfl) (Nat.le_of_ble_eq_true rfl) rfl (by first | exact Or.inl rfl | exact Or.inr rfl | exact zb_01 _ | assumption) ?_
            exact zi_r (by first | exact (zb_t ⟨by omega, by omega, by omega⟩).symm | exact (zb_f (fun q => by obtain ⟨q1, q2, q3⟩ := q; omega)).symm)

set_option maxHeartbeats 4000000 in
set_option maxRecDepth 100000 in
theorem lp_groups {D : zD} {z0 nx : Nat} {L : zL} {V : zV} {a : Nat} {l : List Nat} (hs : sSC L a) (hl : SC V a l) : ∀ (fu : Nat) (i : Nat), l.length - i = fu → i ≤ l.length → Z D z0 3 0 0 mX6_twinGroups 0 0 4 [some (.ref a), some (.int (nI (cn (ot l) i))), some (.int (nI i))] [] L V nx (zi (nI (cn (ot l) l.length)) L V nx) := by
  intro fu
  induction fu using Nat.strongRecOn with
  | ind fu ih =>
    intro i h_fu h_0
    have hs0 := hs
    obtain ⟨h1, h2⟩ := hs
    have hn := hl.1
    have hn48 := hl.2.2.1
    refine z_iload_n dX6_twinGroups_4 rfl ?_
    refine z_aload_n dX6_twinGroups_5 rfl ?_
    refine z_getIe dX6_twinGroups_6 fX6_15 (by first | assumption | exact And.left (by assumption)) rfl (by first | assumption | exact zup_s _ _ _ _ | rfl) ?_
    refine z_icmp_geN (tgt := 29) dX6_twinGroups_9 (by decide) (by omega) (by omega) (fun c_9 => ?_) (fun c_9 => ?_)
    · refine z_iload_n dX6_twinGroups_29 rfl ?_
      refine z_ireturn dX6_twinGroups_30 (Nat.le_of_ble_eq_true rfl) (Nat.le_of_ble_eq_true rfl) rfl ?_
      exact zi_r (by rw [show i = l.length by omega])
    · refine z_aload_n dX6_twinGroups_12 rfl ?_
      refine z_iload_n dX6_twinGroups_13 rfl ?_
      refine z_callV1i dX6_twinGroups_14 kX6_opensTwins lX6_36 (by first | assumption | exact And.left (by assumption)) rfl (s_opens (by assumption) (by assumption) (by omega)) (Nat.le_of_ble_eq_true rfl) (Nat.le_of_ble_eq_true rfl) ⟨Nat.le_of_ble_eq_true rfl, Nat.le_of_ble_eq_true rfl⟩ ?_
      refine z_if_eqB (tgt := 23) dX6_twinGroups_17 (by decide) (fun c_17 => ?_) (fun c_17 => ?_)
      · refine z_incN dX6_twinGroups_23 rfl rfl ?_
        refine z_goto (tgt := 4) dX6_twinGroups_26 (by decide) ?_
        first
          | (have hz := ih _ (by omega) (i + 1) rfl (by omega); rw [cn_y (p := ot l) c_17] at hz; exact hz)
          | (have hz := ih _ (by omega) (i + 1) rfl (by omega); rw [cn_n (p := ot l) c_17] at hz; exact hz)
      · refine z_incN dX6_twinGroups_20 rfl rfl ?_
        refine z_incN dX6_twinGroups_23 rfl rfl ?_
        refine z_goto (tgt := 4) dX6_twinGroups_26 (by decide) ?_
        first
          | (have hz := ih _ (by omega) (i + 1) rfl (by omega); rw [cn_y (p := ot l) c_17] at hz; exact hz)
          | (have hz := ih _ (by omega) (i + 1) rfl (by omega); rw [cn_n (p := ot l) c_17] at hz; exact hz)

set_option maxHeartbeats 4000000 in
set_option maxRecDepth 100000 in
theorem s_groups {D : zD} {z0 nx : Nat} {L : zL} {V : zV} {a : Nat} {l : List Nat} (hs : sSC L a) (hl : SC V a l) : Sp D z0 3 0 0 mX6_twinGroups [.ref a] L V nx (zi (nI (cn (ot l) l.length)) L V nx) := by
  refine Sp.of 2 (by decide) rfl rfl (Nat.le_of_ble_eq_true rfl) ?_
  refine z_iconst (v := nI 0) dX6_twinGroups_0 rfl ?_
  refine z_istore_n dX6_twinGroups_1 (Nat.le_of_ble_eq_true rfl) rfl ?_
  refine z_iconst (v := nI 0) dX6_twinGroups_2 rfl ?_
  refine z_istore_n dX6_twinGroups_3 (Nat.le_of_ble_eq_true rfl) rfl ?_
  exact lp_groups hs hl _ 0 rfl (by omega)

set_option maxHeartbeats 4000000 in
set_option maxRecDepth 100000 in
theorem s_inGroup {D : zD} {z0 nx : Nat} {L : zL} {V : zV} {a k j : Nat} {l : List Nat} (hs : sSC L a) (hl : SC V a l) (hk : k < l.length) (hj : j < 2147483648) : Sp D z0 2 0 0 mX6_rowInGroup [.ref a, .int (nI k), .int (nI j)] L V nx (zi (rg l k j) L V nx) := by
  have hs0 := hs
  obtain ⟨h1, h2⟩ := hs
  have hn := hl.1
  have hn48 := hl.2.2.1
  have b1 := hl.lt hk
  have e1 := hl.2.1 k hk
  refine Sp.of 1 (by decide) rfl rfl (Nat.le_of_ble_eq_true rfl) ?_
  refine z_iload_n dX6_rowInGroup_0 rfl ?_
  refine z_aload_n dX6_rowInGroup_1 rfl ?_
  refine z_getIe dX6_rowInGroup_2 fX6_15 (by first | assumption | exact And.left (by assumption)) rfl (by first | assumption | exact zup_s _ _ _ _ | rfl) ?_
  refine z_iload_n dX6_rowInGroup_5 rfl ?_
  refine z_subN dX6_rowInGroup_6 (by omega) ?_
  refine z_icmp_ltN (tgt := 12) dX6_rowInGroup_7 (by decide) (by omega) (by omega) (fun c_7 => ?_) (fun c_7 => ?_)
  · refine z_aload_n dX6_rowInGroup_12 rfl ?_
    refine z_getR dX6_rowInGroup_13 fX6_9 (by first | assumption | exact And.left (by assumption)) rfl ?_
    refine z_iload_n dX6_rowInGroup_16 rfl ?_
    refine z_iload_n dX6_rowInGroup_17 rfl ?_
    refine z_addN dX6_rowInGroup_18 ?_
    refine z_ialdN dX6_rowInGroup_19 (by first | assumption | exact And.left (by assumption)) (by omega) (by decide) (hl.2.1 (k + j) (by omega)) ?_
    have b3 := hl.lt (k := k + j) (by omega)
    refine z_istore_n dX6_rowInGroup_20 (Nat.le_of_ble_eq_true rfl) rfl ?_
    refine z_iload_n dX6_rowInGroup_21 rfl ?_
    refine z_callS1i dX6_rowInGroup_22 kX6_rankIn lX6_33 (s_rankIn (by omega)) (Nat.le_of_ble_eq_true rfl) (Nat.le_of_ble_eq_true rfl) ⟨Nat.le_of_ble_eq_true rfl, Nat.le_of_ble_eq_true rfl⟩ ?_
    refine z_aload_n dX6_rowInGroup_25 rfl ?_
    refine z_getR dX6_rowInGroup_26 fX6_9 (by first | assumption | exact And.left (by assumption)) rfl ?_
    refine z_iload_n dX6_rowInGroup_29 rfl ?_
    refine z_ialdN dX6_rowInGroup_30 (by first | assumption | exact And.left (by assumption)) (by omega) (by decide) (by first | assumption | exact zup_s _ _ _ _ | rfl) ?_
    refine z_callS1i dX6_rowInGroup_31 kX6_rankIn lX6_33 (s_rankIn (by omega)) (Nat.le_of_ble_eq_true rfl) (Nat.le_of_ble_eq_true rfl) ⟨Nat.le_of_ble_eq_true rfl, Nat.le_of_ble_eq_true rfl⟩ ?_
    refine z_icmp_neN (tgt := 44) dX6_rowInGroup_34 (by decide) (by omega) (by omega) (fun c_34 => ?_) (fun c_34 => ?_)
    · refine z_iconst (v := (-1)) dX6_rowInGroup_44 rfl ?_
      refine z_ireturn dX6_rowInGroup_45 (Nat.le_of_ble_eq_true rfl) (Nat.le_of_ble_eq_true rfl) rfl ?_
      exact zi_r (by first | rw [rg, if_pos ⟨by omega, by omega⟩] | (rw [rg, if_neg (fun q => by obtain ⟨q1, q2⟩ := q; omega)] <;> rfl))
    · refine z_iload_n dX6_rowInGroup_37 rfl ?_
      refine z_callS1i dX6_rowInGroup_38 kX6_rowIn lX6_43 (s_rowIn (by omega)) (Nat.le_of_ble_eq_true rfl) (Nat.le_of_ble_eq_true rfl) ⟨Nat.le_of_ble_eq_true rfl, Nat.le_of_ble_eq_true rfl⟩ ?_
      refine z_goto (tgt := 45) dX6_rowInGroup_41 (by decide) ?_
      refine z_ireturn dX6_rowInGroup_45 (Nat.le_of_ble_eq_true rfl) (Nat.le_of_ble_eq_true rfl) rfl ?_
      exact zi_r (by first | rw [rg, if_pos ⟨by omega, by omega⟩] | (rw [rg, if_neg (fun q => by obtain ⟨q1, q2⟩ := q; omega)] <;> rfl))
  · refine z_iconst (v := (-1)) dX6_rowInGroup_10 rfl ?_
    refine z_ireturn dX6_rowInGroup_11 (Nat.le_of_ble_eq_true rfl) (Nat.le_of_ble_eq_true rfl) rfl ?_
    exact zi_r (by rw [rg, if_neg (by omega)] <;> rfl)

set_option maxHeartbeats 4000000 in
set_option maxRecDepth 100000 in
theorem lp_rowOf {D : zD} {z0 nx : Nat} {L : zL} {V : zV} {a g j : Nat} {l : List Nat} (hs : sSC L a) (hl : SC V a l) (hg : g < 2147483648) (hj : j < 2147483648) : ∀ (fu : Nat) (i : Nat), l.length - i = fu → i ≤ l.length → (∀ k, k < i → ¬ (ot l k ∧ cn (ot l) k = g)) → Z D z0 3 0 0 mX6_rowOfTwins 0 0 5 [some (.ref a), some (.int (nI g)), some (.int (nI j)), some (.int (nI (cn (ot l) i))), some (.int (nI i))] [] L V nx (zi (rt l g j) L V nx) := by
  intro fu
  induction fu using Nat.strongRecOn with
  | ind fu ih =>
    intro i h_fu h_0 h_1
    have hs0 := hs
    obtain ⟨h1, h2⟩ := hs
    have hn := hl.1
    have hn48 := hl.2.2.1
    have hcl := cn_le (ot l) i
    refine z_iload dX6_rowOfTwins_5 rfl ?_
    refine z_aload_n dX6_rowOfTwins_7 rfl ?_
    refine z_getIe dX6_rowOfTwins_8 fX6_15 (by first | assumption | exact And.left (by assumption)) rfl (by first | assumption | exact zup_s _ _ _ _ | rfl) ?_
    refine z_icmp_geN (tgt := 48) dX6_rowOfTwins_11 (by decide) (by omega) (by omega) (fun c_11 => ?_) (fun c_11 => ?_)
    · refine z_iconst (v := (-1)) dX6_rowOfTwins_48 rfl ?_
      refine z_ireturn dX6_rowOfTwins_49 (Nat.le_of_ble_eq_true rfl) (Nat.le_of_ble_eq_true rfl) rfl ?_
      have e : tg l g = l.length := fs_eq (fun k hk => h_1 k (by omega)) (by omega) (fun q => absurd q (by omega))
      exact zi_r (by rw [rt, e, if_neg (by omega)] <;> rfl)
    · refine z_aload_n dX6_rowOfTwins_14 rfl ?_
      refine z_iload dX6_rowOfTwins_15 rfl ?_
      refine z_callV1i dX6_rowOfTwins_17 kX6_opensTwins lX6_36 (by first | assumption | exact And.left (by assumption)) rfl (s_opens (by assumption) (by assumption) (by omega)) (Nat.le_of_ble_eq_true rfl) (Nat.le_of_ble_eq_true rfl) ⟨Nat.le_of_ble_eq_true rfl, Nat.le_of_ble_eq_true rfl⟩ ?_
      refine z_if_neB (tgt := 26) dX6_rowOfTwins_20 (by decide) (fun c_20 => ?_) (fun c_20 => ?_)
      · refine z_iload_n dX6_rowOfTwins_26 rfl ?_
        refine z_iload_n dX6_rowOfTwins_27 rfl ?_
        refine z_icmp_neN (tgt := 39) dX6_rowOfTwins_28 (by decide) (by omega) (by omega) (fun c_28 => ?_) (fun c_28 => ?_)
        · refine z_incN dX6_rowOfTwins_39 rfl rfl ?_
          refine z_incN dX6_rowOfTwins_42 rfl rfl ?_
          refine z_goto (tgt := 5) dX6_rowOfTwins_45 (by decide) ?_
          first
            | (have hz := ih _ (by omega) (i + 1) rfl (by omega) (lt_s h_1 (fun q => c_28 q.2)); rw [cn_y (p := ot l) c_20] at hz; exact hz)
            | (have hz := ih _ (by omega) (i + 1) rfl (by omega) (lt_s h_1 (fun q => c_20 q.1)); rw [cn_n (p := ot l) c_20] at hz; exact hz)
        · refine z_aload_n dX6_rowOfTwins_31 rfl ?_
          refine z_iload dX6_rowOfTwins_32 rfl ?_
          refine z_iload_n dX6_rowOfTwins_34 rfl ?_
          refine z_callV2i dX6_rowOfTwins_35 kX6_rowInGroup lX6_40 (by first | assumption | exact And.left (by assumption)) rfl (s_inGroup (by assumption) (by assumption) (by omega) (by omega)) (Nat.le_of_ble_eq_true rfl) (Nat.le_of_ble_eq_true rfl) ⟨Nat.le_of_ble_eq_true rfl, Nat.le_of_ble_eq_true rfl⟩ ?_
          refine z_ireturn dX6_rowOfTwins_38 (Nat.le_of_ble_eq_true rfl) (Nat.le_of_ble_eq_true rfl) rfl ?_
          have e : tg l g = i := fs_eq h_1 (by omega) (fun _ => ⟨c_20, c_28⟩)
          exact zi_r (by rw [rt, e, if_pos (by omega)])
      · refine z_goto (tgt := 42) dX6_rowOfTwins_23 (by decide) ?_
        refine z_incN dX6_rowOfTwins_42 rfl rfl ?_
        refine z_goto (tgt := 5) dX6_rowOfTwins_45 (by decide) ?_
        first
          | (have hz := ih _ (by omega) (i + 1) rfl (by omega) (lt_s h_1 (fun q => c_28 q.2)); rw [cn_y (p := ot l) c_20] at hz; exact hz)
          | (have hz := ih _ (by omega) (i + 1) rfl (by omega) (lt_s h_1 (fun q => c_20 q.1)); rw [cn_n (p := ot l) c_20] at hz; exact hz)

set_option maxHeartbeats 4000000 in
set_option maxRecDepth 100000 in
theorem s_rowOf {D : zD} {z0 nx : Nat} {L : zL} {V : zV} {a g j : Nat} {l : List Nat} (hs : sSC L a) (hl : SC V a l) (hg : g < 2147483648) (hj : j < 2147483648) : Sp D z0 3 0 0 mX6_rowOfTwins [.ref a, .int (nI g), .int (nI j)] L V nx (zi (rt l g j) L V nx) := by
  refine Sp.of 2 (by decide) rfl rfl (Nat.le_of_ble_eq_true rfl) ?_
  refine z_iconst (v := nI 0) dX6_rowOfTwins_0 rfl ?_
  refine z_istore_n dX6_rowOfTwins_1 (Nat.le_of_ble_eq_true rfl) rfl ?_
  refine z_iconst (v := nI 0) dX6_rowOfTwins_2 rfl ?_
  refine z_istore dX6_rowOfTwins_3 (Nat.le_of_ble_eq_true rfl) rfl ?_
  exact lp_rowOf hs hl hg hj _ 0 rfl (by omega) (fun k hk => absurd hk (by omega))

