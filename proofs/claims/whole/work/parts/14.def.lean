/-! Order, on; Definition; Log -/
/-- order, unique, partial, and where's column, op, number -/
abbrev Df : Type := List (Nat × Bool) × Bool × Bool × Nat × Nat × Nat
def sDf (L : zL) (a : Nat) : Prop := L a = some (.inr (.inr (1, [some (.ref (a + 1)), none, none, some (.ref (a + 4))]))) ∧ sOr L (a + 1) ∧ sCo L (a + 4)
def DF (V : zV) (a : Nat) (x : Df) : Prop := OR V (a + 1) x.1 ∧ V a 1 = zb (x.2.1 = true) ∧ V a 2 = zb (x.2.2.1 = true) ∧ CO V (a + 4) x.2.2.2.1 x.2.2.2.2.1 x.2.2.2.2.2
theorem DF.eq {V V' : zV} {a lo hi : Nat} {x : Df} (h : DF V a x) (he : zEq V V' lo hi) (hd : a + 5 ≤ lo ∨ hi ≤ a) : DF V' a x := by
  obtain ⟨h1, h2, h3, h4⟩ := h
  exact ⟨h1.eq he (by omega), by rw [he a (by omega)]; exact h2, by rw [he a (by omega)]; exact h3, h4.eq he (by omega)⟩
/-- numbers of an order copied, the first i of them -/
def orc (V : zV) (a b i : Nat) : zV := fun q j => if q = a + 1 ∧ j < i then V (b + 1) j else if q = a + 2 ∧ j < i then V (b + 2) j else V q j
theorem orc_0 (V : zV) (a b : Nat) : orc V a b 0 = V := by
  funext q j
  simp [orc]
theorem orc_s {V : zV} {a b i : Nat} (hab : a + 3 ≤ b ∨ b + 3 ≤ a) : zup (zup (orc V a b i) (a + 1) i (V (b + 1) i)) (a + 2) i (V (b + 2) i) = orc V a b (i + 1) := by
  funext q j
  simp only [zup, orc]
  by_cases e1 : q = a + 1
  · subst e1
    by_cases e2 : j = i
    · subst e2; simp
    · have : (j < i + 1) ↔ j < i := by omega
      simp [e2, this]
  · by_cases e3 : q = a + 2
    · subst e3
      by_cases e2 : j = i
      · subst e2; simp
      · have : (j < i + 1) ↔ j < i := by omega
        simp [e2, this]
    · simp [e1, e3]
theorem orc_o {V : zV} {a b i q : Nat} (h1 : q ≠ a + 1) (h2 : q ≠ a + 2) : orc V a b i q = V q := by
  funext j
  simp [orc, h1, h2]
theorem OR_copy {V : zV} {a b : Nat} {o : List (Nat × Bool)} (h : OR V b o) : OR (zup (orc V a b 3) a 2 (V b 2)) a o := by
  obtain ⟨g1, g2, g3, g4, g5⟩ := h
  refine ⟨by rw [zup_s]; exact g1, g2, fun k hk => ?_, g4, fun k hk => ?_⟩
  · have hk3 : k < 3 := by omega
    have := g3 k hk
    simp [zup, orc, hk3]
    exact this
  · have := g5 k hk
    simp [zup, orc, hk]
    exact this

theorem zb_inj {b c : Bool} (h : zb (b = true) = zb (c = true)) : b = c := by
  cases b <;> cases c
  · rfl
  · rw [zb_f (by decide), zb_t rfl] at h; exact absurd h (by decide)
  · rw [zb_t rfl, zb_f (by decide)] at h; exact absurd h (by decide)
  · rfl
theorem Z.mono {D : zD} {z0 d mc ms : Nat} {y : Mt} {cells slots pc : Nat} {lv : List (Option Value)} {st : List Value} {L : zL} {V : zV} {nx : Nat} {P P' : zP} (h : Z D z0 d mc ms y cells slots pc lv st L V nx P) (hp : ∀ v L' V' nx', P v L' V' nx' → P' v L' V' nx') : Z D z0 d mc ms y cells slots pc lv st L V nx P' :=
  fun p l e s m args below meth c H locs Q ls hC hl hr hH hf => h p l e s m args below meth c H locs Q ls hC hl hr hH (fun H1 l1 v L1 V1 n1 p1 ls1 hP => hf H1 l1 v L1 V1 n1 p1 ls1 (hp _ _ _ _ hP))

set_option maxHeartbeats 4000000 in
set_option maxRecDepth 100000 in
theorem lp_ORcopy {D : zD} {z0 nx : Nat} {L : zL} {V : zV} {a b : Nat} {o : List (Nat × Bool)} (hs : sOr L a) (hs2 : sOr L b) (h : OR V b o) (hab : a + 3 ≤ b ∨ b + 3 ≤ a) : ∀ (fu : Nat) (i : Nat), 3 - i = fu → i ≤ 3 → Z D z0 1 0 0 mX4_copyFrom 0 0 2 [some (.ref a), some (.ref b), some (.int (nI i))] [] L (orc V a b i) nx (zq none L nx (fun V' => V' = zup (orc V a b 3) a 2 (V b 2))) := by
  intro fu
  induction fu using Nat.strongRecOn with
  | ind fu ih =>
    intro i h_fu h_0
    have h0 := h
    obtain ⟨h1, h2, h3⟩ := hs
    obtain ⟨k1, k2, k3⟩ := hs2
    obtain ⟨g1, g2, g3, g4, g5⟩ := h
    refine z_iload_n dX4_copyFrom_2 rfl ?_
    refine z_iconst (v := nI 3) dX4_copyFrom_3 rfl ?_
    refine z_icmp_geN (tgt := 37) dX4_copyFrom_4 (by decide) (by omega) (by omega) (fun c_4 => ?_) (fun c_4 => ?_)
    · refine z_aload_n dX4_copyFrom_37 rfl ?_
      refine z_aload_n dX4_copyFrom_38 rfl ?_
      refine z_getIe dX4_copyFrom_39 fX4_19 (by first | assumption | exact And.left (by assumption)) rfl (congrFun (orc_o (by omega) (by omega)) _) ?_
      refine z_putI dX4_copyFrom_42 fX4_19 (by first | assumption | exact And.left (by assumption)) rfl ?_
      refine z_return dX4_copyFrom_45 (Nat.le_of_ble_eq_true rfl) (Nat.le_of_ble_eq_true rfl) rfl ?_
      exact ⟨rfl, rfl, rfl, by rw [show i = 3 by omega]⟩
    · refine z_aload_n dX4_copyFrom_7 rfl ?_
      refine z_getR dX4_copyFrom_8 fX4_9 (by first | assumption | exact And.left (by assumption)) rfl ?_
      refine z_iload_n dX4_copyFrom_11 rfl ?_
      refine z_aload_n dX4_copyFrom_12 rfl ?_
      refine z_getR dX4_copyFrom_13 fX4_9 (by first | assumption | exact And.left (by assumption)) rfl ?_
      refine z_iload_n dX4_copyFrom_16 rfl ?_
      refine z_ialdN dX4_copyFrom_17 (by first | assumption | exact And.left (by assumption)) (by omega) (by decide) (congrFun (orc_o (by omega) (by omega)) _) ?_
      refine z_iastN dX4_copyFrom_18 (by first | assumption | exact And.left (by assumption)) (by omega) (by decide) ?_
      refine z_aload_n dX4_copyFrom_19 rfl ?_
      refine z_getR dX4_copyFrom_20 fX4_15 (by first | assumption | exact And.left (by assumption)) rfl ?_
      refine z_iload_n dX4_copyFrom_23 rfl ?_
      refine z_aload_n dX4_copyFrom_24 rfl ?_
      refine z_getR dX4_copyFrom_25 fX4_15 (by first | assumption | exact And.left (by assumption)) rfl ?_
      refine z_iload_n dX4_copyFrom_28 rfl ?_
      refine z_zaldN dX4_copyFrom_29 (by first | assumption | exact And.left (by assumption)) (by omega) (by decide) (congrFun ((zup_a (by omega)).trans (orc_o (by omega) (by omega))) _) ?_
      refine z_zastN dX4_copyFrom_30 (by first | assumption | exact And.left (by assumption)) (by omega) (by decide) (g5 i (by omega)) ?_
      refine z_incN dX4_copyFrom_31 rfl rfl ?_
      refine z_goto (tgt := 2) dX4_copyFrom_34 (by decide) ?_
      rw [orc_s hab]
      exact ih _ (by omega) (i + 1) rfl (by omega)

set_option maxHeartbeats 4000000 in
set_option maxRecDepth 100000 in
theorem s_ORcopy {D : zD} {z0 nx : Nat} {L : zL} {V : zV} {a b : Nat} {o : List (Nat × Bool)} (hs : sOr L a) (hs2 : sOr L b) (h : OR V b o) (hab : a + 3 ≤ b ∨ b + 3 ≤ a) : Sp D z0 1 0 0 mX4_copyFrom [.ref a, .ref b] L V nx (zq none L nx (fun V' => zEq V V' a (a + 3) ∧ OR V' a o)) := by
  refine Sp.of 1 (by decide) rfl rfl (Nat.le_of_ble_eq_true rfl) ?_
  refine z_iconst (v := nI 0) dX4_copyFrom_0 rfl ?_
  refine z_istore_n dX4_copyFrom_1 (Nat.le_of_ble_eq_true rfl) rfl ?_
  have hz := lp_ORcopy (D := D) (z0 := z0) (nx := nx) hs hs2 h hab _ 0 rfl (by omega)
  rw [orc_0] at hz
  refine hz.mono (fun v L2 V2 n2 h2 => ?_)
  obtain ⟨e1, e2, e3, e4⟩ := h2
  subst e4
  exact ⟨e1, e2, e3, fun q hq => by rw [zup_a (by omega), orc_o (by omega) (by omega)], OR_copy h⟩

set_option maxHeartbeats 4000000 in
set_option maxRecDepth 100000 in
theorem lp_begins {D : zD} {z0 nx : Nat} {L : zL} {V : zV} {a b : Nat} {o o2 : List (Nat × Bool)} (hs : sOr L a) (hs2 : sOr L b) (h : OR V a o) (h4 : OR V b o2) (hle : o2.length ≤ o.length) : ∀ (fu : Nat) (i : Nat), o2.length - i = fu → i ≤ o2.length → (∀ k, k < i → o.getD k (0, false) = o2.getD k (0, false)) → Z D z0 1 0 0 mX4_beginsWith 0 0 15 [some (.ref a), some (.ref b), some (.int (nI i))] [] L V nx (zi (zb (o2.length ≤ o.length ∧ ∀ k, k < o2.length → o.getD k (0, false) = o2.getD k (0, false))) L V nx) := by
  intro fu
  induction fu using Nat.strongRecOn with
  | ind fu ih =>
    intro i h_fu h_0 h_1
    obtain ⟨h1, h2, h3⟩ := hs
    obtain ⟨k1, k2, k3⟩ := hs2
    obtain ⟨g1, g2, g3, g4, g5⟩ := h
    obtain ⟨r1, r2, r3, r4, r5⟩ := h4
    refine z_iload_n dX4_beginsWith_15 rfl ?_
    refine z_aload_n dX4_beginsWith_16 rfl ?_
    refine z_getIe dX4_beginsWith_17 fX4_19 (by first | assumption | exact And.left (by assumption)) rfl (by first | assumption | exact zup_s _ _ _ _ | rfl) ?_
    refine z_icmp_geN (tgt := 61) dX4_beginsWith_20 (by decide) (by omega) (by omega) (fun c_20 => ?_) (fun c_20 => ?_)
    · refine z_iconst (v := nI 1) dX4_beginsWith_61 rfl ?_
      refine z_zreturn dX4_beginsWith_62 (Nat.le_of_ble_eq_true rfl) (Nat.le_of_ble_eq_true rfl) rfl (by first | exact Or.inl rfl | exact Or.inr rfl | exact zb_01 _ | assumption) ?_
      exact zi_r (zb_t ⟨hle, fun k hk => h_1 k (by omega)⟩).symm
    · refine z_aload_n dX4_beginsWith_23 rfl ?_
      refine z_getR dX4_beginsWith_24 fX4_9 (by first | assumption | exact And.left (by assumption)) rfl ?_
      refine z_iload_n dX4_beginsWith_27 rfl ?_
      refine z_ialdN dX4_beginsWith_28 (by first | assumption | exact And.left (by assumption)) (by omega) (by decide) ((g3 i (by omega)).1) ?_
      refine z_aload_n dX4_beginsWith_29 rfl ?_
      refine z_getR dX4_beginsWith_30 fX4_9 (by first | assumption | exact And.left (by assumption)) rfl ?_
      refine z_iload_n dX4_beginsWith_33 rfl ?_
      refine z_ialdN dX4_beginsWith_34 (by first | assumption | exact And.left (by assumption)) (by omega) (by decide) ((r3 i (by omega)).1) ?_
      have b1 := g4 i (by omega)
      have b2 := r4 i (by omega)
      refine z_icmp_neN (tgt := 53) dX4_beginsWith_35 (by decide) (by omega) (by omega) (fun c_35 => ?_) (fun c_35 => ?_)
      · refine z_iconst (v := nI 0) dX4_beginsWith_53 rfl ?_
        refine z_zreturn dX4_beginsWith_54 (Nat.le_of_ble_eq_true rfl) (Nat.le_of_ble_eq_true rfl) rfl (by first | exact Or.inl rfl | exact Or.inr rfl | exact zb_01 _ | assumption) ?_
        exact zi_r (zb_f (fun q => by have e := q.2 i (by omega); simp_all)).symm
      · refine z_aload_n dX4_beginsWith_38 rfl ?_
        refine z_getR dX4_beginsWith_39 fX4_15 (by first | assumption | exact And.left (by assumption)) rfl ?_
        refine z_iload_n dX4_beginsWith_42 rfl ?_
        refine z_zaldN dX4_beginsWith_43 (by first | assumption | exact And.left (by assumption)) (by omega) (by decide) ((g3 i (by omega)).2) ?_
        refine z_aload_n dX4_beginsWith_44 rfl ?_
        refine z_getR dX4_beginsWith_45 fX4_15 (by first | assumption | exact And.left (by assumption)) rfl ?_
        refine z_iload_n dX4_beginsWith_48 rfl ?_
        refine z_zaldN dX4_beginsWith_49 (by first | assumption | exact And.left (by assumption)) (by omega) (by decide) ((r3 i (by omega)).2) ?_
        refine z_icmp_eq (tgt := 55) dX4_beginsWith_50 (by decide) (fun c_50 => ?_) (fun c_50 => ?_)
        · refine z_incN dX4_beginsWith_55 rfl rfl ?_
          refine z_goto (tgt := 15) dX4_beginsWith_58 (by decide) ?_
          exact ih _ (by omega) (i + 1) rfl (by omega) (lt_s h_1 (Prod.ext c_35 (zb_inj c_50)))
        · refine z_iconst (v := nI 0) dX4_beginsWith_53 rfl ?_
          refine z_zreturn dX4_beginsWith_54 (Nat.le_of_ble_eq_true rfl) (Nat.le_of_ble_eq_true rfl) rfl (by first | exact Or.inl rfl | exact Or.inr rfl | exact zb_01 _ | assumption) ?_
          exact zi_r (zb_f (fun q => by have e := q.2 i (by omega); simp_all)).symm

set_option maxHeartbeats 4000000 in
set_option maxRecDepth 100000 in
theorem s_begins {D : zD} {z0 nx : Nat} {L : zL} {V : zV} {a b : Nat} {o o2 : List (Nat × Bool)} (hs : sOr L a) (hs2 : sOr L b) (h : OR V a o) (h4 : OR V b o2) : Sp D z0 1 0 0 mX4_beginsWith [.ref a, .ref b] L V nx (zi (zb (o2.length ≤ o.length ∧ ∀ k, k < o2.length → o.getD k (0, false) = o2.getD k (0, false))) L V nx) := by
  have hs0 := hs
  have hs20 := hs2
  have h0 := h
  have h40 := h4
  obtain ⟨h1, h2, h3⟩ := hs
  obtain ⟨k1, k2, k3⟩ := hs2
  obtain ⟨g1, g2, g3, g4, g5⟩ := h
  obtain ⟨r1, r2, r3, r4, r5⟩ := h4
  refine Sp.of 1 (by decide) rfl rfl (Nat.le_of_ble_eq_true rfl) ?_
  refine z_aload_n dX4_beginsWith_0 rfl ?_
  refine z_getIe dX4_beginsWith_1 fX4_19 (by first | assumption | exact And.left (by assumption)) rfl (by first | assumption | exact zup_s _ _ _ _ | rfl) ?_
  refine z_aload_n dX4_beginsWith_4 rfl ?_
  refine z_getIe dX4_beginsWith_5 fX4_19 (by first | assumption | exact And.left (by assumption)) rfl (by first | assumption | exact zup_s _ _ _ _ | rfl) ?_
  refine z_icmp_leN (tgt := 13) dX4_beginsWith_8 (by decide) (by omega) (by omega) (fun c_8 => ?_) (fun c_8 => ?_)
  · refine z_iconst (v := nI 0) dX4_beginsWith_13 rfl ?_
    refine z_istore_n dX4_beginsWith_14 (Nat.le_of_ble_eq_true rfl) rfl ?_
    exact lp_begins hs0 hs20 h0 h40 (by omega) _ 0 rfl (by omega) (fun k hk => absurd hk (by omega))
  · refine z_iconst (v := nI 0) dX4_beginsWith_11 rfl ?_
    refine z_zreturn dX4_beginsWith_12 (Nat.le_of_ble_eq_true rfl) (Nat.le_of_ble_eq_true rfl) rfl (by first | exact Or.inl rfl | exact Or.inr rfl | exact zb_01 _ | assumption) ?_
    exact zi_r (zb_f (by omega)).symm

theorem DF_mk {V : zV} {a : Nat} {x : Df} (h1 : OR V (a + 1) x.1) (h2 : V a 1 = zb (x.2.1 = true)) (h3 : V a 2 = zb (x.2.2.1 = true)) (h4 : CO V (a + 4) x.2.2.2.1 x.2.2.2.2.1 x.2.2.2.2.2) : DF V a x := ⟨h1, h2, h3, h4⟩
theorem sDf.hL {L : zL} {a : Nat} (h : sDf L a) : L a = some (.inr (.inr (1, [some (.ref (a + 1)), none, none, some (.ref (a + 4))]))) := h.1

set_option maxHeartbeats 4000000 in
set_option maxRecDepth 100000 in
theorem s_DFclear {D : zD} {z0 nx : Nat} {L : zL} {V : zV} {a : Nat} (hs : sDf L a) (h : ∀ k, k < 3 → V (a + 3) k = 0 ∨ V (a + 3) k = 1) : Sp D z0 2 0 0 mX1_clearAll [.ref a] L V nx (zq none L nx (fun V' => zEq V V' a (a + 5) ∧ DF V' a ([], false, false, 0, 0, 0))) := by
  obtain ⟨h1, h2, h3⟩ := hs
  refine Sp.of 0 (by decide) rfl rfl (Nat.le_of_ble_eq_true rfl) ?_
  refine z_aload_n dX1_clearAll_0 rfl ?_
  refine z_getR dX1_clearAll_1 fX1_12 (by first | assumption | exact And.left (by assumption)) rfl ?_
  refine z_callV0w dX1_clearAll_4 kX4_clearAll lX1_25 (by first | assumption | exact And.left (by assumption)) rfl (s_ORclear (by assumption) (by assumption)) (Nat.le_of_ble_eq_true rfl) (Nat.le_of_ble_eq_true rfl) ⟨Nat.le_of_ble_eq_true rfl, Nat.le_of_ble_eq_true rfl⟩ ?_
  intro V1 hV1
  refine z_aload_n dX1_clearAll_7 rfl ?_
  refine z_iconst (v := nI 0) dX1_clearAll_8 rfl ?_
  refine z_putZ dX1_clearAll_9 fX1_28 (by first | assumption | exact And.left (by assumption)) rfl (by first | exact Or.inl rfl | exact Or.inr rfl | assumption) ?_
  refine z_aload_n dX1_clearAll_12 rfl ?_
  refine z_iconst (v := nI 0) dX1_clearAll_13 rfl ?_
  refine z_putZ dX1_clearAll_14 fX1_32 (by first | assumption | exact And.left (by assumption)) rfl (by first | exact Or.inl rfl | exact Or.inr rfl | assumption) ?_
  refine z_aload_n dX1_clearAll_17 rfl ?_
  refine z_getR dX1_clearAll_18 fX1_21 (by first | assumption | exact And.left (by assumption)) rfl ?_
  refine z_iconst (v := nI 0) dX1_clearAll_21 rfl ?_
  refine z_iconst (v := nI 0) dX1_clearAll_22 rfl ?_
  refine z_iconst (v := nI 0) dX1_clearAll_23 rfl ?_
  refine z_callV3w dX1_clearAll_24 kX0_tell lX1_35 (by first | assumption | exact And.left (by assumption)) rfl (s_COtell (by assumption) (by omega) (by omega) (by omega)) (Nat.le_of_ble_eq_true rfl) (Nat.le_of_ble_eq_true rfl) ⟨Nat.le_of_ble_eq_true rfl, Nat.le_of_ble_eq_true rfl⟩ ?_
  intro V2 hV2
  refine z_return dX1_clearAll_27 (Nat.le_of_ble_eq_true rfl) (Nat.le_of_ble_eq_true rfl) rfl ?_
  have e2 : zEq (zup (zup V1 a 1 (nI 0)) a 2 (nI 0)) V2 (a + 4) (a + 5) := hV2.1
  refine ⟨rfl, rfl, rfl, (((hV1.1.wide (by omega) (by omega)).up (by omega) (by omega)).up (by omega) (by omega)).trans (e2.wide (by omega) (by omega)), ?_⟩
  have o1 : OR (zup (zup V1 a 1 (nI 0)) a 2 (nI 0)) (a + 1) [] := hV1.2.eq ((zEq.rf (lo := a) (hi := a + 1)).up (by omega) (by omega) |>.up (by omega) (by omega)) (by omega)
  refine ⟨o1.eq e2 (by omega), ?_, ?_, hV2.2⟩
  · rw [e2 a (by omega), zup_k (by omega), zup_s, zb_f (by simp)]; rfl
  · rw [e2 a (by omega), zup_s, zb_f (by simp)]; rfl

set_option maxHeartbeats 4000000 in
set_option maxRecDepth 100000 in
theorem s_DFcopy {D : zD} {z0 nx : Nat} {L : zL} {V : zV} {a b : Nat} {x : Df} (hs : sDf L a) (hs2 : sDf L b) (h : DF V b x) (hab : a + 5 ≤ b ∨ b + 5 ≤ a) : Sp D z0 3 0 0 mX1_copyFrom [.ref a, .ref b] L V nx (zq none L nx (fun V' => zEq V V' a (a + 5) ∧ DF V' a x)) := by
  have h0 := h
  obtain ⟨h1, h2, h3⟩ := hs
  obtain ⟨k1, k2, k3⟩ := hs2
  obtain ⟨g1, g2, g3, g4⟩ := h
  refine Sp.of 0 (by decide) rfl rfl (Nat.le_of_ble_eq_true rfl) ?_
  refine z_aload_n dX1_copyFrom_0 rfl ?_
  refine z_getR dX1_copyFrom_1 fX1_12 (by first | assumption | exact And.left (by assumption)) rfl ?_
  refine z_aload_n dX1_copyFrom_4 rfl ?_
  refine z_getR dX1_copyFrom_5 fX1_12 (by first | assumption | exact And.left (by assumption)) rfl ?_
  refine z_callV1w dX1_copyFrom_8 kX4_copyFrom lX1_39 (by first | assumption | exact And.left (by assumption)) rfl (s_ORcopy (by assumption) (by assumption) (by assumption) (by omega)) (Nat.le_of_ble_eq_true rfl) (Nat.le_of_ble_eq_true rfl) ⟨Nat.le_of_ble_eq_true rfl, Nat.le_of_ble_eq_true rfl⟩ ?_
  intro V1 hV1
  have ea : V1 b = V b := hV1.1 b (by omega)
  refine z_aload_n dX1_copyFrom_11 rfl ?_
  refine z_aload_n dX1_copyFrom_12 rfl ?_
  refine z_getIe dX1_copyFrom_13 fX1_28 (by first | assumption | exact And.left (by assumption)) rfl ((congrFun ea _).trans g2) ?_
  refine z_putZb dX1_copyFrom_16 fX1_28 (by first | assumption | exact And.left (by assumption)) rfl ?_
  refine z_aload_n dX1_copyFrom_19 rfl ?_
  refine z_aload_n dX1_copyFrom_20 rfl ?_
  refine z_getIe dX1_copyFrom_21 fX1_32 (by first | assumption | exact And.left (by assumption)) rfl ((congrFun ((zup_a (by omega)).trans ea) _).trans g3) ?_
  refine z_putZb dX1_copyFrom_24 fX1_32 (by first | assumption | exact And.left (by assumption)) rfl ?_
  refine z_aload_n dX1_copyFrom_27 rfl ?_
  refine z_getR dX1_copyFrom_28 fX1_21 (by first | assumption | exact And.left (by assumption)) rfl ?_
  refine z_aload_n dX1_copyFrom_31 rfl ?_
  refine z_getR dX1_copyFrom_32 fX1_21 (by first | assumption | exact And.left (by assumption)) rfl ?_
  have e1 : zEq V (zup (zup V1 a 1 (zb (x.2.1 = true))) a 2 (zb (x.2.2.1 = true))) a (a + 4) := ((hV1.1.wide (by omega) (by omega)).up (by omega) (by omega)).up (by omega) (by omega)
  have g5 := g4.eq e1 (by omega)
  refine z_callV1w dX1_copyFrom_35 kX0_copyFrom lX1_43 (by first | assumption | exact And.left (by assumption)) rfl (s_COcopy (by assumption) (by assumption) (by assumption)) (Nat.le_of_ble_eq_true rfl) (Nat.le_of_ble_eq_true rfl) ⟨Nat.le_of_ble_eq_true rfl, Nat.le_of_ble_eq_true rfl⟩ ?_
  intro V2 hV2
  refine z_return dX1_copyFrom_38 (Nat.le_of_ble_eq_true rfl) (Nat.le_of_ble_eq_true rfl) rfl ?_
  have e2 := hV2.1
  refine ⟨rfl, rfl, rfl, (e1.wide (by omega) (by omega)).trans (e2.wide (by omega) (by omega)), ?_⟩
  have o1 : OR (zup (zup V1 a 1 (zb (x.2.1 = true))) a 2 (zb (x.2.2.1 = true))) (a + 1) x.1 := hV1.2.eq ((zEq.rf (lo := a) (hi := a + 1)).up (by omega) (by omega) |>.up (by omega) (by omega)) (by omega)
  refine ⟨o1.eq e2 (by omega), ?_, ?_, hV2.2⟩
  · rw [e2 a (by omega), zup_k (by omega), zup_s]
  · rw [e2 a (by omega), zup_s]

/-- the entry of a row by a definition: none, or its code -/
noncomputable def eo (x : Df) (v : Option Nat) (r : Nat) : Option Nat := match v with
  | none => none
  | some p => @ite _ (x.2.2.1 = true ∧ ¬ ft x.2.2.2.2.1 (pt p x.2.2.2.1) x.2.2.2.2.2) (Classical.propDecidable _) none (some (rk x.1 p 3 * 64 + r))
def vv : Option Nat → Int32
  | none => -1
  | some p => nI p
theorem nI_ne_m1 {n : Nat} (h : n < 2147483648) : ¬ nI n = -1 := fun q => by
  have : ¬ nI n < 0 := nI_pos h
  rw [q] at this
  exact this (by decide)

set_option maxHeartbeats 4000000 in
set_option maxRecDepth 100000 in
theorem s_entryNone {D : zD} {z0 nx : Nat} {L : zL} {V : zV} {a r : Nat} {x : Df} (hs : sDf L a) (h : DF V a x) : Sp D z0 3 0 0 mX1_entryOf [.ref a, .int (-1), .int (nI r)] L V nx (zi (vv (eo x none r)) L V nx) := by
  refine Sp.of 0 (by decide) rfl rfl (Nat.le_of_ble_eq_true rfl) ?_
  refine z_iload_n dX1_entryOf_0 rfl ?_
  refine z_iconst (v := (-1)) dX1_entryOf_1 rfl ?_
  refine z_icmp_eq (tgt := 23) dX1_entryOf_2 (by decide) (fun c_2 => ?_) (fun c_2 => ?_)
  · refine z_iconst (v := (-1)) dX1_entryOf_23 rfl ?_
    refine z_ireturn dX1_entryOf_24 (Nat.le_of_ble_eq_true rfl) (Nat.le_of_ble_eq_true rfl) rfl ?_
    exact zi_r rfl
  · exact absurd rfl c_2

set_option maxHeartbeats 4000000 in
set_option maxRecDepth 100000 in
theorem s_entrySome {D : zD} {z0 nx : Nat} {L : zL} {V : zV} {a r p : Nat} {x : Df} (hs : sDf L a) (h : DF V a x) (hp : p < 1000000) (hr : r < 64) : Sp D z0 3 0 0 mX1_entryOf [.ref a, .int (nI p), .int (nI r)] L V nx (zi (vv (eo x (some p) r)) L V nx) := by
  obtain ⟨h1, h2, h3⟩ := hs
  obtain ⟨g1, g2, g3, g4⟩ := h
  have hrk := (rk_3 x.1 hp).2.2
  refine Sp.of 0 (by decide) rfl rfl (Nat.le_of_ble_eq_true rfl) ?_
  refine z_iload_n dX1_entryOf_0 rfl ?_
  refine z_iconst (v := (-1)) dX1_entryOf_1 rfl ?_
  refine z_icmp_eq (tgt := 23) dX1_entryOf_2 (by decide) (fun c_2 => ?_) (fun c_2 => ?_)
  · exact absurd c_2 (nI_ne_m1 (by omega))
  · refine z_aload_n dX1_entryOf_5 rfl ?_
    refine z_getIe dX1_entryOf_6 fX1_32 (by first | assumption | exact And.left (by assumption)) rfl (by first | assumption | exact zup_s _ _ _ _ | rfl) ?_
    refine z_if_eqB (tgt := 25) dX1_entryOf_9 (by decide) (fun c_9 => ?_) (fun c_9 => ?_)
    · refine z_aload_n dX1_entryOf_25 rfl ?_
      refine z_getR dX1_entryOf_26 fX1_12 (by first | assumption | exact And.left (by assumption)) rfl ?_
      refine z_iload_n dX1_entryOf_29 rfl ?_
      refine z_callV1i dX1_entryOf_30 kX4_rankOf lX1_50 (by first | assumption | exact And.left (by assumption)) rfl (s_rankOf (by assumption) (by assumption) (by omega)) (Nat.le_of_ble_eq_true rfl) (Nat.le_of_ble_eq_true rfl) ⟨Nat.le_of_ble_eq_true rfl, Nat.le_of_ble_eq_true rfl⟩ ?_
      refine z_iload_n dX1_entryOf_33 rfl ?_
      refine z_callS2i dX1_entryOf_34 kX6_codeOf lX1_54 (s_codeOf (by omega) (by omega)) (Nat.le_of_ble_eq_true rfl) (Nat.le_of_ble_eq_true rfl) ⟨Nat.le_of_ble_eq_true rfl, Nat.le_of_ble_eq_true rfl⟩ ?_
      refine z_ireturn dX1_entryOf_37 (Nat.le_of_ble_eq_true rfl) (Nat.le_of_ble_eq_true rfl) rfl ?_
      exact zi_r (by rw [eo, if_neg (by first | exact fun q => c_9 q.1 | exact fun q => q.2 c_20)]; rfl)
    · refine z_aload_n dX1_entryOf_12 rfl ?_
      refine z_getR dX1_entryOf_13 fX1_21 (by first | assumption | exact And.left (by assumption)) rfl ?_
      refine z_iload_n dX1_entryOf_16 rfl ?_
      refine z_callV1i dX1_entryOf_17 kX0_holdsFor lX1_46 (by first | assumption | exact And.left (by assumption)) rfl (s_holdsFor (by assumption) (by assumption) (by omega)) (Nat.le_of_ble_eq_true rfl) (Nat.le_of_ble_eq_true rfl) ⟨Nat.le_of_ble_eq_true rfl, Nat.le_of_ble_eq_true rfl⟩ ?_
      refine z_if_neB (tgt := 25) dX1_entryOf_20 (by decide) (fun c_20 => ?_) (fun c_20 => ?_)
      · refine z_aload_n dX1_entryOf_25 rfl ?_
        refine z_getR dX1_entryOf_26 fX1_12 (by first | assumption | exact And.left (by assumption)) rfl ?_
        refine z_iload_n dX1_entryOf_29 rfl ?_
        refine z_callV1i dX1_entryOf_30 kX4_rankOf lX1_50 (by first | assumption | exact And.left (by assumption)) rfl (s_rankOf (by assumption) (by assumption) (by omega)) (Nat.le_of_ble_eq_true rfl) (Nat.le_of_ble_eq_true rfl) ⟨Nat.le_of_ble_eq_true rfl, Nat.le_of_ble_eq_true rfl⟩ ?_
        refine z_iload_n dX1_entryOf_33 rfl ?_
        refine z_callS2i dX1_entryOf_34 kX6_codeOf lX1_54 (s_codeOf (by omega) (by omega)) (Nat.le_of_ble_eq_true rfl) (Nat.le_of_ble_eq_true rfl) ⟨Nat.le_of_ble_eq_true rfl, Nat.le_of_ble_eq_true rfl⟩ ?_
        refine z_ireturn dX1_entryOf_37 (Nat.le_of_ble_eq_true rfl) (Nat.le_of_ble_eq_true rfl) rfl ?_
        exact zi_r (by rw [eo, if_neg (by first | exact fun q => c_9 q.1 | exact fun q => q.2 c_20)]; rfl)
      · refine z_iconst (v := (-1)) dX1_entryOf_23 rfl ?_
        refine z_ireturn dX1_entryOf_24 (Nat.le_of_ble_eq_true rfl) (Nat.le_of_ble_eq_true rfl) rfl ?_
        exact zi_r (by rw [eo, if_pos ⟨c_9, c_20⟩]; rfl)

theorem s_entryOf {D : zD} {z0 nx : Nat} {L : zL} {V : zV} {a r : Nat} {x : Df} {v : Option Nat} (hs : sDf L a) (h : DF V a x) (hv : ∀ p, v = some p → p < 1000000) (hr : r < 64) : Sp D z0 3 0 0 mX1_entryOf [.ref a, .int (vv v), .int (nI r)] L V nx (zi (vv (eo x v r)) L V nx) := by
  cases v with
  | none => exact s_entryNone hs h
  | some p => exact s_entrySome hs h (hv p rfl) hr

