/-! the reference: whether a version is seen -/
def msT (s : St) (l : List (Nat × Option Nat)) (k t : Nat) : Prop := (s.2.2.1 t).1 = true ∧ vpl l (s.2.2.1 t).2.1 (l.length - 1) = k
def msI (s : St) (l : List (Nat × Option Nat)) (k i : Nat) : Prop := (s.2.2.2 i).1.1 = 1 ∧ vpl l (s.2.2.2 i).1.2.1 (l.length - 1) = k
def msn (s : St) (l : List (Nat × Option Nat)) (k : Nat) : Prop := k = l.length - 1 ∨ (∃ t, t < 4 ∧ msT s l k t) ∨ ∃ i, i < 2 ∧ msI s l k i

set_option maxHeartbeats 4000000 in
set_option maxRecDepth 100000 in
theorem lp_snI {D : zD} {z0 nx : Nat} {L : zL} {V : zV} {m r k : Nat} {s : St} (hm : sM L m) (hB : MB (V (m + 1)) s) (hr : r < 48) (hk : k < (s.2.1 r).length) (n1 : ¬ k = (s.2.1 r).length - 1) (n2 : ¬ ∃ t, t < 4 ∧ msT s (s.2.1 r) k t) : ∀ (fu : Nat) (i : Nat), 2 - i = fu → i ≤ 2 → (∀ q, q < i → ¬ msI s (s.2.1 r) k q) → Z D z0 3 0 0 mX12_isSeen 0 0 51 [some (.ref m), some (.int (nI r)), some (.int (nI (40 * r + 5 * k))), some (.int (nI i))] [] L V nx (zi (zb (msn s (s.2.1 r) k)) L V nx) := by
  intro fu
  induction fu using Nat.strongRecOn with
  | ind fu ih =>
    intro i h_fu h_0 h_1
    have hm0 := hm
    obtain ⟨a0, a1, a2, a3, a4, a5, a6, a7, a8, a9, a10, a11, a12, a13, a14, a15⟩ := hm
    have hv0 := hB.2.1 r hr
    have hv3 := hv0.2.2.1
    refine z_iload_n dX12_isSeen_51 rfl ?_
    refine z_iconst (v := nI 2) dX12_isSeen_52 rfl ?_
    refine z_icmp_geN (tgt := 89) dX12_isSeen_53 (by decide) (by omega) (by omega) (fun c_53 => ?_) (fun c_53 => ?_)
    · refine z_iconst (v := nI 0) dX12_isSeen_89 rfl ?_
      refine z_zreturn dX12_isSeen_90 (Nat.le_of_ble_eq_true rfl) (Nat.le_of_ble_eq_true rfl) rfl (by first | exact Or.inl rfl | exact Or.inr rfl | exact zb_01 _ | assumption) ?_
      exact zi_r (zb_f (fun z => z.elim n1 (fun z2 => z2.elim n2 (fun ⟨q, q1, q2⟩ => h_1 q (by omega) q2)))).symm
    · obtain ⟨x1, x2, x3, x4, x5, x6⟩ := hB.2.2.2 i (by omega)
      obtain ⟨g1, g2, g3, g4, g5⟩ := x1
      have hs6 := x6.1
      have hsq := x6.2.1
      have hvl := vpl_le (s.2.1 r) (s.2.2.2 i).1.2.1 ((s.2.1 r).length - 1)
      refine z_aload_n dX12_isSeen_56 rfl ?_
      refine z_iload_n dX12_isSeen_57 rfl ?_
      refine z_iconst (v := nI 0) dX12_isSeen_58 rfl ?_
      refine z_callV2i dX12_isSeen_59 kX12_ofIndex lX12_104 (by first | assumption | exact And.left (by assumption)) rfl (s_ofIx hm0 (by omega) (by omega) g1) (Nat.le_of_ble_eq_true rfl) (Nat.le_of_ble_eq_true rfl) ⟨Nat.le_of_ble_eq_true rfl, Nat.le_of_ble_eq_true rfl⟩ ?_
      refine z_iconst (v := nI 1) dX12_isSeen_62 rfl ?_
      refine z_icmp_neN (tgt := 83) dX12_isSeen_63 (by decide) (by omega) (by omega) (fun c_63 => ?_) (fun c_63 => ?_)
      · have hno : ¬ msI s (s.2.1 r) k i := fun z => c_63 z.1
        refine z_incN dX12_isSeen_83 rfl rfl ?_
        refine z_goto (tgt := 51) dX12_isSeen_86 (by decide) ?_
        exact ih _ (by omega) (i + 1) rfl (by omega) (lt_s h_1 hno)
      · rw [if_pos c_63] at g4
        refine z_aload_n dX12_isSeen_66 rfl ?_
        refine z_iload_n dX12_isSeen_67 rfl ?_
        refine z_aload_n dX12_isSeen_68 rfl ?_
        refine z_iload_n dX12_isSeen_69 rfl ?_
        refine z_iconst (v := nI 3) dX12_isSeen_70 rfl ?_
        refine z_callV2i dX12_isSeen_71 kX12_ofIndex lX12_104 (by first | assumption | exact And.left (by assumption)) rfl (s_ofIx hm0 (by omega) (by omega) g4) (Nat.le_of_ble_eq_true rfl) (Nat.le_of_ble_eq_true rfl) ⟨Nat.le_of_ble_eq_true rfl, Nat.le_of_ble_eq_true rfl⟩ ?_
        refine z_callV2i dX12_isSeen_74 kX12_versionAt lX12_101 (by first | assumption | exact And.left (by assumption)) rfl (s_mVer hm0 hr hv0 hsq) (Nat.le_of_ble_eq_true rfl) (Nat.le_of_ble_eq_true rfl) ⟨Nat.le_of_ble_eq_true rfl, Nat.le_of_ble_eq_true rfl⟩ ?_
        refine z_iload_n dX12_isSeen_77 rfl ?_
        refine z_icmp_neN (tgt := 83) dX12_isSeen_78 (by decide) (by omega) (by omega) (fun c_78 => ?_) (fun c_78 => ?_)
        · have hno : ¬ msI s (s.2.1 r) k i := fun z => by have := z.2; omega
          refine z_incN dX12_isSeen_83 rfl rfl ?_
          refine z_goto (tgt := 51) dX12_isSeen_86 (by decide) ?_
          exact ih _ (by omega) (i + 1) rfl (by omega) (lt_s h_1 hno)
        · refine z_iconst (v := nI 1) dX12_isSeen_81 rfl ?_
          refine z_zreturn dX12_isSeen_82 (Nat.le_of_ble_eq_true rfl) (Nat.le_of_ble_eq_true rfl) rfl (by first | exact Or.inl rfl | exact Or.inr rfl | exact zb_01 _ | assumption) ?_
          exact zi_r (zb_t (Or.inr (Or.inr ⟨i, by omega, c_63, by omega⟩))).symm

set_option maxHeartbeats 4000000 in
set_option maxRecDepth 100000 in
theorem lp_snT {D : zD} {z0 nx : Nat} {L : zL} {V : zV} {m r k : Nat} {s : St} (hm : sM L m) (hB : MB (V (m + 1)) s) (hr : r < 48) (hk : k < (s.2.1 r).length) (n1 : ¬ k = (s.2.1 r).length - 1) : ∀ (fu : Nat) (i : Nat), 4 - i = fu → i ≤ 4 → (∀ q, q < i → ¬ msT s (s.2.1 r) k q) → Z D z0 3 0 0 mX12_isSeen 0 0 13 [some (.ref m), some (.int (nI r)), some (.int (nI (40 * r + 5 * k))), some (.int (nI i))] [] L V nx (zi (zb (msn s (s.2.1 r) k)) L V nx) := by
  intro fu
  induction fu using Nat.strongRecOn with
  | ind fu ih =>
    intro i h_fu h_0 h_1
    have hm0 := hm
    obtain ⟨a0, a1, a2, a3, a4, a5, a6, a7, a8, a9, a10, a11, a12, a13, a14, a15⟩ := hm
    have hv0 := hB.2.1 r hr
    have hv3 := hv0.2.2.1
    refine z_iload_n dX12_isSeen_13 rfl ?_
    refine z_iconst (v := nI 4) dX12_isSeen_14 rfl ?_
    refine z_icmp_geN (tgt := 49) dX12_isSeen_15 (by decide) (by omega) (by omega) (fun c_15 => ?_) (fun c_15 => ?_)
    · refine z_iconst (v := nI 0) dX12_isSeen_49 rfl ?_
      refine z_istore_n dX12_isSeen_50 (Nat.le_of_ble_eq_true rfl) rfl ?_
      exact lp_snI hm0 hB hr hk n1 (fun ⟨q, q1, q2⟩ => h_1 q (by omega) q2) _ 0 rfl (by omega) (fun q hq => absurd hq (by omega))
    · have hT0 := hB.2.2.1 i (by omega)
      obtain ⟨x1, x2, x3, ws, xw⟩ := hB.2.2.1 i (by omega)
      have hvl := vpl_le (s.2.1 r) (s.2.2.1 i).2.1 ((s.2.1 r).length - 1)
      refine z_aload_n dX12_isSeen_18 rfl ?_
      refine z_iload_n dX12_isSeen_19 rfl ?_
      refine z_callV1i dX12_isSeen_20 kX12_isOpen lX12_149 (by first | assumption | exact And.left (by assumption)) rfl (s_mOpen hm0 (by omega) hT0) (Nat.le_of_ble_eq_true rfl) (Nat.le_of_ble_eq_true rfl) ⟨Nat.le_of_ble_eq_true rfl, Nat.le_of_ble_eq_true rfl⟩ ?_
      refine z_if_eqB (tgt := 43) dX12_isSeen_23 (by decide) (fun c_23 => ?_) (fun c_23 => ?_)
      · have hno : ¬ msT s (s.2.1 r) k i := fun z => c_23 z.1
        refine z_incN dX12_isSeen_43 rfl rfl ?_
        refine z_goto (tgt := 13) dX12_isSeen_46 (by decide) ?_
        exact ih _ (by omega) (i + 1) rfl (by omega) (lt_s h_1 hno)
      · refine z_aload_n dX12_isSeen_26 rfl ?_
        refine z_iload_n dX12_isSeen_27 rfl ?_
        refine z_aload_n dX12_isSeen_28 rfl ?_
        refine z_iload_n dX12_isSeen_29 rfl ?_
        refine z_iconst (v := nI 1) dX12_isSeen_30 rfl ?_
        refine z_callV2i dX12_isSeen_31 kX12_ofTransaction lX12_94 (by first | assumption | exact And.left (by assumption)) rfl (s_ofTr hm0 (by omega) (by omega) x2) (Nat.le_of_ble_eq_true rfl) (Nat.le_of_ble_eq_true rfl) ⟨Nat.le_of_ble_eq_true rfl, Nat.le_of_ble_eq_true rfl⟩ ?_
        refine z_callV2i dX12_isSeen_34 kX12_versionAt lX12_101 (by first | assumption | exact And.left (by assumption)) rfl (s_mVer hm0 hr hv0 x3) (Nat.le_of_ble_eq_true rfl) (Nat.le_of_ble_eq_true rfl) ⟨Nat.le_of_ble_eq_true rfl, Nat.le_of_ble_eq_true rfl⟩ ?_
        refine z_iload_n dX12_isSeen_37 rfl ?_
        refine z_icmp_neN (tgt := 43) dX12_isSeen_38 (by decide) (by omega) (by omega) (fun c_38 => ?_) (fun c_38 => ?_)
        · have hno : ¬ msT s (s.2.1 r) k i := fun z => by have := z.2; omega
          refine z_incN dX12_isSeen_43 rfl rfl ?_
          refine z_goto (tgt := 13) dX12_isSeen_46 (by decide) ?_
          exact ih _ (by omega) (i + 1) rfl (by omega) (lt_s h_1 hno)
        · refine z_iconst (v := nI 1) dX12_isSeen_41 rfl ?_
          refine z_zreturn dX12_isSeen_42 (Nat.le_of_ble_eq_true rfl) (Nat.le_of_ble_eq_true rfl) rfl (by first | exact Or.inl rfl | exact Or.inr rfl | exact zb_01 _ | assumption) ?_
          exact zi_r (zb_t (Or.inr (Or.inl ⟨i, by omega, c_23, by omega⟩))).symm

set_option maxHeartbeats 4000000 in
set_option maxRecDepth 100000 in
theorem s_isSeen {D : zD} {z0 nx : Nat} {L : zL} {V : zV} {m r k : Nat} {s : St} (hm : sM L m) (hB : MB (V (m + 1)) s) (hr : r < 48) (hk : k < (s.2.1 r).length) : Sp D z0 3 0 0 mX12_isSeen [.ref m, .int (nI r), .int (nI (40 * r + 5 * k))] L V nx (zi (zb (msn s (s.2.1 r) k)) L V nx) := by
  have hm0 := hm
  obtain ⟨a0, a1, a2, a3, a4, a5, a6, a7, a8, a9, a10, a11, a12, a13, a14, a15⟩ := hm
  have hv0 := hB.2.1 r hr
  have hv3 := hv0.2.2.1
  refine Sp.of 1 (by decide) rfl rfl (Nat.le_of_ble_eq_true rfl) ?_
  refine z_iload_n dX12_isSeen_0 rfl ?_
  refine z_aload_n dX12_isSeen_1 rfl ?_
  refine z_iload_n dX12_isSeen_2 rfl ?_
  refine z_callV1i dX12_isSeen_3 kX12_latest lX12_171 (by first | assumption | exact And.left (by assumption)) rfl (s_mLatest hm0 hr hv0) (Nat.le_of_ble_eq_true rfl) (Nat.le_of_ble_eq_true rfl) ⟨Nat.le_of_ble_eq_true rfl, Nat.le_of_ble_eq_true rfl⟩ ?_
  refine z_icmp_neN (tgt := 11) dX12_isSeen_6 (by decide) (by omega) (by omega) (fun c_6 => ?_) (fun c_6 => ?_)
  · have n1 : ¬ k = (s.2.1 r).length - 1 := fun z => by omega
    refine z_iconst (v := nI 0) dX12_isSeen_11 rfl ?_
    refine z_istore_n dX12_isSeen_12 (Nat.le_of_ble_eq_true rfl) rfl ?_
    exact lp_snT hm0 hB hr hk n1 _ 0 rfl (by omega) (fun q hq => absurd hq (by omega))
  · refine z_iconst (v := nI 1) dX12_isSeen_9 rfl ?_
    refine z_zreturn dX12_isSeen_10 (Nat.le_of_ble_eq_true rfl) (Nat.le_of_ble_eq_true rfl) rfl (by first | exact Or.inl rfl | exact Or.inr rfl | exact zb_01 _ | assumption) ?_
    exact zi_r (zb_t (Or.inl (by omega))).symm

