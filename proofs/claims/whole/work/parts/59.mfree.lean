/-! the reference: a free row; entries by a key -/
def fr0 (w : Wo) (r n : Nat) : Prop := (lst w.1.2.1 r).2 = none ∧ ∀ k, k < n → (w.1.2.2.1 k).2.2 r = none
theorem fr0_s {w : Wo} {r n : Nat} : fr0 w r (n + 1) ↔ fr0 w r n ∧ (w.1.2.2.1 n).2.2 r = none := by
  constructor
  · rintro ⟨h1, h2⟩
    exact ⟨⟨h1, fun k hk => h2 k (by omega)⟩, h2 n (by omega)⟩
  · rintro ⟨⟨h1, h2⟩, h3⟩
    refine ⟨h1, fun k hk => ?_⟩
    by_cases e : k = n
    · rw [e]; exact h3
    · exact h2 k (by omega)
theorem fr0_n {w : Wo} {r n : Nat} (h : ¬ fr0 w r n) : ¬ fr0 w r (n + 1) := fun q => h (fr0_s.mp q).1
theorem fr0_4 {w : Wo} {r : Nat} : fr0 w r 4 ↔ fre w r := by
  constructor
  · rintro ⟨h1, h2⟩
    exact ⟨h1, fun ⟨k, k1, k2⟩ => k2 (h2 k k1)⟩
  · rintro ⟨h1, h2⟩
    exact ⟨h1, fun k hk => Classical.byContradiction (fun q => h2 ⟨k, hk, q⟩)⟩
theorem fr0_f {w : Wo} {r n : Nat} (hn : n ≤ 4) (h : ¬ fr0 w r n) : ¬ fr0 w r 4 := fun q => h ⟨q.1, fun k hk => q.2 k (by omega)⟩

set_option maxHeartbeats 4000000 in
set_option maxRecDepth 100000 in
theorem lp_frI {D : zD} {z0 nx : Nat} {L : zL} {V : zV} {m r : Nat} {w : Wo} (hm : sM L m) (hB : MB (V (m + 1)) w.1) (hcl : ∀ k, k < 4 → ¬ (w.1.2.2.1 k).1 = true → (tof w k).2.2 = fun _ => none) (hr : r < 48) {P : zP} (K : Z D z0 4 0 0 mX12_free 0 0 75 [some (.ref m), some (.int (nI r)), some (.int (zb (fr0 w r 4))), none] [] L V nx P) : ∀ (fu : Nat) (t : Nat), 4 - t = fu → t ≤ 4 → Z D z0 4 0 0 mX12_free 0 0 36 [some (.ref m), some (.int (nI r)), some (.int (zb (fr0 w r t))), some (.int (nI t))] [] L V nx (P) := by
  intro fu
  induction fu using Nat.strongRecOn with
  | ind fu ih =>
    intro t h_fu h_0
    have hm0 := hm
    obtain ⟨a0, a1, a2, a3, a4, a5, a6, a7, a8, a9, a10, a11, a12, a13, a14, a15⟩ := hm
    refine z_iload_n dX12_free_36 rfl ?_
    refine z_iconst (v := nI 4) dX12_free_37 rfl ?_
    refine z_icmp_geN (tgt := 75) dX12_free_38 (by decide) (by omega) (by omega) (fun c_38 => ?_) (fun c_38 => ?_)
    · have e4 : t = 4 := by omega
      subst e4
      refine z_fg 3 ?_
      exact K
    · obtain ⟨x1, x2, x3, ws, xw⟩ := hB.2.2.1 t (by omega)
      refine z_iload_n dX12_free_41 rfl ?_
      refine z_if_eqB (tgt := 75) dX12_free_42 (by decide) (fun c_42 => ?_) (fun c_42 => ?_)
      · have hzF : zb (fr0 w r t) = zb (fr0 w r 4) := by rw [zb_f c_42, zb_f (fr0_f h_0 c_42)]
        rw [hzF]
        refine z_fg 3 ?_
        exact K
      · refine z_aload_n dX12_free_45 rfl ?_
        refine z_iload_n dX12_free_46 rfl ?_
        refine z_callV1i dX12_free_47 kX12_isOpen lX12_149 (by first | assumption | exact And.left (by assumption)) rfl (s_mOpen hm0 (by omega) (hB.2.2.1 t (by omega))) (Nat.le_of_ble_eq_true rfl) (Nat.le_of_ble_eq_true rfl) ⟨Nat.le_of_ble_eq_true rfl, Nat.le_of_ble_eq_true rfl⟩ ?_
        refine z_if_eqB (tgt := 63) dX12_free_50 (by decide) (fun c_50 => ?_) (fun c_50 => ?_)
        · have hwn : (w.1.2.2.1 t).2.2 r = none := congrFun (hcl t (by omega) c_50) r
          have eN : nI 1 = zb (fr0 w r (t + 1)) := (zb_t (fr0_s.mpr ⟨c_42, hwn⟩)).symm
          refine z_iconst (v := nI 1) dX12_free_63 rfl ?_
          refine z_goto (tgt := 68) dX12_free_64 (by decide) ?_
          refine z_istore_n dX12_free_68 (Nat.le_of_ble_eq_true rfl) rfl ?_
          refine z_incN dX12_free_69 rfl rfl ?_
          refine z_goto (tgt := 36) dX12_free_72 (by decide) ?_
          rw [eN]
          exact ih _ (by omega) (t + 1) rfl (by omega)
        · refine z_aload_n dX12_free_53 rfl ?_
          refine z_iload_n dX12_free_54 rfl ?_
          refine z_iload_n dX12_free_55 rfl ?_
          refine z_callV2i dX12_free_56 kX12_writeAt lX12_98 (by first | assumption | exact And.left (by assumption)) rfl (s_mWr hm0 (by omega) hr xw) (Nat.le_of_ble_eq_true rfl) (Nat.le_of_ble_eq_true rfl) ⟨Nat.le_of_ble_eq_true rfl, Nat.le_of_ble_eq_true rfl⟩ ?_
          refine z_iconst (v := (-1)) dX12_free_59 rfl ?_
          refine z_icmp_ne (tgt := 67) dX12_free_60 (by decide) (fun c_60 => ?_) (fun c_60 => ?_)
          · have hw : wpl ws r < ws.length := Classical.byContradiction (fun z => c_60 (if_neg z))
            have hwn := (wpl_nn xw hr).mp hw
            have eN : nI 0 = zb (fr0 w r (t + 1)) := (zb_f (fun q => hwn (fr0_s.mp q).2)).symm
            refine z_iconst (v := nI 0) dX12_free_67 rfl ?_
            refine z_istore_n dX12_free_68 (Nat.le_of_ble_eq_true rfl) rfl ?_
            refine z_incN dX12_free_69 rfl rfl ?_
            refine z_goto (tgt := 36) dX12_free_72 (by decide) ?_
            rw [eN]
            exact ih _ (by omega) (t + 1) rfl (by omega)
          · have w2 := xw.2.1
            have hw : ¬ wpl ws r < ws.length := fun z => by rw [if_pos z] at c_60; exact nI_ne_m1 (by omega) c_60
            have hwn : (w.1.2.2.1 t).2.2 r = none := wpl_n xw hr hw
            have eN : nI 1 = zb (fr0 w r (t + 1)) := (zb_t (fr0_s.mpr ⟨c_42, hwn⟩)).symm
            refine z_iconst (v := nI 1) dX12_free_63 rfl ?_
            refine z_goto (tgt := 68) dX12_free_64 (by decide) ?_
            refine z_istore_n dX12_free_68 (Nat.le_of_ble_eq_true rfl) rfl ?_
            refine z_incN dX12_free_69 rfl rfl ?_
            refine z_goto (tgt := 36) dX12_free_72 (by decide) ?_
            rw [eN]
            exact ih _ (by omega) (t + 1) rfl (by omega)

theorem lp_frI0 {D : zD} {z0 nx : Nat} {L : zL} {V : zV} {m r : Nat} {w : Wo} (hm : sM L m) (hB : MB (V (m + 1)) w.1) (hcl : ∀ k, k < 4 → ¬ (w.1.2.2.1 k).1 = true → (tof w k).2.2 = fun _ => none) (hr : r < 48) {P : zP} {b0 : Int32} (hb : b0 = zb (fr0 w r 0)) (K : Z D z0 4 0 0 mX12_free 0 0 75 [some (.ref m), some (.int (nI r)), some (.int (zb (fr0 w r 4))), none] [] L V nx P) : Z D z0 4 0 0 mX12_free 0 0 36 [some (.ref m), some (.int (nI r)), some (.int b0), some (.int (nI 0))] [] L V nx P := by
  rw [hb]
  exact lp_frI hm hB hcl hr K _ 0 rfl (by omega)

set_option maxHeartbeats 4000000 in
set_option maxRecDepth 100000 in
theorem lp_frO {D : zD} {z0 nx : Nat} {L : zL} {V : zV} {m : Nat} {w : Wo} (hm : sM L m) (hB : MB (V (m + 1)) w.1) (hcl : ∀ k, k < 4 → ¬ (w.1.2.2.1 k).1 = true → (tof w k).2.2 = fun _ => none) : ∀ (fu : Nat) (r : Nat), 48 - r = fu → r ≤ 48 → (∀ k, k < r → ¬ fre w k) → Z D z0 4 0 0 mX12_free 0 0 7 [some (.ref m), some (.int (nI r)), none, none] [] L V nx (zi (o_free w).1 L V nx) := by
  intro fu
  induction fu using Nat.strongRecOn with
  | ind fu ih =>
    intro r h_fu h_0 h_1
    have hm0 := hm
    obtain ⟨a0, a1, a2, a3, a4, a5, a6, a7, a8, a9, a10, a11, a12, a13, a14, a15⟩ := hm
    refine z_iload_n dX12_free_7 rfl ?_
    refine z_bipush (v := nI 48) dX12_free_8 rfl ?_
    refine z_icmp_geN (tgt := 87) dX12_free_10 (by decide) (by omega) (by omega) (fun c_10 => ?_) (fun c_10 => ?_)
    · refine z_iconst (v := (-1)) dX12_free_87 rfl ?_
      refine z_ireturn dX12_free_88 (Nat.le_of_ble_eq_true rfl) (Nat.le_of_ble_eq_true rfl) rfl ?_
      have e : fs (fre w) 48 = 48 := fs_eq (fun k hk => h_1 k (by omega)) (by omega) (fun q => absurd q (by omega))
      exact zi_r (by rw [show o_free w = (-1, w) from by unfold o_free; rw [e, if_neg (by omega)]])
    · obtain ⟨v1, v2, v3, v4⟩ := hB.2.1 r (by omega)
      have hat : AT (V (m + 1)) (40 * r + 5 * ((w.1.2.1 r).length - 1)) (lst w.1.2.1 r).2 := (v4 ((w.1.2.1 r).length - 1) (by omega)).2.2
      have he := AT_eN hat
      have hle : (if (lst w.1.2.1 r).2 = none then 0 else 1) < 2 := by split <;> omega
      refine z_aload_n dX12_free_13 rfl ?_
      refine z_getR dX12_free_14 fX12_13 (by first | assumption | exact And.left (by assumption)) rfl ?_
      refine z_aload_n dX12_free_17 rfl ?_
      refine z_iload_n dX12_free_18 rfl ?_
      refine z_callV1i dX12_free_19 kX12_latest lX12_171 (by first | assumption | exact And.left (by assumption)) rfl (s_mLatest hm0 (by omega) (hB.2.1 r (by omega))) (Nat.le_of_ble_eq_true rfl) (Nat.le_of_ble_eq_true rfl) ⟨Nat.le_of_ble_eq_true rfl, Nat.le_of_ble_eq_true rfl⟩ ?_
      refine z_iconst (v := nI 1) dX12_free_22 rfl ?_
      refine z_addN dX12_free_23 ?_
      refine z_ialdN dX12_free_24 (by first | assumption | exact And.left (by assumption)) (by omega) (by decide) he ?_
      refine z_if_neN (tgt := 32) dX12_free_25 (by decide) (by omega) (fun c_25 => ?_) (fun c_25 => ?_)
      · have eN : nI 0 = zb (fr0 w r 0) := (zb_f (fun q => c_25 (if_pos q.1))).symm
        refine z_iconst (v := nI 0) dX12_free_32 rfl ?_
        refine z_istore_n dX12_free_33 (Nat.le_of_ble_eq_true rfl) rfl ?_
        refine z_iconst (v := nI 0) dX12_free_34 rfl ?_
        refine z_istore_n dX12_free_35 (Nat.le_of_ble_eq_true rfl) rfl ?_
        refine lp_frI0 hm0 hB hcl (by omega) eN ?_
        refine z_iload_n dX12_free_75 rfl ?_
        refine z_if_eqB (tgt := 81) dX12_free_76 (by decide) (fun c_76 => ?_) (fun c_76 => ?_)
        · refine z_incN dX12_free_81 rfl rfl ?_
          refine z_goto (tgt := 7) dX12_free_84 (by decide) ?_
          refine z_fg 2 ?_
          exact ih _ (by omega) (r + 1) rfl (by omega) (lt_s h_1 (fun q => c_76 (fr0_4.mpr q)))
        · refine z_iload_n dX12_free_79 rfl ?_
          refine z_ireturn dX12_free_80 (Nat.le_of_ble_eq_true rfl) (Nat.le_of_ble_eq_true rfl) rfl ?_
          have e : fs (fre w) 48 = r := fs_eq h_1 (by omega) (fun _ => fr0_4.mp c_76)
          exact zi_r (by rw [show o_free w = (nI r, w) from by unfold o_free; rw [e, if_pos (by omega)]])
      · have hn9 : (lst w.1.2.1 r).2 = none := Classical.byContradiction (fun q => by rw [if_neg q] at c_25; omega)
        have eN : nI 1 = zb (fr0 w r 0) := (zb_t ⟨hn9, fun k hk => absurd hk (by omega)⟩).symm
        refine z_iconst (v := nI 1) dX12_free_28 rfl ?_
        refine z_goto (tgt := 33) dX12_free_29 (by decide) ?_
        refine z_istore_n dX12_free_33 (Nat.le_of_ble_eq_true rfl) rfl ?_
        refine z_iconst (v := nI 0) dX12_free_34 rfl ?_
        refine z_istore_n dX12_free_35 (Nat.le_of_ble_eq_true rfl) rfl ?_
        refine lp_frI0 hm0 hB hcl (by omega) eN ?_
        refine z_iload_n dX12_free_75 rfl ?_
        refine z_if_eqB (tgt := 81) dX12_free_76 (by decide) (fun c_76 => ?_) (fun c_76 => ?_)
        · refine z_incN dX12_free_81 rfl rfl ?_
          refine z_goto (tgt := 7) dX12_free_84 (by decide) ?_
          refine z_fg 2 ?_
          exact ih _ (by omega) (r + 1) rfl (by omega) (lt_s h_1 (fun q => c_76 (fr0_4.mpr q)))
        · refine z_iload_n dX12_free_79 rfl ?_
          refine z_ireturn dX12_free_80 (Nat.le_of_ble_eq_true rfl) (Nat.le_of_ble_eq_true rfl) rfl ?_
          have e : fs (fre w) 48 = r := fs_eq h_1 (by omega) (fun _ => fr0_4.mp c_76)
          exact zi_r (by rw [show o_free w = (nI r, w) from by unfold o_free; rw [e, if_pos (by omega)]])

set_option maxHeartbeats 4000000 in
set_option maxRecDepth 100000 in
theorem m_free {D : zD} {z0 nx : Nat} {L : zL} {V : zV} {m : Nat} {w : Wo} (hm : sM L m) (h : MW V m w) (hcl : ∀ k, k < 4 → ¬ (w.1.2.2.1 k).1 = true → (tof w k).2.2 = fun _ => none) : Sp D z0 4 0 0 mX12_free [.ref m] L V nx (zq (some (.int (o_free w).1)) L nx (fun V' => zEq V V' m (m + 16) ∧ MW V' m (o_free w).2)) := by
  have hm0 := hm
  have h0 := h
  obtain ⟨a0, a1, a2, a3, a4, a5, a6, a7, a8, a9, a10, a11, a12, a13, a14, a15⟩ := hm
  refine Sp.of 3 (by decide) rfl rfl (Nat.le_of_ble_eq_true rfl) ?_
  refine z_aload_n dX12_free_0 rfl ?_
  refine z_iconst (v := nI 0) dX12_free_1 rfl ?_
  refine z_putI dX12_free_2 fX12_1 (by first | assumption | exact And.left (by assumption)) rfl ?_
  have h9 := MW_thr (x := nI 0) h0
  have e0 : zEq V (zup V m 0 (nI 0)) m (m + 16) := zEq.rf.up (by omega) (by omega)
  generalize zup V m 0 (nI 0) = V1 at h9 e0 ⊢
  clear h0 h
  have h0 := h9
  obtain ⟨k1, k2, k3, k4, k5, k6, k7⟩ := h9
  refine z_iconst (v := nI 0) dX12_free_5 rfl ?_
  refine z_istore_n dX12_free_6 (Nat.le_of_ble_eq_true rfl) rfl ?_
  refine Z.mono (lp_frO (D := D) (z0 := z0) (nx := nx) hm0 k1 hcl _ 0 rfl (by omega) (fun k hk => absurd hk (by omega))) ?_
  intro r2 L2 V9 n9 h9
  obtain ⟨g1, g2, g3, g4⟩ := h9
  rw [g3]
  exact ⟨g1, g2, g4, e0, h0⟩

