/-! the reference: sweep, the whole of it -/
theorem oA.st5 {V V' : zV} {m : Nat} (h : zEq V V' (m + 5) (m + 6)) : oA V V' m := ⟨fun q _ _ h3 _ _ _ _ => h q (by omega), fun j _ => by rw [h (m + 1) (by omega)]⟩

set_option maxHeartbeats 4000000 in
set_option maxRecDepth 100000 in
theorem lp_sw {D : zD} {z0 nx : Nat} {L : zL} {V0 : zV} {m : Nat} {w : Wo} (hm : sM L m) (hkl : ∀ r, r < 48 → 1 ≤ (kl (kp (w.1.2.1 r) (isn w.1 2)) (w.1.2.1 r).length).length) (hsw : ∀ r, r < 48 → ∀ k, k < (w.1.2.1 r).length → (msn w.1 (w.1.2.1 r) k ↔ kp (w.1.2.1 r) (isn w.1 2) k)) : ∀ (fu : Nat) (r : Nat) (c : Nat) (V1 : zV), 48 - r = fu → r ≤ 48 → c = sm (gone w.1.2.1 (isn w.1 2)) r → oA V0 V1 m → MB (V1 (m + 1)) (w.1.1, kvs w.1.2.1 (isn w.1 2) r, w.1.2.2) → Z D z0 5 0 0 mX12_sweep 0 0 13 [some (.ref m), some (.int (nI c)), some (.int (nI r)), none, none, none] [] L V1 nx (zq (some (.int (nI (sm (gone w.1.2.1 (isn w.1 2)) 48)))) L nx (fun V' => oA V0 V' m ∧ MB (V' (m + 1)) (swp w.1))) := by
  intro fu
  induction fu using Nat.strongRecOn with
  | ind fu ih =>
    intro r c V1 h_fu h_0 h_1 h_2 h_3
    have hm0 := hm
    obtain ⟨a0, a1, a2, a3, a4, a5, a6, a7, a8, a9, a10, a11, a12, a13, a14, a15⟩ := hm
    refine z_iload_n dX12_sweep_13 rfl ?_
    refine z_bipush (v := nI 48) dX12_sweep_14 rfl ?_
    refine z_icmp_geN (tgt := 155) dX12_sweep_16 (by decide) (by omega) (by omega) (fun c_16 => ?_) (fun c_16 => ?_)
    · refine z_iload_n dX12_sweep_155 rfl ?_
      refine z_ireturn dX12_sweep_156 (Nat.le_of_ble_eq_true rfl) (Nat.le_of_ble_eq_true rfl) rfl ?_
      have e48 : r = 48 := by omega
      subst e48
      exact ⟨by rw [h_1], rfl, rfl, h_2, h_3⟩
    · refine z_aload_n dX12_sweep_19 rfl ?_
      refine z_getR dX12_sweep_20 fX12_13 (by first | assumption | exact And.left (by assumption)) rfl ?_
      refine z_sipush (v := nI 1920) dX12_sweep_23 rfl ?_
      refine z_iload_n dX12_sweep_26 rfl ?_
      refine z_addN dX12_sweep_27 ?_
      refine z_ialdN dX12_sweep_28 (by first | assumption | exact And.left (by assumption)) (by omega) (by decide) (h_3.2.1 r (by omega)).1 ?_
      refine z_istore_n dX12_sweep_29 (Nat.le_of_ble_eq_true rfl) rfl ?_
      refine z_iconst (v := nI 0) dX12_sweep_30 rfl ?_
      refine z_istore dX12_sweep_31 (Nat.le_of_ble_eq_true rfl) rfl ?_
      have hv0 : MVr (V1 (m + 1)) r ((kvs w.1.2.1 (isn w.1 2) r) r) := h_3.2.1 r (by omega)
      refine lp_swA (V := V1) (s := (w.1.1, kvs w.1.2.1 (isn w.1 2) r, w.1.2.2)) (S := isn w.1 2) hm0 h_3 (by omega) (fun k hk => ?_) (fun V2 e2 hst => ?_) _ 0 V1 rfl (by omega) zEq.rf (fun q hq => absurd hq (by omega))
      · show msn w.1 (kvs w.1.2.1 (isn w.1 2) r r) k ↔ kp (kvs w.1.2.1 (isn w.1 2) r r) (isn w.1 2) k
        have hk2 : k < (kvs w.1.2.1 (isn w.1 2) r r).length := hk
        rw [kvs_i] at *
        exact hsw r (by omega) k hk2
      · have hv8 : ((kvs w.1.2.1 (isn w.1 2) r) r).length ≤ 8 := hv0.2.2.1
        refine z_iconst (v := nI 0) dX12_sweep_66 rfl ?_
        refine z_istore dX12_sweep_67 (Nat.le_of_ble_eq_true rfl) rfl ?_
        refine z_iconst (v := nI 0) dX12_sweep_69 rfl ?_
        refine z_istore dX12_sweep_70 (Nat.le_of_ble_eq_true rfl) rfl ?_
        refine lp_swB (V := V2) (l := (kvs w.1.2.1 (isn w.1 2) r) r) (S := isn w.1 2) hm0 (by omega) hv8 hst (fun V3 e3 hc hx => ?_) _ 0 V2 rfl (by omega) zEq.rf (fun a ha => absurd ha (by simp [kl])) (fun x _ => rfl)
        have hle := kl_le (kp ((kvs w.1.2.1 (isn w.1 2) r) r) (isn w.1 2)) ((kvs w.1.2.1 (isn w.1 2) r) r).length
        refine z_aload_n dX12_sweep_130 rfl ?_
        refine z_getR dX12_sweep_131 fX12_13 (by first | assumption | exact And.left (by assumption)) rfl ?_
        refine z_sipush (v := nI 1920) dX12_sweep_134 rfl ?_
        refine z_iload_n dX12_sweep_137 rfl ?_
        refine z_addN dX12_sweep_138 ?_
        refine z_iload dX12_sweep_139 rfl ?_
        refine z_iastN dX12_sweep_141 (by first | assumption | exact And.left (by assumption)) (by omega) (by decide) ?_
        refine z_iload_n dX12_sweep_142 rfl ?_
        refine z_iload_n dX12_sweep_143 rfl ?_
        refine z_iload dX12_sweep_144 rfl ?_
        refine z_subN dX12_sweep_146 (by omega) ?_
        refine z_addN dX12_sweep_147 ?_
        refine z_istore_n dX12_sweep_148 (Nat.le_of_ble_eq_true rfl) rfl ?_
        refine z_incN dX12_sweep_149 rfl rfl ?_
        refine z_goto (tgt := 13) dX12_sweep_152 (by decide) ?_
        refine z_fg 3 ?_
        refine z_fg 4 ?_
        refine z_fg 5 ?_
        refine ih _ (by omega) (r + 1) _ _ rfl (by omega) ?_ ?_ ?_
        · rw [h_1]
          show _ = sm (gone w.1.2.1 (isn w.1 2)) r + gone w.1.2.1 (isn w.1 2) r
          rw [kvs_i] <;> rfl
        · refine (h_2.trans (oA.st5 e2)).trans ⟨fun q q1 _ _ _ _ _ _ => ?_, fun j hj => ?_⟩
          · rw [zup_a q1]
            exact e3 q (by omega)
          · rw [zup_k (by omega)]
            exact hx j (by omega)
        · have hA2 : V2 (m + 1) = V1 (m + 1) := e2 (m + 1) (by omega)
          have hB2 : MB (V2 (m + 1)) (w.1.1, kvs w.1.2.1 (isn w.1 2) r, w.1.2.2) := by rw [hA2]; exact h_3
          have hv2 : MVr (V2 (m + 1)) r ((kvs w.1.2.1 (isn w.1 2) r) r) := hB2.2.1 r (by omega)
          have h1k : 1 ≤ (kl (kp ((kvs w.1.2.1 (isn w.1 2) r) r) (isn w.1 2)) ((kvs w.1.2.1 (isn w.1 2) r) r).length).length := by rw [kvs_i]; exact hkl r (by omega)
          have hkept := MVr_kept (g := zup V3 (m + 1) (1920 + r) (nI (kl (kp ((kvs w.1.2.1 (isn w.1 2) r) r) (isn w.1 2)) ((kvs w.1.2.1 (isn w.1 2) r) r).length).length) (m + 1)) hv2 h1k (zup_s _ _ _ _) (fun a ha c0 hc0 => by
            rw [zup_k (by omega)]
            exact hc a ha c0 hc0)
          have hz := MB_row hB2 (by omega) hkept (fun j j1 j2 j3 => by
            rw [zup_k (by omega)]
            exact hx j (by omega))
          rw [← kvs_s]
          exact hz

set_option maxHeartbeats 4000000 in
set_option maxRecDepth 100000 in
theorem m_sweep {D : zD} {z0 nx : Nat} {L : zL} {V : zV} {m : Nat} {w : Wo} (hm : sM L m) (h : MW V m w) (hkl : ∀ r, r < 48 → 1 ≤ (kl (kp (w.1.2.1 r) (isn w.1 2)) (w.1.2.1 r).length).length) (hsw : ∀ r, r < 48 → ∀ k, k < (w.1.2.1 r).length → (msn w.1 (w.1.2.1 r) k ↔ kp (w.1.2.1 r) (isn w.1 2) k)) : Sp D z0 5 0 0 mX12_sweep [.ref m] L V nx (zq (some (.int (o_sweep w).1)) L nx (fun V' => zEq V V' m (m + 16) ∧ MW V' m (o_sweep w).2)) := by
  have hm0 := hm
  have h0 := h
  obtain ⟨a0, a1, a2, a3, a4, a5, a6, a7, a8, a9, a10, a11, a12, a13, a14, a15⟩ := hm
  refine Sp.of 5 (by decide) rfl rfl (Nat.le_of_ble_eq_true rfl) ?_
  refine z_aload_n dX12_sweep_0 rfl ?_
  refine z_iconst (v := nI 0) dX12_sweep_1 rfl ?_
  refine z_putI dX12_sweep_2 fX12_1 (by first | assumption | exact And.left (by assumption)) rfl ?_
  have h9 := MW_thr (x := nI 0) h0
  have e0 : zEq V (zup V m 0 (nI 0)) m (m + 16) := zEq.rf.up (by omega) (by omega)
  generalize zup V m 0 (nI 0) = V1 at h9 e0 ⊢
  clear h0 h
  have h0 := h9
  obtain ⟨k1, k2, k3, k4, k5, k6, k7⟩ := h9
  refine z_aload_n dX12_sweep_5 rfl ?_
  refine z_callV0w dX12_sweep_6 kX12_notes lX12_152 (by first | assumption | exact And.left (by assumption)) rfl (s_notes hm0 h0) (Nat.le_of_ble_eq_true rfl) (Nat.le_of_ble_eq_true rfl) ⟨Nat.le_of_ble_eq_true rfl, Nat.le_of_ble_eq_true rfl⟩ ?_
  intro V2 hV2
  obtain ⟨e2, f2, f3, h2⟩ := hV2
  obtain ⟨j1, j2, j3, j4, j5, j6, j7⟩ := id h2
  have j1 : MB (V2 (m + 1)) w.1 := j1
  have e3 := e0.trans e2
  refine z_iconst (v := nI 0) dX12_sweep_9 rfl ?_
  refine z_istore_n dX12_sweep_10 (Nat.le_of_ble_eq_true rfl) rfl ?_
  refine z_iconst (v := nI 0) dX12_sweep_11 rfl ?_
  refine z_istore_n dX12_sweep_12 (Nat.le_of_ble_eq_true rfl) rfl ?_
  refine Z.mono (lp_sw (D := D) (z0 := z0) (nx := nx) (V0 := V2) hm0 hkl hsw _ 0 0 V2 rfl (by omega) rfl oA.rf (by rw [kvs_0]; exact j1)) ?_
  intro r2 L2 V9 n9 h9
  obtain ⟨g1, g2, g3, g4, g5⟩ := h9
  exact ⟨g1, g2, g3, e3.trans g4.zeq, MW_all h2 g4 g5⟩

