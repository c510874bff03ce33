/-! the reference, on: the end of a round, the judgement, a unit -/
theorem MX_st {V : zV} {m i k : Nat} {x : Ix} (h : MX (V (m + 1)) (2140 + 1600 * i) x) (hk : k < 6) (h1 : ¬ x.1.1 = 1) (hk1 : ¬ k = 1) : MX (zup V (m + 1) (2140 + 1600 * i + 0) (nI k) (m + 1)) (2140 + 1600 * i) ((k, x.1.2), x.2) := by
  have h6 := h.2.2.2.2.2
  obtain ⟨n1, n2, n3, n4, n5⟩ := h.1
  rw [if_neg h1] at n2 n4
  refine MX_n h ⟨zup_s _ _ _ _, ?_, ?_, ?_, ?_⟩ ⟨hk, h6.2.1, h6.2.2.1, h6.2.2.2.1, h6.2.2.2.2.1⟩ (fun j j1 j2 j3 => zup_k (by omega))
  · rw [zup_k (by omega), n2]
    exact (if_neg hk1).symm
  · rw [zup_k (by omega)]
    exact n3
  · rw [zup_k (by omega), n4]
    exact (if_neg hk1).symm
  · rw [zup_k (by omega)]
    exact n5
theorem MX_rd {V : zV} {m i : Nat} {x : Ix} (h : MX (V (m + 1)) (2140 + 1600 * i) x) (hr : x.1.2.2.2.1 + 1 < 1000000) : MX (zup V (m + 1) (2140 + 1600 * i + 2) (nI (x.1.2.2.2.1 + 1)) (m + 1)) (2140 + 1600 * i) ((x.1.1, x.1.2.1, x.1.2.2.1, x.1.2.2.2.1 + 1, x.1.2.2.2.2), x.2) := by
  have h6 := h.2.2.2.2.2
  obtain ⟨n1, n2, n3, n4, n5⟩ := h.1
  refine MX_n h ⟨?_, ?_, zup_s _ _ _ _, ?_, ?_⟩ ⟨h6.1, h6.2.1, h6.2.2.1, hr, h6.2.2.2.2.1⟩ (fun j j1 j2 j3 => zup_k (by omega))
  · rw [zup_k (by omega)]
    exact n1
  · rw [zup_k (by omega)]
    exact n2
  · rw [zup_k (by omega)]
    exact n4
  · rw [zup_k (by omega)]
    exact n5

theorem e_5 {v : Vs} {sh mo : Nat} {x : Ix} (hj : x.1.1 = 3) (hnw : x.2.2.2.1 = []) (h : x.2.1.2.1 = true ∧ tws x.2.2.1) : xUnit v sh mo x = ((5, x.1.2), x.2) := by
  unfold xUnit
  rw [if_neg (by omega), hnw]
  simp only []
  rw [if_pos hj, xJudge, if_pos h]
theorem e_4 {v : Vs} {sh mo : Nat} {x : Ix} (hj : x.1.1 = 3) (hnw : x.2.2.2.1 = []) (h : ¬ (x.2.1.2.1 = true ∧ tws x.2.2.1)) : xUnit v sh mo x = ((4, x.1.2), x.2) := by
  unfold xUnit
  rw [if_neg (by omega), hnw]
  simp only []
  rw [if_pos hj, xJudge, if_neg h]

set_option maxHeartbeats 4000000 in
set_option maxRecDepth 100000 in
theorem s_catN {D : zD} {z0 nx : Nat} {L : zL} {V : zV} {m i : Nat} {x : Ix} (hm : sM L m) (hi : i < 2) (hx : MX (V (m + 1)) (2140 + 1600 * i) x) (hn0 : x.2.2.2.1 = []) (h2 : x.1.1 = 2) {sh mo : Nat} (hsh : V (m + 1) 5341 = nI sh) (hmo : V (m + 1) 5342 = nI mo) (b1 : sh < 1000) (b2 : mo < 1000) (hrd : x.1.2.2.2.1 + 1 < 1000000) : Sp D z0 7 0 0 mX12_catches [.ref m, .int (nI i)] L V nx (zq none L nx (fun V' => oX V V' m i ∧ MX (V' (m + 1)) (2140 + 1600 * i) (xEnd sh mo x))) := by
  have hm0 := hm
  obtain ⟨a0, a1, a2, a3, a4, a5, a6, a7, a8, a9, a10, a11, a12, a13, a14, a15⟩ := hm
  have hx0 := hx
  obtain ⟨x1, x2, x3, x4, x5, x6⟩ := hx
  have hb := x6.2.2.2.2.2.1
  have hdl := hb.1
  have xb := x6.2.2.2.2.2.2
  have hl15 := xb.2.2.1
  have n3 := x1.2.2.1
  refine Sp.of 0 (by decide) rfl rfl (Nat.le_of_ble_eq_true rfl) ?_
  refine z_aload_n dX12_catches_0 rfl ?_
  refine z_iload_n dX12_catches_1 rfl ?_
  refine z_callV1q dX12_catches_2 kX12_doesFirst lX12_355 (by first | assumption | exact And.left (by assumption)) rfl (s_firstN hm0 hi hx0 hn0) (Nat.le_of_ble_eq_true rfl) (Nat.le_of_ble_eq_true rfl) ⟨Nat.le_of_ble_eq_true rfl, Nat.le_of_ble_eq_true rfl⟩ ?_
  intro V1 hV1
  obtain ⟨o1, hx1⟩ := hV1
  have g15 := hx1.2.2.2.2.1.1
  have g2 := hx1.1.2.2.1
  have g5 : V1 (m + 1) 5341 = nI sh := by rw [o1.2 _ (by omega)]; exact hsh
  have g6 : V1 (m + 1) 5342 = nI mo := by rw [o1.2 _ (by omega)]; exact hmo
  refine z_if_eqN (tgt := 9) dX12_catches_5 (by decide) (by omega) (fun c_5 => ?_) (fun c_5 => ?_)
  · refine z_aload_n dX12_catches_9 rfl ?_
    refine z_iload_n dX12_catches_10 rfl ?_
    refine z_bipush (v := nI 15) dX12_catches_11 rfl ?_
    refine z_callV2i dX12_catches_13 kX12_ofIndex lX12_104 (by first | assumption | exact And.left (by assumption)) rfl (s_ofIx hm0 hi (by omega) g15) (Nat.le_of_ble_eq_true rfl) (Nat.le_of_ble_eq_true rfl) ⟨Nat.le_of_ble_eq_true rfl, Nat.le_of_ble_eq_true rfl⟩ ?_
    refine z_aload_n dX12_catches_16 rfl ?_
    refine z_getR dX12_catches_17 fX12_13 (by first | assumption | exact And.left (by assumption)) rfl ?_
    refine z_sipush (v := nI 5341) dX12_catches_20 rfl ?_
    refine z_ialdN dX12_catches_23 (by first | assumption | exact And.left (by assumption)) (by omega) (by decide) g5 ?_
    refine z_icmp_gtN (tgt := 42) dX12_catches_24 (by decide) (by omega) (by omega) (fun c_24 => ?_) (fun c_24 => ?_)
    · refine z_aload_n dX12_catches_42 rfl ?_
      refine z_iload_n dX12_catches_43 rfl ?_
      refine z_iconst (v := nI 2) dX12_catches_44 rfl ?_
      refine z_callV2i dX12_catches_45 kX12_ofIndex lX12_104 (by first | assumption | exact And.left (by assumption)) rfl (s_ofIx hm0 hi (by omega) g2) (Nat.le_of_ble_eq_true rfl) (Nat.le_of_ble_eq_true rfl) ⟨Nat.le_of_ble_eq_true rfl, Nat.le_of_ble_eq_true rfl⟩ ?_
      refine z_aload_n dX12_catches_48 rfl ?_
      refine z_getR dX12_catches_49 fX12_13 (by first | assumption | exact And.left (by assumption)) rfl ?_
      refine z_sipush (v := nI 5342) dX12_catches_52 rfl ?_
      refine z_ialdN dX12_catches_55 (by first | assumption | exact And.left (by assumption)) (by omega) (by decide) g6 ?_
      refine z_icmp_ltN (tgt := 68) dX12_catches_56 (by decide) (by omega) (by omega) (fun c_56 => ?_) (fun c_56 => ?_)
      · have e9 : xEnd sh mo x = xNext x := by unfold xEnd; rw [if_neg (by omega), if_neg (by omega)]
        refine z_aload_n dX12_catches_68 rfl ?_
        refine z_iload_n dX12_catches_69 rfl ?_
        refine z_iconst (v := nI 2) dX12_catches_70 rfl ?_
        refine z_aload_n dX12_catches_71 rfl ?_
        refine z_iload_n dX12_catches_72 rfl ?_
        refine z_iconst (v := nI 2) dX12_catches_73 rfl ?_
        refine z_callV2i dX12_catches_74 kX12_ofIndex lX12_104 (by first | assumption | exact And.left (by assumption)) rfl (s_ofIx hm0 hi (by omega) g2) (Nat.le_of_ble_eq_true rfl) (Nat.le_of_ble_eq_true rfl) ⟨Nat.le_of_ble_eq_true rfl, Nat.le_of_ble_eq_true rfl⟩ ?_
        refine z_iconst (v := nI 1) dX12_catches_77 rfl ?_
        refine z_addN dX12_catches_78 ?_
        refine z_callV3w dX12_catches_79 kX12_laysIndex lX12_80 (by first | assumption | exact And.left (by assumption)) rfl (s_lays hm0 (by omega) (by omega)) (Nat.le_of_ble_eq_true rfl) (Nat.le_of_ble_eq_true rfl) ⟨Nat.le_of_ble_eq_true rfl, Nat.le_of_ble_eq_true rfl⟩ ?_
        intro V2 hV2
        subst hV2
        have hx2 := MX_rd hx1 hrd
        refine z_aload_n dX12_catches_82 rfl ?_
        refine z_iload_n dX12_catches_83 rfl ?_
        refine z_callV1w dX12_catches_84 kX12_turnsLogs lX12_352 (by first | assumption | exact And.left (by assumption)) rfl (s_mTurn hm0 hi hx2) (Nat.le_of_ble_eq_true rfl) (Nat.le_of_ble_eq_true rfl) ⟨Nat.le_of_ble_eq_true rfl, Nat.le_of_ble_eq_true rfl⟩ ?_
        intro V3 hV3
        refine z_return dX12_catches_87 (Nat.le_of_ble_eq_true rfl) (Nat.le_of_ble_eq_true rfl) rfl ?_
        rw [e9]
        first
          | exact ⟨rfl, rfl, rfl, (o1.up (by omega)).trans hV3.1, hV3.2⟩
          | exact ⟨rfl, rfl, rfl, o1.trans hV3.1, hV3.2⟩
      · have e9 : xEnd sh mo x = xClear 2 := by unfold xEnd; rw [if_neg (by omega), if_pos (by omega)]
        refine z_aload_n dX12_catches_59 rfl ?_
        refine z_iload_n dX12_catches_60 rfl ?_
        refine z_iconst (v := nI 2) dX12_catches_61 rfl ?_
        refine z_callV2w dX12_catches_62 kX12_empties lX12_68 (by first | assumption | exact And.left (by assumption)) rfl (s_mEmp hm0 hi (by omega)) (Nat.le_of_ble_eq_true rfl) (Nat.le_of_ble_eq_true rfl) ⟨Nat.le_of_ble_eq_true rfl, Nat.le_of_ble_eq_true rfl⟩ ?_
        intro V3 hV3
        refine z_goto (tgt := 87) dX12_catches_65 (by decide) ?_
        refine z_return dX12_catches_87 (Nat.le_of_ble_eq_true rfl) (Nat.le_of_ble_eq_true rfl) rfl ?_
        rw [e9]
        first
          | exact ⟨rfl, rfl, rfl, (o1.up (by omega)).trans hV3.1, hV3.2⟩
          | exact ⟨rfl, rfl, rfl, o1.trans hV3.1, hV3.2⟩
    · have e9 : xEnd sh mo x = xTurn ((3, x.1.2), x.2) := if_pos (by omega)
      refine z_aload_n dX12_catches_27 rfl ?_
      refine z_iload_n dX12_catches_28 rfl ?_
      refine z_iconst (v := nI 0) dX12_catches_29 rfl ?_
      refine z_iconst (v := nI 3) dX12_catches_30 rfl ?_
      refine z_callV3w dX12_catches_31 kX12_laysIndex lX12_80 (by first | assumption | exact And.left (by assumption)) rfl (s_lays hm0 (by omega) (by omega)) (Nat.le_of_ble_eq_true rfl) (Nat.le_of_ble_eq_true rfl) ⟨Nat.le_of_ble_eq_true rfl, Nat.le_of_ble_eq_true rfl⟩ ?_
      intro V2 hV2
      subst hV2
      have hx2 := MX_st hx1 (k := 3) (by decide) (by omega) (by decide)
      refine z_aload_n dX12_catches_34 rfl ?_
      refine z_iload_n dX12_catches_35 rfl ?_
      refine z_callV1w dX12_catches_36 kX12_turnsLogs lX12_352 (by first | assumption | exact And.left (by assumption)) rfl (s_mTurn hm0 hi hx2) (Nat.le_of_ble_eq_true rfl) (Nat.le_of_ble_eq_true rfl) ⟨Nat.le_of_ble_eq_true rfl, Nat.le_of_ble_eq_true rfl⟩ ?_
      intro V3 hV3
      refine z_goto (tgt := 87) dX12_catches_39 (by decide) ?_
      refine z_return dX12_catches_87 (Nat.le_of_ble_eq_true rfl) (Nat.le_of_ble_eq_true rfl) rfl ?_
      rw [e9]
      first
        | exact ⟨rfl, rfl, rfl, (o1.up (by omega)).trans hV3.1, hV3.2⟩
        | exact ⟨rfl, rfl, rfl, o1.trans hV3.1, hV3.2⟩
  · exact absurd rfl c_5

set_option maxHeartbeats 4000000 in
set_option maxRecDepth 100000 in
theorem s_catC {D : zD} {z0 nx : Nat} {L : zL} {V : zV} {m i : Nat} {x : Ix} (hm : sM L m) (hi : i < 2) (hx : MX (V (m + 1)) (2140 + 1600 * i) x) {it : Nat} {t : List Nat} (hn0 : x.2.2.2.1 = it :: t) (hcf : it % 2 = 1 → cap (it / 2) x.2.2.1) (hrw : it / 2 % 64 < 48) : Sp D z0 7 0 0 mX12_catches [.ref m, .int (nI i)] L V nx (zq none L nx (fun V' => oX V V' m i ∧ MX (V' (m + 1)) (2140 + 1600 * i) (xFirst x it t))) := by
  have hm0 := hm
  obtain ⟨a0, a1, a2, a3, a4, a5, a6, a7, a8, a9, a10, a11, a12, a13, a14, a15⟩ := hm
  have hx0 := hx
  obtain ⟨x1, x2, x3, x4, x5, x6⟩ := hx
  have hb := x6.2.2.2.2.2.1
  have hdl := hb.1
  have xb := x6.2.2.2.2.2.2
  refine Sp.of 0 (by decide) rfl rfl (Nat.le_of_ble_eq_true rfl) ?_
  refine z_aload_n dX12_catches_0 rfl ?_
  refine z_iload_n dX12_catches_1 rfl ?_
  refine z_callV1q dX12_catches_2 kX12_doesFirst lX12_355 (by first | assumption | exact And.left (by assumption)) rfl (s_firstC hm0 hi hx0 hn0 hcf hrw) (Nat.le_of_ble_eq_true rfl) (Nat.le_of_ble_eq_true rfl) ⟨Nat.le_of_ble_eq_true rfl, Nat.le_of_ble_eq_true rfl⟩ ?_
  intro V1 hV1
  refine z_if_eqN (tgt := 9) dX12_catches_5 (by decide) (by omega) (fun c_5 => ?_) (fun c_5 => ?_)
  · exact absurd c_5 (by decide)
  · refine z_return dX12_catches_8 (Nat.le_of_ble_eq_true rfl) (Nat.le_of_ble_eq_true rfl) rfl ?_
    exact ⟨rfl, rfl, rfl, hV1.1, hV1.2⟩

set_option maxHeartbeats 4000000 in
set_option maxRecDepth 100000 in
theorem lp_mTwo {D : zD} {z0 nx : Nat} {L : zL} {V : zV} {m i : Nat} {x : Ix} (hm : sM L m) (hi : i < 2) (hx : MX (V (m + 1)) (2140 + 1600 * i) x) : ∀ (fu : Nat) (k : Nat) (V1 : zV), x.2.2.1.length - k = fu → k ≤ x.2.2.1.length → oX V V1 m i → V1 (m + 1) = V (m + 1) → (∀ j, j < k → j + 1 < x.2.2.1.length → ¬ x.2.2.1.getD (j + 1) 0 / 64 = x.2.2.1.getD j 0 / 64) → Z D z0 5 0 0 mX12_areTwoAlike 0 0 2 [some (.ref m), some (.int (nI i)), some (.int (nI k))] [] L V1 nx (zq (some (.int (zb (tws x.2.2.1)))) L nx (fun V' => oX V V' m i ∧ V' (m + 1) = V (m + 1))) := by
  intro fu
  induction fu using Nat.strongRecOn with
  | ind fu ih =>
    intro k V1 h_fu h_0 h_1 h_2 h_3
    have hm0 := hm
    obtain ⟨a0, a1, a2, a3, a4, a5, a6, a7, a8, a9, a10, a11, a12, a13, a14, a15⟩ := hm
    have hx0 := hx
    obtain ⟨x1, x2, x3, x4, x5, x6⟩ := hx
    have hb := x6.2.2.2.2.2.1
    have hdl := hb.1
    have xb := x6.2.2.2.2.2.2
    have hx1 : MX (V1 (m + 1)) (2140 + 1600 * i) x := by rw [h_2]; exact hx0
    refine z_iload_n dX12_areTwoAlike_2 rfl ?_
    refine z_iconst (v := nI 1) dX12_areTwoAlike_3 rfl ?_
    refine z_addN dX12_areTwoAlike_4 ?_
    refine z_aload_n dX12_areTwoAlike_5 rfl ?_
    refine z_iload_n dX12_areTwoAlike_6 rfl ?_
    refine z_bipush (v := nI 13) dX12_areTwoAlike_7 rfl ?_
    have hl48 := xb.1
    have g13 := hx1.2.2.1.1
    refine z_callV2i dX12_areTwoAlike_9 kX12_ofIndex lX12_104 (by first | assumption | exact And.left (by assumption)) rfl (s_ofIx hm0 hi (by omega) g13) (Nat.le_of_ble_eq_true rfl) (Nat.le_of_ble_eq_true rfl) ⟨Nat.le_of_ble_eq_true rfl, Nat.le_of_ble_eq_true rfl⟩ ?_
    refine z_icmp_geN (tgt := 62) dX12_areTwoAlike_12 (by decide) (by omega) (by omega) (fun c_12 => ?_) (fun c_12 => ?_)
    · refine z_iconst (v := nI 0) dX12_areTwoAlike_62 rfl ?_
      refine z_zreturn dX12_areTwoAlike_63 (Nat.le_of_ble_eq_true rfl) (Nat.le_of_ble_eq_true rfl) rfl (by first | exact Or.inl rfl | exact Or.inr rfl | exact zb_01 _ | assumption) ?_
      have hF : ¬ tws x.2.2.1 := fun ⟨j, q1, q2⟩ => h_3 j (by omega) q1 q2
      exact ⟨by rw [zb_f hF] <;> rfl, rfl, rfl, h_1, h_2⟩
    · obtain ⟨j1, j2⟩ := hx1.2.2.1.2 k (by omega)
      obtain ⟨j3, j4⟩ := hx1.2.2.1.2 (k + 1) (by omega)
      have r1 := xb.2.2.2.2.1 _ (mem_getD (l := x.2.2.1) (k := k) (by omega))
      have r2 := xb.2.2.2.2.1 _ (mem_getD (l := x.2.2.1) (k := k + 1) (by omega))
      refine z_aload_n dX12_areTwoAlike_15 rfl ?_
      refine z_getR dX12_areTwoAlike_16 fX12_13 (by first | assumption | exact And.left (by assumption)) rfl ?_
      refine z_aload_n dX12_areTwoAlike_19 rfl ?_
      refine z_iload_n dX12_areTwoAlike_20 rfl ?_
      refine z_iload_n dX12_areTwoAlike_21 rfl ?_
      refine z_callV2i dX12_areTwoAlike_22 kX12_entryAt lX12_118 (by first | assumption | exact And.left (by assumption)) rfl (s_entAt (by omega) (by omega)) (Nat.le_of_ble_eq_true rfl) (Nat.le_of_ble_eq_true rfl) ⟨Nat.le_of_ble_eq_true rfl, Nat.le_of_ble_eq_true rfl⟩ ?_
      refine z_iconst (v := nI 1) dX12_areTwoAlike_25 rfl ?_
      refine z_addN dX12_areTwoAlike_26 ?_
      refine z_aload_n dX12_areTwoAlike_27 rfl ?_
      refine z_getR dX12_areTwoAlike_28 fX12_25 (by first | assumption | exact And.left (by assumption)) rfl ?_
      refine z_iconst (v := nI 0) dX12_areTwoAlike_31 rfl ?_
      refine z_iconst (v := nI 3) dX12_areTwoAlike_32 rfl ?_
      refine z_callS5w dX12_areTwoAlike_33 kX12_copies lX12_76 (s_cp a1 a4 (by omega) (by omega) (by omega) (Or.inl (by omega))) (Nat.le_of_ble_eq_true rfl) (Nat.le_of_ble_eq_true rfl) ⟨Nat.le_of_ble_eq_true rfl, Nat.le_of_ble_eq_true rfl⟩ ?_
      intro V2 hV2
      have hA : V2 (m + 1) = V1 (m + 1) := by rw [hV2, cp_1]
      have hk2 : KR V2 m x.2.1 (x.2.2.1.getD k 0 / 64) := by rw [hV2]; exact KR_cp j2 hdl
      have o2 : oX V V2 m i := by rw [hV2]; exact h_1.ck
      have d2 : MXd (V2 (m + 1)) (2140 + 1600 * i) x.2.1 := by rw [hA]; exact hx1.2.1
      have j5 : MK (V2 (m + 1)) (2140 + 1600 * i + 16 + 4 * (k + 1) + 1) x.2.1 (x.2.2.1.getD (k + 1) 0 / 64) := by rw [hA]; exact j4
      have hck := cK_rv hb r2 r1
      have hc3 := (cK_3 r2.1 r1.1).2.1
      clear hV2
      refine z_aload_n dX12_areTwoAlike_36 rfl ?_
      refine z_iload_n dX12_areTwoAlike_37 rfl ?_
      refine z_aload_n dX12_areTwoAlike_38 rfl ?_
      refine z_iload_n dX12_areTwoAlike_39 rfl ?_
      refine z_iload_n dX12_areTwoAlike_40 rfl ?_
      refine z_iconst (v := nI 1) dX12_areTwoAlike_41 rfl ?_
      refine z_addN dX12_areTwoAlike_42 ?_
      refine z_callV2i dX12_areTwoAlike_43 kX12_entryAt lX12_118 (by first | assumption | exact And.left (by assumption)) rfl (s_entAt (by omega) (by omega)) (Nat.le_of_ble_eq_true rfl) (Nat.le_of_ble_eq_true rfl) ⟨Nat.le_of_ble_eq_true rfl, Nat.le_of_ble_eq_true rfl⟩ ?_
      refine z_iconst (v := nI 1) dX12_areTwoAlike_46 rfl ?_
      refine z_addN dX12_areTwoAlike_47 ?_
      refine z_callV2i dX12_areTwoAlike_48 kX12_comparesKey lX12_121 (by first | assumption | exact And.left (by assumption)) rfl (s_ck hm0 hi d2 hb (by omega) hk2 j5 r1.1 r2.1) (Nat.le_of_ble_eq_true rfl) (Nat.le_of_ble_eq_true rfl) ⟨Nat.le_of_ble_eq_true rfl, Nat.le_of_ble_eq_true rfl⟩ ?_
      rw [hck]
      refine z_if_ne (tgt := 56) dX12_areTwoAlike_51 (by decide) (fun c_51 => ?_) (fun c_51 => ?_)
      · have hne : ¬ x.2.2.1.getD (k + 1) 0 / 64 = x.2.2.1.getD k 0 / 64 := fun z => c_51 (hc3.mpr z)
        refine z_incN dX12_areTwoAlike_56 rfl rfl ?_
        refine z_goto (tgt := 2) dX12_areTwoAlike_59 (by decide) ?_
        refine ih _ (by omega) (k + 1) V2 rfl (by omega) o2 (hA.trans h_2) (fun j q1 q2 => ?_)
        by_cases e : j = k
        · subst e
          exact hne
        · exact h_3 j (by omega) q2
      · refine z_iconst (v := nI 1) dX12_areTwoAlike_54 rfl ?_
        refine z_zreturn dX12_areTwoAlike_55 (Nat.le_of_ble_eq_true rfl) (Nat.le_of_ble_eq_true rfl) rfl (by first | exact Or.inl rfl | exact Or.inr rfl | exact zb_01 _ | assumption) ?_
        have hY : tws x.2.2.1 := ⟨k, by omega, hc3.mp c_51⟩
        exact ⟨by rw [zb_t hY] <;> rfl, rfl, rfl, o2, hA.trans h_2⟩

set_option maxHeartbeats 4000000 in
set_option maxRecDepth 100000 in
theorem s_mTwo {D : zD} {z0 nx : Nat} {L : zL} {V : zV} {m i : Nat} {x : Ix} (hm : sM L m) (hi : i < 2) (hx : MX (V (m + 1)) (2140 + 1600 * i) x) : Sp D z0 5 0 0 mX12_areTwoAlike [.ref m, .int (nI i)] L V nx (zq (some (.int (zb (tws x.2.2.1)))) L nx (fun V' => oX V V' m i ∧ V' (m + 1) = V (m + 1))) := by
  refine Sp.of 1 (by decide) rfl rfl (Nat.le_of_ble_eq_true rfl) ?_
  refine z_iconst (v := nI 0) dX12_areTwoAlike_0 rfl ?_
  refine z_istore_n dX12_areTwoAlike_1 (Nat.le_of_ble_eq_true rfl) rfl ?_
  exact lp_mTwo hm hi hx _ 0 V rfl (by omega) oX.rf rfl (fun j hj => absurd hj (by omega))

set_option maxHeartbeats 4000000 in
set_option maxRecDepth 100000 in
theorem s_unit1 {D : zD} {z0 nx : Nat} {L : zL} {V : zV} {m i : Nat} {x : Ix} (hm : sM L m) (hi : i < 2) (hx : MX (V (m + 1)) (2140 + 1600 * i) x) {v : Vs} (hu : 1 ≤ x.1.1 ∧ x.1.1 ≤ 3) (hv : x.1.1 = 1 → MVr (V (m + 1)) x.1.2.2.1 (v x.1.2.2.1)) (hf : x.1.1 = 1 → (vk (v x.1.2.2.1) 0).1 ≤ x.1.2.1) (hn : x.1.1 = 1 → x.1.2.2.1 < 48) (hr0 : x.1.1 = 1 → x.1.2.2.2.1 = 0) (hcap : x.1.1 = 1 → ∀ c, eo x.2.1 (vat (v x.1.2.2.1) x.1.2.1) x.1.2.2.1 = some c → cap c x.2.2.1) (hcf : ∀ it t, x.2.2.2.1 = it :: t → it % 2 = 1 → cap (it / 2) x.2.2.1) (hrw : ∀ it t, x.2.2.2.1 = it :: t → it / 2 % 64 < 48) {sh mo : Nat} (hsh : V (m + 1) 5341 = nI sh) (hmo : V (m + 1) 5342 = nI mo) (b1 : sh < 1000) (b2 : mo < 1000) (hrd : x.1.2.2.2.1 + 1 < 1000000) (hj : x.1.1 = 1) : Sp D z0 8 0 0 mX12_unit [.ref m, .int (nI i)] L V nx (zq none L nx (fun V' => oX V V' m i ∧ MX (V' (m + 1)) (2140 + 1600 * i) (xUnit v sh mo x))) := by
  have hm0 := hm
  obtain ⟨a0, a1, a2, a3, a4, a5, a6, a7, a8, a9, a10, a11, a12, a13, a14, a15⟩ := hm
  have hx0 := hx
  obtain ⟨x1, x2, x3, x4, x5, x6⟩ := hx
  have hb := x6.2.2.2.2.2.1
  have hdl := hb.1
  have xb := x6.2.2.2.2.2.2
  have n1 := x1.1
  refine Sp.of 0 (by decide) rfl rfl (Nat.le_of_ble_eq_true rfl) ?_
  refine z_aload_n dX12_unit_0 rfl ?_
  refine z_iload_n dX12_unit_1 rfl ?_
  refine z_iconst (v := nI 0) dX12_unit_2 rfl ?_
  refine z_callV2i dX12_unit_3 kX12_ofIndex lX12_104 (by first | assumption | exact And.left (by assumption)) rfl (s_ofIx hm0 hi (by omega) n1) (Nat.le_of_ble_eq_true rfl) (Nat.le_of_ble_eq_true rfl) ⟨Nat.le_of_ble_eq_true rfl, Nat.le_of_ble_eq_true rfl⟩ ?_
  rw [hj]
  refine z_tableIn (tgt := 32) dX12_unit_6 (by decide) (by decide) rfl (by decide) ?_
  refine z_aload_n dX12_unit_32 rfl ?_
  refine z_iload_n dX12_unit_33 rfl ?_
  refine z_callV1w dX12_unit_34 kX12_scans lX12_358 (by first | assumption | exact And.left (by assumption)) rfl (s_scan hm0 hi hx0 hj (hv hj) (hf hj) (hn hj) (hr0 hj) (hcap hj)) (Nat.le_of_ble_eq_true rfl) (Nat.le_of_ble_eq_true rfl) ⟨Nat.le_of_ble_eq_true rfl, Nat.le_of_ble_eq_true rfl⟩ ?_
  intro V1 hV1
  refine z_goto (tgt := 88) dX12_unit_37 (by decide) ?_
  refine z_return dX12_unit_88 (Nat.le_of_ble_eq_true rfl) (Nat.le_of_ble_eq_true rfl) rfl ?_
  rw [show xUnit v sh mo x = xScan v x from if_pos hj]
  exact ⟨rfl, rfl, rfl, hV1.1, hV1.2⟩

set_option maxHeartbeats 4000000 in
set_option maxRecDepth 100000 in
theorem s_unit2N {D : zD} {z0 nx : Nat} {L : zL} {V : zV} {m i : Nat} {x : Ix} (hm : sM L m) (hi : i < 2) (hx : MX (V (m + 1)) (2140 + 1600 * i) x) {v : Vs} (hu : 1 ≤ x.1.1 ∧ x.1.1 ≤ 3) (hv : x.1.1 = 1 → MVr (V (m + 1)) x.1.2.2.1 (v x.1.2.2.1)) (hf : x.1.1 = 1 → (vk (v x.1.2.2.1) 0).1 ≤ x.1.2.1) (hn : x.1.1 = 1 → x.1.2.2.1 < 48) (hr0 : x.1.1 = 1 → x.1.2.2.2.1 = 0) (hcap : x.1.1 = 1 → ∀ c, eo x.2.1 (vat (v x.1.2.2.1) x.1.2.1) x.1.2.2.1 = some c → cap c x.2.2.1) (hcf : ∀ it t, x.2.2.2.1 = it :: t → it % 2 = 1 → cap (it / 2) x.2.2.1) (hrw : ∀ it t, x.2.2.2.1 = it :: t → it / 2 % 64 < 48) {sh mo : Nat} (hsh : V (m + 1) 5341 = nI sh) (hmo : V (m + 1) 5342 = nI mo) (b1 : sh < 1000) (b2 : mo < 1000) (hrd : x.1.2.2.2.1 + 1 < 1000000) (hj : x.1.1 = 2) (hnw : x.2.2.2.1 = []) : Sp D z0 8 0 0 mX12_unit [.ref m, .int (nI i)] L V nx (zq none L nx (fun V' => oX V V' m i ∧ MX (V' (m + 1)) (2140 + 1600 * i) (xUnit v sh mo x))) := by
  have hm0 := hm
  obtain ⟨a0, a1, a2, a3, a4, a5, a6, a7, a8, a9, a10, a11, a12, a13, a14, a15⟩ := hm
  have hx0 := hx
  obtain ⟨x1, x2, x3, x4, x5, x6⟩ := hx
  have hb := x6.2.2.2.2.2.1
  have hdl := hb.1
  have xb := x6.2.2.2.2.2.2
  have n1 := x1.1
  refine Sp.of 0 (by decide) rfl rfl (Nat.le_of_ble_eq_true rfl) ?_
  refine z_aload_n dX12_unit_0 rfl ?_
  refine z_iload_n dX12_unit_1 rfl ?_
  refine z_iconst (v := nI 0) dX12_unit_2 rfl ?_
  refine z_callV2i dX12_unit_3 kX12_ofIndex lX12_104 (by first | assumption | exact And.left (by assumption)) rfl (s_ofIx hm0 hi (by omega) n1) (Nat.le_of_ble_eq_true rfl) (Nat.le_of_ble_eq_true rfl) ⟨Nat.le_of_ble_eq_true rfl, Nat.le_of_ble_eq_true rfl⟩ ?_
  rw [hj]
  refine z_tableIn (tgt := 40) dX12_unit_6 (by decide) (by decide) rfl (by decide) ?_
  refine z_aload_n dX12_unit_40 rfl ?_
  refine z_iload_n dX12_unit_41 rfl ?_
  refine z_callV1w dX12_unit_42 kX12_catches lX12_361 (by first | assumption | exact And.left (by assumption)) rfl (s_catN hm0 hi hx0 hnw hj hsh hmo b1 b2 hrd) (Nat.le_of_ble_eq_true rfl) (Nat.le_of_ble_eq_true rfl) ⟨Nat.le_of_ble_eq_true rfl, Nat.le_of_ble_eq_true rfl⟩ ?_
  intro V1 hV1
  refine z_goto (tgt := 88) dX12_unit_45 (by decide) ?_
  refine z_return dX12_unit_88 (Nat.le_of_ble_eq_true rfl) (Nat.le_of_ble_eq_true rfl) rfl ?_
  rw [show xUnit v sh mo x = xEnd sh mo x from by unfold xUnit; rw [if_neg (by omega), hnw]; simp only []; rw [if_neg (by omega), if_pos hj]]
  exact ⟨rfl, rfl, rfl, hV1.1, hV1.2⟩

set_option maxHeartbeats 4000000 in
set_option maxRecDepth 100000 in
theorem s_unit2C {D : zD} {z0 nx : Nat} {L : zL} {V : zV} {m i : Nat} {x : Ix} (hm : sM L m) (hi : i < 2) (hx : MX (V (m + 1)) (2140 + 1600 * i) x) {v : Vs} (hu : 1 ≤ x.1.1 ∧ x.1.1 ≤ 3) (hv : x.1.1 = 1 → MVr (V (m + 1)) x.1.2.2.1 (v x.1.2.2.1)) (hf : x.1.1 = 1 → (vk (v x.1.2.2.1) 0).1 ≤ x.1.2.1) (hn : x.1.1 = 1 → x.1.2.2.1 < 48) (hr0 : x.1.1 = 1 → x.1.2.2.2.1 = 0) (hcap : x.1.1 = 1 → ∀ c, eo x.2.1 (vat (v x.1.2.2.1) x.1.2.1) x.1.2.2.1 = some c → cap c x.2.2.1) (hcf : ∀ it t, x.2.2.2.1 = it :: t → it % 2 = 1 → cap (it / 2) x.2.2.1) (hrw : ∀ it t, x.2.2.2.1 = it :: t → it / 2 % 64 < 48) {sh mo : Nat} (hsh : V (m + 1) 5341 = nI sh) (hmo : V (m + 1) 5342 = nI mo) (b1 : sh < 1000) (b2 : mo < 1000) (hrd : x.1.2.2.2.1 + 1 < 1000000) (hj : x.1.1 = 2) {it : Nat} {t : List Nat} (hnw : x.2.2.2.1 = it :: t) : Sp D z0 8 0 0 mX12_unit [.ref m, .int (nI i)] L V nx (zq none L nx (fun V' => oX V V' m i ∧ MX (V' (m + 1)) (2140 + 1600 * i) (xUnit v sh mo x))) := by
  have hm0 := hm
  obtain ⟨a0, a1, a2, a3, a4, a5, a6, a7, a8, a9, a10, a11, a12, a13, a14, a15⟩ := hm
  have hx0 := hx
  obtain ⟨x1, x2, x3, x4, x5, x6⟩ := hx
  have hb := x6.2.2.2.2.2.1
  have hdl := hb.1
  have xb := x6.2.2.2.2.2.2
  have n1 := x1.1
  refine Sp.of 0 (by decide) rfl rfl (Nat.le_of_ble_eq_true rfl) ?_
  refine z_aload_n dX12_unit_0 rfl ?_
  refine z_iload_n dX12_unit_1 rfl ?_
  refine z_iconst (v := nI 0) dX12_unit_2 rfl ?_
  refine z_callV2i dX12_unit_3 kX12_ofIndex lX12_104 (by first | assumption | exact And.left (by assumption)) rfl (s_ofIx hm0 hi (by omega) n1) (Nat.le_of_ble_eq_true rfl) (Nat.le_of_ble_eq_true rfl) ⟨Nat.le_of_ble_eq_true rfl, Nat.le_of_ble_eq_true rfl⟩ ?_
  rw [hj]
  refine z_tableIn (tgt := 40) dX12_unit_6 (by decide) (by decide) rfl (by decide) ?_
  refine z_aload_n dX12_unit_40 rfl ?_
  refine z_iload_n dX12_unit_41 rfl ?_
  refine z_callV1w dX12_unit_42 kX12_catches lX12_361 (by first | assumption | exact And.left (by assumption)) rfl (s_catC hm0 hi hx0 hnw (hcf it t hnw) (hrw it t hnw)) (Nat.le_of_ble_eq_true rfl) (Nat.le_of_ble_eq_true rfl) ⟨Nat.le_of_ble_eq_true rfl, Nat.le_of_ble_eq_true rfl⟩ ?_
  intro V1 hV1
  refine z_goto (tgt := 88) dX12_unit_45 (by decide) ?_
  refine z_return dX12_unit_88 (Nat.le_of_ble_eq_true rfl) (Nat.le_of_ble_eq_true rfl) rfl ?_
  rw [show xUnit v sh mo x = xFirst x it t from by unfold xUnit; rw [if_neg (by omega), hnw]]
  exact ⟨rfl, rfl, rfl, hV1.1, hV1.2⟩

set_option maxHeartbeats 4000000 in
set_option maxRecDepth 100000 in
theorem s_unit3C {D : zD} {z0 nx : Nat} {L : zL} {V : zV} {m i : Nat} {x : Ix} (hm : sM L m) (hi : i < 2) (hx : MX (V (m + 1)) (2140 + 1600 * i) x) {v : Vs} (hu : 1 ≤ x.1.1 ∧ x.1.1 ≤ 3) (hv : x.1.1 = 1 → MVr (V (m + 1)) x.1.2.2.1 (v x.1.2.2.1)) (hf : x.1.1 = 1 → (vk (v x.1.2.2.1) 0).1 ≤ x.1.2.1) (hn : x.1.1 = 1 → x.1.2.2.1 < 48) (hr0 : x.1.1 = 1 → x.1.2.2.2.1 = 0) (hcap : x.1.1 = 1 → ∀ c, eo x.2.1 (vat (v x.1.2.2.1) x.1.2.1) x.1.2.2.1 = some c → cap c x.2.2.1) (hcf : ∀ it t, x.2.2.2.1 = it :: t → it % 2 = 1 → cap (it / 2) x.2.2.1) (hrw : ∀ it t, x.2.2.2.1 = it :: t → it / 2 % 64 < 48) {sh mo : Nat} (hsh : V (m + 1) 5341 = nI sh) (hmo : V (m + 1) 5342 = nI mo) (b1 : sh < 1000) (b2 : mo < 1000) (hrd : x.1.2.2.2.1 + 1 < 1000000) (hj : x.1.1 = 3) {it : Nat} {t : List Nat} (hnw : x.2.2.2.1 = it :: t) : Sp D z0 8 0 0 mX12_unit [.ref m, .int (nI i)] L V nx (zq none L nx (fun V' => oX V V' m i ∧ MX (V' (m + 1)) (2140 + 1600 * i) (xUnit v sh mo x))) := by
  have hm0 := hm
  obtain ⟨a0, a1, a2, a3, a4, a5, a6, a7, a8, a9, a10, a11, a12, a13, a14, a15⟩ := hm
  have hx0 := hx
  obtain ⟨x1, x2, x3, x4, x5, x6⟩ := hx
  have hb := x6.2.2.2.2.2.1
  have hdl := hb.1
  have xb := x6.2.2.2.2.2.2
  have n1 := x1.1
  refine Sp.of 0 (by decide) rfl rfl (Nat.le_of_ble_eq_true rfl) ?_
  refine z_aload_n dX12_unit_0 rfl ?_
  refine z_iload_n dX12_unit_1 rfl ?_
  refine z_iconst (v := nI 0) dX12_unit_2 rfl ?_
  refine z_callV2i dX12_unit_3 kX12_ofIndex lX12_104 (by first | assumption | exact And.left (by assumption)) rfl (s_ofIx hm0 hi (by omega) n1) (Nat.le_of_ble_eq_true rfl) (Nat.le_of_ble_eq_true rfl) ⟨Nat.le_of_ble_eq_true rfl, Nat.le_of_ble_eq_true rfl⟩ ?_
  rw [hj]
  refine z_tableIn (tgt := 48) dX12_unit_6 (by decide) (by decide) rfl (by decide) ?_
  refine z_aload_n dX12_unit_48 rfl ?_
  refine z_iload_n dX12_unit_49 rfl ?_
  refine z_callV1q dX12_unit_50 kX12_doesFirst lX12_355 (by first | assumption | exact And.left (by assumption)) rfl (s_firstC hm0 hi hx0 hnw (hcf it t hnw) (hrw it t hnw)) (Nat.le_of_ble_eq_true rfl) (Nat.le_of_ble_eq_true rfl) ⟨Nat.le_of_ble_eq_true rfl, Nat.le_of_ble_eq_true rfl⟩ ?_
  intro V1 hV1
  refine z_if_neN (tgt := 88) dX12_unit_53 (by decide) (by omega) (fun c_53 => ?_) (fun c_53 => ?_)
  · refine z_return dX12_unit_88 (Nat.le_of_ble_eq_true rfl) (Nat.le_of_ble_eq_true rfl) rfl ?_
    rw [show xUnit v sh mo x = xFirst x it t from by unfold xUnit; rw [if_neg (by omega), hnw]]
    exact ⟨rfl, rfl, rfl, hV1.1, hV1.2⟩
  · exact absurd c_53 (by omega)

set_option maxHeartbeats 4000000 in
set_option maxRecDepth 100000 in
theorem s_unit3N {D : zD} {z0 nx : Nat} {L : zL} {V : zV} {m i : Nat} {x : Ix} (hm : sM L m) (hi : i < 2) (hx : MX (V (m + 1)) (2140 + 1600 * i) x) {v : Vs} (hu : 1 ≤ x.1.1 ∧ x.1.1 ≤ 3) (hv : x.1.1 = 1 → MVr (V (m + 1)) x.1.2.2.1 (v x.1.2.2.1)) (hf : x.1.1 = 1 → (vk (v x.1.2.2.1) 0).1 ≤ x.1.2.1) (hn : x.1.1 = 1 → x.1.2.2.1 < 48) (hr0 : x.1.1 = 1 → x.1.2.2.2.1 = 0) (hcap : x.1.1 = 1 → ∀ c, eo x.2.1 (vat (v x.1.2.2.1) x.1.2.1) x.1.2.2.1 = some c → cap c x.2.2.1) (hcf : ∀ it t, x.2.2.2.1 = it :: t → it % 2 = 1 → cap (it / 2) x.2.2.1) (hrw : ∀ it t, x.2.2.2.1 = it :: t → it / 2 % 64 < 48) {sh mo : Nat} (hsh : V (m + 1) 5341 = nI sh) (hmo : V (m + 1) 5342 = nI mo) (b1 : sh < 1000) (b2 : mo < 1000) (hrd : x.1.2.2.2.1 + 1 < 1000000) (hj : x.1.1 = 3) (hnw : x.2.2.2.1 = []) : Sp D z0 8 0 0 mX12_unit [.ref m, .int (nI i)] L V nx (zq none L nx (fun V' => oX V V' m i ∧ MX (V' (m + 1)) (2140 + 1600 * i) (xUnit v sh mo x))) := by
  have hm0 := hm
  obtain ⟨a0, a1, a2, a3, a4, a5, a6, a7, a8, a9, a10, a11, a12, a13, a14, a15⟩ := hm
  have hx0 := hx
  obtain ⟨x1, x2, x3, x4, x5, x6⟩ := hx
  have hb := x6.2.2.2.2.2.1
  have hdl := hb.1
  have xb := x6.2.2.2.2.2.2
  have n1 := x1.1
  refine Sp.of 0 (by decide) rfl rfl (Nat.le_of_ble_eq_true rfl) ?_
  refine z_aload_n dX12_unit_0 rfl ?_
  refine z_iload_n dX12_unit_1 rfl ?_
  refine z_iconst (v := nI 0) dX12_unit_2 rfl ?_
  refine z_callV2i dX12_unit_3 kX12_ofIndex lX12_104 (by first | assumption | exact And.left (by assumption)) rfl (s_ofIx hm0 hi (by omega) n1) (Nat.le_of_ble_eq_true rfl) (Nat.le_of_ble_eq_true rfl) ⟨Nat.le_of_ble_eq_true rfl, Nat.le_of_ble_eq_true rfl⟩ ?_
  rw [hj]
  refine z_tableIn (tgt := 48) dX12_unit_6 (by decide) (by decide) rfl (by decide) ?_
  refine z_aload_n dX12_unit_48 rfl ?_
  refine z_iload_n dX12_unit_49 rfl ?_
  refine z_callV1q dX12_unit_50 kX12_doesFirst lX12_355 (by first | assumption | exact And.left (by assumption)) rfl (s_firstN hm0 hi hx0 hnw) (Nat.le_of_ble_eq_true rfl) (Nat.le_of_ble_eq_true rfl) ⟨Nat.le_of_ble_eq_true rfl, Nat.le_of_ble_eq_true rfl⟩ ?_
  intro V1 hV1
  obtain ⟨o1, hx1⟩ := hV1
  have g4 := hx1.2.1.1
  refine z_if_neN (tgt := 88) dX12_unit_53 (by decide) (by omega) (fun c_53 => ?_) (fun c_53 => ?_)
  · exact absurd c_53 (by omega)
  · refine z_aload_n dX12_unit_56 rfl ?_
    refine z_iload_n dX12_unit_57 rfl ?_
    refine z_iconst (v := nI 0) dX12_unit_58 rfl ?_
    refine z_aload_n dX12_unit_59 rfl ?_
    refine z_iload_n dX12_unit_60 rfl ?_
    refine z_iconst (v := nI 4) dX12_unit_61 rfl ?_
    refine z_callV2i dX12_unit_62 kX12_ofIndex lX12_104 (by first | assumption | exact And.left (by assumption)) rfl (s_ofIx hm0 hi (by omega) g4) (Nat.le_of_ble_eq_true rfl) (Nat.le_of_ble_eq_true rfl) ⟨Nat.le_of_ble_eq_true rfl, Nat.le_of_ble_eq_true rfl⟩ ?_
    refine z_iconst (v := nI 1) dX12_unit_65 rfl ?_
    refine z_icmp_ne (tgt := 81) dX12_unit_66 (by decide) (fun c_66 => ?_) (fun c_66 => ?_)
    · have hj4 : ¬ (x.2.1.2.1 = true ∧ tws x.2.2.1) := fun z => c_66 (by rw [zb_t z.1] <;> rfl)
      refine z_iconst (v := nI 4) dX12_unit_81 rfl ?_
      refine z_callV3w dX12_unit_82 kX12_laysIndex lX12_80 (by first | assumption | exact And.left (by assumption)) rfl (s_lays hm0 (by omega) (by omega)) (Nat.le_of_ble_eq_true rfl) (Nat.le_of_ble_eq_true rfl) ⟨Nat.le_of_ble_eq_true rfl, Nat.le_of_ble_eq_true rfl⟩ ?_
      intro V3 hV3
      subst hV3
      refine z_goto (tgt := 88) dX12_unit_85 (by decide) ?_
      refine z_return dX12_unit_88 (Nat.le_of_ble_eq_true rfl) (Nat.le_of_ble_eq_true rfl) rfl ?_
      first
        | (rw [show xUnit v sh mo x = ((5, x.1.2), x.2) from e_5 hj hnw hj5]; exact ⟨rfl, rfl, rfl, (o1.trans hV2.1).up (by omega), MX_st hx2 (k := 5) (by decide) (by omega) (by decide)⟩)
        | (rw [show xUnit v sh mo x = ((4, x.1.2), x.2) from e_4 hj hnw hj4]; exact ⟨rfl, rfl, rfl, (o1.trans hV2.1).up (by omega), MX_st hx2 (k := 4) (by decide) (by omega) (by decide)⟩)
        | (rw [show xUnit v sh mo x = ((4, x.1.2), x.2) from e_4 hj hnw hj4]; exact ⟨rfl, rfl, rfl, o1.up (by omega), MX_st hx1 (k := 4) (by decide) (by omega) (by decide)⟩)
    · have hun : x.2.1.2.1 = true := Classical.byContradiction (fun z => by rw [zb_f z] at c_66; exact absurd c_66 (by decide))
      refine z_aload_n dX12_unit_69 rfl ?_
      refine z_iload_n dX12_unit_70 rfl ?_
      refine z_callV1q dX12_unit_71 kX12_areTwoAlike lX12_364 (by first | assumption | exact And.left (by assumption)) rfl (s_mTwo hm0 hi hx1) (Nat.le_of_ble_eq_true rfl) (Nat.le_of_ble_eq_true rfl) ⟨Nat.le_of_ble_eq_true rfl, Nat.le_of_ble_eq_true rfl⟩ ?_
      intro V2 hV2
      have hx2 : MX (V2 (m + 1)) (2140 + 1600 * i) x := by rw [hV2.2]; exact hx1
      refine z_if_eqB (tgt := 81) dX12_unit_74 (by decide) (fun c_74 => ?_) (fun c_74 => ?_)
      · have hj4 : ¬ (x.2.1.2.1 = true ∧ tws x.2.2.1) := fun z => c_74 z.2
        refine z_iconst (v := nI 4) dX12_unit_81 rfl ?_
        refine z_callV3w dX12_unit_82 kX12_laysIndex lX12_80 (by first | assumption | exact And.left (by assumption)) rfl (s_lays hm0 (by omega) (by omega)) (Nat.le_of_ble_eq_true rfl) (Nat.le_of_ble_eq_true rfl) ⟨Nat.le_of_ble_eq_true rfl, Nat.le_of_ble_eq_true rfl⟩ ?_
        intro V3 hV3
        subst hV3
        refine z_goto (tgt := 88) dX12_unit_85 (by decide) ?_
        refine z_return dX12_unit_88 (Nat.le_of_ble_eq_true rfl) (Nat.le_of_ble_eq_true rfl) rfl ?_
        first
          | (rw [show xUnit v sh mo x = ((5, x.1.2), x.2) from e_5 hj hnw hj5]; exact ⟨rfl, rfl, rfl, (o1.trans hV2.1).up (by omega), MX_st hx2 (k := 5) (by decide) (by omega) (by decide)⟩)
          | (rw [show xUnit v sh mo x = ((4, x.1.2), x.2) from e_4 hj hnw hj4]; exact ⟨rfl, rfl, rfl, (o1.trans hV2.1).up (by omega), MX_st hx2 (k := 4) (by decide) (by omega) (by decide)⟩)
          | (rw [show xUnit v sh mo x = ((4, x.1.2), x.2) from e_4 hj hnw hj4]; exact ⟨rfl, rfl, rfl, o1.up (by omega), MX_st hx1 (k := 4) (by decide) (by omega) (by decide)⟩)
      · have hj5 : x.2.1.2.1 = true ∧ tws x.2.2.1 := ⟨hun, c_74⟩
        refine z_iconst (v := nI 5) dX12_unit_77 rfl ?_
        refine z_goto (tgt := 82) dX12_unit_78 (by decide) ?_
        refine z_callV3w dX12_unit_82 kX12_laysIndex lX12_80 (by first | assumption | exact And.left (by assumption)) rfl (s_lays hm0 (by omega) (by omega)) (Nat.le_of_ble_eq_true rfl) (Nat.le_of_ble_eq_true rfl) ⟨Nat.le_of_ble_eq_true rfl, Nat.le_of_ble_eq_true rfl⟩ ?_
        intro V3 hV3
        subst hV3
        refine z_goto (tgt := 88) dX12_unit_85 (by decide) ?_
        refine z_return dX12_unit_88 (Nat.le_of_ble_eq_true rfl) (Nat.le_of_ble_eq_true rfl) rfl ?_
        first
          | (rw [show xUnit v sh mo x = ((5, x.1.2), x.2) from e_5 hj hnw hj5]; exact ⟨rfl, rfl, rfl, (o1.trans hV2.1).up (by omega), MX_st hx2 (k := 5) (by decide) (by omega) (by decide)⟩)
          | (rw [show xUnit v sh mo x = ((4, x.1.2), x.2) from e_4 hj hnw hj4]; exact ⟨rfl, rfl, rfl, (o1.trans hV2.1).up (by omega), MX_st hx2 (k := 4) (by decide) (by omega) (by decide)⟩)
          | (rw [show xUnit v sh mo x = ((4, x.1.2), x.2) from e_4 hj hnw hj4]; exact ⟨rfl, rfl, rfl, o1.up (by omega), MX_st hx1 (k := 4) (by decide) (by omega) (by decide)⟩)

theorem s_unit {D : zD} {z0 nx : Nat} {L : zL} {V : zV} {m i : Nat} {x : Ix} (hm : sM L m) (hi : i < 2) (hx : MX (V (m + 1)) (2140 + 1600 * i) x) {v : Vs} (hu : 1 ≤ x.1.1 ∧ x.1.1 ≤ 3) (hv : x.1.1 = 1 → MVr (V (m + 1)) x.1.2.2.1 (v x.1.2.2.1)) (hf : x.1.1 = 1 → (vk (v x.1.2.2.1) 0).1 ≤ x.1.2.1) (hn : x.1.1 = 1 → x.1.2.2.1 < 48) (hr0 : x.1.1 = 1 → x.1.2.2.2.1 = 0) (hcap : x.1.1 = 1 → ∀ c, eo x.2.1 (vat (v x.1.2.2.1) x.1.2.1) x.1.2.2.1 = some c → cap c x.2.2.1) (hcf : ∀ it t, x.2.2.2.1 = it :: t → it % 2 = 1 → cap (it / 2) x.2.2.1) (hrw : ∀ it t, x.2.2.2.1 = it :: t → it / 2 % 64 < 48) {sh mo : Nat} (hsh : V (m + 1) 5341 = nI sh) (hmo : V (m + 1) 5342 = nI mo) (b1 : sh < 1000) (b2 : mo < 1000) (hrd : x.1.2.2.2.1 + 1 < 1000000) : Sp D z0 8 0 0 mX12_unit [.ref m, .int (nI i)] L V nx (zq none L nx (fun V' => oX V V' m i ∧ MX (V' (m + 1)) (2140 + 1600 * i) (xUnit v sh mo x))) := by
  rcases (show x.1.1 = 1 ∨ x.1.1 = 2 ∨ x.1.1 = 3 by omega) with hj | hj | hj
  · exact s_unit1 hm hi hx hu hv hf hn hr0 hcap hcf hrw hsh hmo b1 b2 hrd hj
  · cases hnw : x.2.2.2.1 with
    | nil => exact s_unit2N hm hi hx hu hv hf hn hr0 hcap hcf hrw hsh hmo b1 b2 hrd hj hnw
    | cons it t => exact s_unit2C hm hi hx hu hv hf hn hr0 hcap hcf hrw hsh hmo b1 b2 hrd hj hnw
  · cases hnw : x.2.2.2.1 with
    | nil => exact s_unit3N hm hi hx hu hv hf hn hr0 hcap hcf hrw hsh hmo b1 b2 hrd hj hnw
    | cons it t => exact s_unit3C hm hi hx hu hv hf hn hr0 hcap hcf hrw hsh hmo b1 b2 hrd hj hnw

