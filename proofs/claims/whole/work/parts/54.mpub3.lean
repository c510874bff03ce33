/-! the reference: the calls about builds and indexes -/
theorem und_i {n : Nat} (h : n < 6) : ((1 : Int) ≤ (nI n).toInt ∧ (nI n).toInt ≤ (3 : Nat)) ↔ (1 ≤ n ∧ n ≤ 3) := by
  rw [nI_toInt (by omega)]
  omega
theorem setX_2 {f : Nat → Int32} {s : St} {k : Nat} {x y : Ix} (h : MB f (setX (setX s k x) k y)) : MB f (setX s k y) := h.st rfl (fun _ _ => rfl) (fun _ _ => rfl) (fun i hi => by
  show up1 s.2.2.2 k y i = up1 (up1 s.2.2.2 k x) k y i
  by_cases e : i = k
  · subst e; rw [up1_s, up1_s]
  · rw [up1_o e, up1_o e, up1_o e])
theorem MX_of {f : Nat → Int32} {s : St} {k : Nat} {x : Ix} (h : MB f (setX s k x)) (hk : k < 2) : MX f (2140 + 1600 * k) x := by
  have z := h.2.2.2 k hk
  rw [show (setX s k x).2.2.2 k = x from up1_s _ _ _] at z
  exact z
def uok (v : Vs) (y : Ix) : Prop := (y.1.1 = 1 → (vk (v y.1.2.2.1) 0).1 ≤ y.1.2.1) ∧ (y.1.1 = 1 → y.1.2.2.1 < 48) ∧ (y.1.1 = 1 → y.1.2.2.2.1 = 0) ∧ (y.1.1 = 1 → ∀ c, eo y.2.1 (vat (v y.1.2.2.1) y.1.2.1) y.1.2.2.1 = some c → cap c y.2.2.1) ∧ (∀ it t, y.2.2.2.1 = it :: t → it % 2 = 1 → cap (it / 2) y.2.2.1) ∧ (∀ it t, y.2.2.2.1 = it :: t → it / 2 % 64 < 48) ∧ y.1.2.2.2.1 + 1 < 1000000

set_option maxHeartbeats 4000000 in
set_option maxRecDepth 100000 in
theorem s_mBuilt {D : zD} {z0 nx : Nat} {L : zL} {V : zV} {m k : Nat} {x : Ix} (hm : sM L m) (hk : k < 2) (hX : MX (V (m + 1)) (2140 + 1600 * k) x) : Sp D z0 2 0 0 mX12_isBuilt [.ref m, .int (nI k)] L V nx (zi (zb (und x)) L V nx) := by
  have hm0 := hm
  have n1 := hX.1.1
  have hs6 := hX.2.2.2.2.2.1
  refine Sp.of 0 (by decide) rfl rfl (Nat.le_of_ble_eq_true rfl) ?_
  refine z_aload_n dX12_isBuilt_0 rfl ?_
  refine z_iload_n dX12_isBuilt_1 rfl ?_
  refine z_iconst (v := nI 0) dX12_isBuilt_2 rfl ?_
  refine z_callV2i dX12_isBuilt_3 kX12_ofIndex lX12_104 (by first | assumption | exact And.left (by assumption)) rfl (s_ofIx hm0 hk (by omega) n1) (Nat.le_of_ble_eq_true rfl) (Nat.le_of_ble_eq_true rfl) ⟨Nat.le_of_ble_eq_true rfl, Nat.le_of_ble_eq_true rfl⟩ ?_
  refine z_i2l dX12_isBuilt_6 ?_
  refine z_lconst dX12_isBuilt_7 rfl ?_
  refine z_ldc2 dX12_isBuilt_8 qX12_84 ?_
  refine z_callS3i dX12_isBuilt_11 kX12_isIn lX12_86 (s_isIn (v := (nI x.1.1).toInt64)) (Nat.le_of_ble_eq_true rfl) (Nat.le_of_ble_eq_true rfl) ⟨Nat.le_of_ble_eq_true rfl, Nat.le_of_ble_eq_true rfl⟩ ?_
  refine z_zreturn dX12_isBuilt_14 (Nat.le_of_ble_eq_true rfl) (Nat.le_of_ble_eq_true rfl) rfl (by first | exact Or.inl rfl | exact Or.inr rfl | exact zb_01 _ | assumption) ?_
  exact zi_r (zb_iff (by rw [Int32.toInt_toInt64]; exact und_i hs6))

set_option maxHeartbeats 4000000 in
set_option maxRecDepth 100000 in
theorem m_takeUp {D : zD} {z0 nx : Nat} {L : zL} {V : zV} {m : Nat} {w : Wo} (hm : sM L m) (h : MW V m w) {i : Int32} (hrd : ∀ i, i < 2 → (xof w i).1.2.2.2.1 + 1 < 1000000) : Sp D z0 3 0 0 mX12_takeUp [.ref m, .int i] L V nx (zq (some (.int (o_takeUp i w).1)) L nx (fun V' => zEq V V' m (m + 16) ∧ MW V' m (o_takeUp i w).2)) := by
  have hm0 := hm
  have h0 := h
  obtain ⟨a0, a1, a2, a3, a4, a5, a6, a7, a8, a9, a10, a11, a12, a13, a14, a15⟩ := hm
  refine Sp.of 0 (by decide) rfl rfl (Nat.le_of_ble_eq_true rfl) ?_
  refine z_aload_n dX12_takeUp_0 rfl ?_
  refine z_iconst (v := nI 0) dX12_takeUp_1 rfl ?_
  refine z_putI dX12_takeUp_2 fX12_1 (by first | assumption | exact And.left (by assumption)) rfl ?_
  have h9 := MW_thr (x := nI 0) h0
  have e0 : zEq V (zup V m 0 (nI 0)) m (m + 16) := zEq.rf.up (by omega) (by omega)
  generalize zup V m 0 (nI 0) = V1 at h9 e0 ⊢
  clear h0 h
  have h0 := h9
  obtain ⟨k1, k2, k3, k4, k5, k6, k7⟩ := h9
  refine z_iload_n dX12_takeUp_5 rfl ?_
  refine z_callS1i dX12_takeUp_6 kX12_isIndex lX12_346 s_mIx (Nat.le_of_ble_eq_true rfl) (Nat.le_of_ble_eq_true rfl) ⟨Nat.le_of_ble_eq_true rfl, Nat.le_of_ble_eq_true rfl⟩ ?_
  refine z_if_neB (tgt := 15) dX12_takeUp_9 (by decide) (fun c_9 => ?_) (fun c_9 => ?_)
  · obtain ⟨k, hk, rfl⟩ := c_9
    have hT := tn_k (k := k) (by omega)
    have hX0 := k1.2.2.2 k hk
    obtain ⟨x1, x2, x3, x4, x5, x6⟩ := k1.2.2.2 k hk
    obtain ⟨n1, n2, n3, n4, n5⟩ := x1
    have hs6 := x6.1
    refine z_aload_n dX12_takeUp_15 rfl ?_
    refine z_iload_n dX12_takeUp_16 rfl ?_
    refine z_iconst (v := nI 0) dX12_takeUp_17 rfl ?_
    refine z_callV2i dX12_takeUp_18 kX12_ofIndex lX12_104 (by first | assumption | exact And.left (by assumption)) rfl (s_ofIx hm0 hk (by omega) n1) (Nat.le_of_ble_eq_true rfl) (Nat.le_of_ble_eq_true rfl) ⟨Nat.le_of_ble_eq_true rfl, Nat.le_of_ble_eq_true rfl⟩ ?_
    refine z_iconst (v := nI 5) dX12_takeUp_21 rfl ?_
    refine z_icmp_eqN (tgt := 28) dX12_takeUp_22 (by decide) (by omega) (by omega) (fun c_22 => ?_) (fun c_22 => ?_)
    · refine z_aload_n dX12_takeUp_28 rfl ?_
      refine z_callV0w dX12_takeUp_29 kX12_notes lX12_152 (by first | assumption | exact And.left (by assumption)) rfl (s_notes hm0 h0) (Nat.le_of_ble_eq_true rfl) (Nat.le_of_ble_eq_true rfl) ⟨Nat.le_of_ble_eq_true rfl, Nat.le_of_ble_eq_true rfl⟩ ?_
      intro V2 hV2
      obtain ⟨e2, f2, f3, h2⟩ := hV2
      obtain ⟨j1, j2, j3, j4, j5, j6, j7⟩ := id h2
      have j1 : MB (V2 (m + 1)) w.1 := j1
      have e3 := e0.trans e2
      have hX2 := j1.2.2.2 k hk
      refine z_aload_n dX12_takeUp_32 rfl ?_
      refine z_iload_n dX12_takeUp_33 rfl ?_
      refine z_iconst (v := nI 0) dX12_takeUp_34 rfl ?_
      refine z_iconst (v := nI 2) dX12_takeUp_35 rfl ?_
      refine z_callV3w dX12_takeUp_36 kX12_laysIndex lX12_80 (by first | assumption | exact And.left (by assumption)) rfl (s_lays hm0 (by omega) (by omega)) (Nat.le_of_ble_eq_true rfl) (Nat.le_of_ble_eq_true rfl) ⟨Nat.le_of_ble_eq_true rfl, Nat.le_of_ble_eq_true rfl⟩ ?_
      intro V3 hV3
      subst hV3
      have hX3 := MX_st hX2 (k := 2) (by decide) (by omega) (by decide)
      have g2 := hX3.1.2.2.1
      have hrd2 := hrd k hk
      refine z_aload_n dX12_takeUp_39 rfl ?_
      refine z_iload_n dX12_takeUp_40 rfl ?_
      refine z_iconst (v := nI 2) dX12_takeUp_41 rfl ?_
      refine z_aload_n dX12_takeUp_42 rfl ?_
      refine z_iload_n dX12_takeUp_43 rfl ?_
      refine z_iconst (v := nI 2) dX12_takeUp_44 rfl ?_
      refine z_callV2i dX12_takeUp_45 kX12_ofIndex lX12_104 (by first | assumption | exact And.left (by assumption)) rfl (s_ofIx hm0 hk (by omega) g2) (Nat.le_of_ble_eq_true rfl) (Nat.le_of_ble_eq_true rfl) ⟨Nat.le_of_ble_eq_true rfl, Nat.le_of_ble_eq_true rfl⟩ ?_
      refine z_iconst (v := nI 1) dX12_takeUp_48 rfl ?_
      refine z_addN dX12_takeUp_49 ?_
      refine z_callV3w dX12_takeUp_50 kX12_laysIndex lX12_80 (by first | assumption | exact And.left (by assumption)) rfl (s_lays hm0 (by omega) (by omega)) (Nat.le_of_ble_eq_true rfl) (Nat.le_of_ble_eq_true rfl) ⟨Nat.le_of_ble_eq_true rfl, Nat.le_of_ble_eq_true rfl⟩ ?_
      intro V4 hV4
      subst hV4
      have hX4 := MX_rd hX3 hrd2
      refine z_aload_n dX12_takeUp_53 rfl ?_
      refine z_iload_n dX12_takeUp_54 rfl ?_
      refine z_callV1w dX12_takeUp_55 kX12_turnsLogs lX12_352 (by first | assumption | exact And.left (by assumption)) rfl (s_mTurn hm0 hk hX4) (Nat.le_of_ble_eq_true rfl) (Nat.le_of_ble_eq_true rfl) ⟨Nat.le_of_ble_eq_true rfl, Nat.le_of_ble_eq_true rfl⟩ ?_
      intro V5 hV5
      have g5 := hV5.2.1.2.2.1
      refine z_aload_n dX12_takeUp_58 rfl ?_
      refine z_iload_n dX12_takeUp_59 rfl ?_
      refine z_iconst (v := nI 2) dX12_takeUp_60 rfl ?_
      refine z_callV2i dX12_takeUp_61 kX12_ofIndex lX12_104 (by first | assumption | exact And.left (by assumption)) rfl (s_ofIx hm0 hk (by omega) g5) (Nat.le_of_ble_eq_true rfl) (Nat.le_of_ble_eq_true rfl) ⟨Nat.le_of_ble_eq_true rfl, Nat.le_of_ble_eq_true rfl⟩ ?_
      refine z_ireturn dX12_takeUp_64 (Nat.le_of_ble_eq_true rfl) (Nat.le_of_ble_eq_true rfl) rfl ?_
      have ho : oX V2 V5 m k := ((oX.rf.up (by omega)).up (by omega)).trans hV5.1
      rw [show o_takeUp (nI k) w = (nI (xGo (xof w k)).1.2.2.2.1, wst w (setX w.1 k (xGo (xof w k)))) from by unfold o_takeUp; rw [cif_y (rng_k hk), hT, if_pos (show (xof w k).1.1 = 5 from c_22)]]
      exact ⟨rfl, rfl, rfl, e3.trans (ho.a hk).zeq, MW_all h2 (ho.a hk) (ho.ix hk j1 hV5.2)⟩
    · refine z_bipush (v := (-5)) dX12_takeUp_25 rfl ?_
      refine z_ireturn dX12_takeUp_27 (Nat.le_of_ble_eq_true rfl) (Nat.le_of_ble_eq_true rfl) rfl ?_
      rw [show o_takeUp (nI k) w = (-5, w) from by unfold o_takeUp; rw [cif_y (rng_k hk)]; rw [hT]; rw [if_neg (show ¬ (xof w k).1.1 = 5 from c_22)]]
      exact ⟨rfl, rfl, rfl, e0, h0⟩
  · refine z_bipush (v := (-2)) dX12_takeUp_12 rfl ?_
    refine z_ireturn dX12_takeUp_14 (Nat.le_of_ble_eq_true rfl) (Nat.le_of_ble_eq_true rfl) rfl ?_
    rw [show o_takeUp i w = (-2, w) from by unfold o_takeUp; rw [cif_n c_9]]
    exact ⟨rfl, rfl, rfl, e0, h0⟩

set_option maxHeartbeats 4000000 in
set_option maxRecDepth 100000 in
theorem m_giveUp {D : zD} {z0 nx : Nat} {L : zL} {V : zV} {m : Nat} {w : Wo} (hm : sM L m) (h : MW V m w) {i : Int32} : Sp D z0 3 0 0 mX12_giveUp [.ref m, .int i] L V nx (zq (some (.int (o_giveUp i w).1)) L nx (fun V' => zEq V V' m (m + 16) ∧ MW V' m (o_giveUp i w).2)) := by
  have hm0 := hm
  have h0 := h
  obtain ⟨a0, a1, a2, a3, a4, a5, a6, a7, a8, a9, a10, a11, a12, a13, a14, a15⟩ := hm
  refine Sp.of 1 (by decide) rfl rfl (Nat.le_of_ble_eq_true rfl) ?_
  refine z_aload_n dX12_giveUp_0 rfl ?_
  refine z_iconst (v := nI 0) dX12_giveUp_1 rfl ?_
  refine z_putI dX12_giveUp_2 fX12_1 (by first | assumption | exact And.left (by assumption)) rfl ?_
  have h9 := MW_thr (x := nI 0) h0
  have e0 : zEq V (zup V m 0 (nI 0)) m (m + 16) := zEq.rf.up (by omega) (by omega)
  generalize zup V m 0 (nI 0) = V1 at h9 e0 ⊢
  clear h0 h
  have h0 := h9
  obtain ⟨k1, k2, k3, k4, k5, k6, k7⟩ := h9
  refine z_iload_n dX12_giveUp_5 rfl ?_
  refine z_callS1i dX12_giveUp_6 kX12_isIndex lX12_346 s_mIx (Nat.le_of_ble_eq_true rfl) (Nat.le_of_ble_eq_true rfl) ⟨Nat.le_of_ble_eq_true rfl, Nat.le_of_ble_eq_true rfl⟩ ?_
  refine z_if_neB (tgt := 15) dX12_giveUp_9 (by decide) (fun c_9 => ?_) (fun c_9 => ?_)
  · obtain ⟨k, hk, rfl⟩ := c_9
    have hT := tn_k (k := k) (by omega)
    have hX0 := k1.2.2.2 k hk
    obtain ⟨x1, x2, x3, x4, x5, x6⟩ := k1.2.2.2 k hk
    obtain ⟨n1, n2, n3, n4, n5⟩ := x1
    have hs6 := x6.1
    refine z_aload_n dX12_giveUp_15 rfl ?_
    refine z_iload_n dX12_giveUp_16 rfl ?_
    refine z_iconst (v := nI 0) dX12_giveUp_17 rfl ?_
    refine z_callV2i dX12_giveUp_18 kX12_ofIndex lX12_104 (by first | assumption | exact And.left (by assumption)) rfl (s_ofIx hm0 hk (by omega) n1) (Nat.le_of_ble_eq_true rfl) (Nat.le_of_ble_eq_true rfl) ⟨Nat.le_of_ble_eq_true rfl, Nat.le_of_ble_eq_true rfl⟩ ?_
    refine z_istore_n dX12_giveUp_21 (Nat.le_of_ble_eq_true rfl) rfl ?_
    refine z_iload_n dX12_giveUp_22 rfl ?_
    refine z_if_neN (tgt := 29) dX12_giveUp_23 (by decide) (by omega) (fun c_23 => ?_) (fun c_23 => ?_)
    · refine z_aload_n dX12_giveUp_29 rfl ?_
      refine z_callV0w dX12_giveUp_30 kX12_notes lX12_152 (by first | assumption | exact And.left (by assumption)) rfl (s_notes hm0 h0) (Nat.le_of_ble_eq_true rfl) (Nat.le_of_ble_eq_true rfl) ⟨Nat.le_of_ble_eq_true rfl, Nat.le_of_ble_eq_true rfl⟩ ?_
      intro V2 hV2
      obtain ⟨e2, f2, f3, h2⟩ := hV2
      obtain ⟨j1, j2, j3, j4, j5, j6, j7⟩ := id h2
      have j1 : MB (V2 (m + 1)) w.1 := j1
      have e3 := e0.trans e2
      refine z_aload_n dX12_giveUp_33 rfl ?_
      refine z_iload_n dX12_giveUp_34 rfl ?_
      refine z_iconst (v := nI 1) dX12_giveUp_35 rfl ?_
      refine z_callV2w dX12_giveUp_36 kX12_empties lX12_68 (by first | assumption | exact And.left (by assumption)) rfl (s_mEmp hm0 hk (by omega)) (Nat.le_of_ble_eq_true rfl) (Nat.le_of_ble_eq_true rfl) ⟨Nat.le_of_ble_eq_true rfl, Nat.le_of_ble_eq_true rfl⟩ ?_
      intro V3 hV3
      refine z_iload_n dX12_giveUp_39 rfl ?_
      refine z_ireturn dX12_giveUp_40 (Nat.le_of_ble_eq_true rfl) (Nat.le_of_ble_eq_true rfl) rfl ?_
      rw [show o_giveUp (nI k) w = (nI (xof w k).1.1, wst w (setX w.1 k (xClear 1))) from by unfold o_giveUp; rw [cif_y (rng_k hk), hT, if_neg (show ¬ (xof w k).1.1 = 0 from c_23)]]
      exact ⟨rfl, rfl, rfl, e3.trans (hV3.1.a hk).zeq, MW_all h2 (hV3.1.a hk) (hV3.1.ix hk j1 hV3.2)⟩
    · refine z_bipush (v := (-5)) dX12_giveUp_26 rfl ?_
      refine z_ireturn dX12_giveUp_28 (Nat.le_of_ble_eq_true rfl) (Nat.le_of_ble_eq_true rfl) rfl ?_
      rw [show o_giveUp (nI k) w = (-5, w) from by unfold o_giveUp; rw [cif_y (rng_k hk)]; rw [hT]; rw [if_pos (show (xof w k).1.1 = 0 by have z := c_23; show (w.1.2.2.2 k).1.1 = 0; omega)]]
      exact ⟨rfl, rfl, rfl, e0, h0⟩
  · refine z_bipush (v := (-2)) dX12_giveUp_12 rfl ?_
    refine z_ireturn dX12_giveUp_14 (Nat.le_of_ble_eq_true rfl) (Nat.le_of_ble_eq_true rfl) rfl ?_
    rw [show o_giveUp i w = (-2, w) from by unfold o_giveUp; rw [cif_n c_9]]
    exact ⟨rfl, rfl, rfl, e0, h0⟩

set_option maxHeartbeats 4000000 in
set_option maxRecDepth 100000 in
theorem lp_mWork {D : zD} {z0 nx : Nat} {L : zL} {V : zV} {m k n : Nat} {w : Wo} {V2 : zV} (hm : sM L m) (hk : k < 2) (hn : n < 1000) (x0 : Ix) : ∀ (fu : Nat) (j : Nat) (V1 : zV) (y : Ix), n - j = fu → j ≤ n → oA V2 V1 m → MB (V1 (m + 1)) (setX w.1 k y) → uit w.1.2.1 w.1.1.2.1 w.1.1.2.2 (n - j) y = uit w.1.2.1 w.1.1.2.1 w.1.1.2.2 n x0 → (∀ q, uok w.1.2.1 (uit w.1.2.1 w.1.1.2.1 w.1.1.2.2 q y)) → Z D z0 10 0 0 mX12_work 0 0 47 [some (.ref m), some (.int (nI k)), some (.int (nI n)), some (.int (nI j))] [] L V1 nx (zq (some (.int (nI (uit w.1.2.1 w.1.1.2.1 w.1.1.2.2 n x0).1.1))) L nx (fun V' => oA V2 V' m ∧ MB (V' (m + 1)) (setX w.1 k (uit w.1.2.1 w.1.1.2.1 w.1.1.2.2 n x0)))) := by
  intro fu
  induction fu using Nat.strongRecOn with
  | ind fu ih =>
    intro j V1 y h_fu h_0 h_1 h_2 h_3 h_4
    have hm0 := hm
    have hX := MX_of h_2 hk
    have hMN := h_2.1
    have n1 := hX.1.1
    obtain ⟨u1, u2, u3, u4, u5, u6, u7⟩ := h_4 0
    refine z_iload_n dX12_work_47 rfl ?_
    refine z_iload_n dX12_work_48 rfl ?_
    refine z_icmp_geN (tgt := 71) dX12_work_49 (by decide) (by omega) (by omega) (fun c_49 => ?_) (fun c_49 => ?_)
    · have ey : uit w.1.2.1 w.1.1.2.1 w.1.1.2.2 n x0 = y := by rw [← h_3, show n - j = 0 by omega] <;> rfl
      refine z_aload_n dX12_work_71 rfl ?_
      refine z_iload_n dX12_work_72 rfl ?_
      refine z_iconst (v := nI 0) dX12_work_73 rfl ?_
      refine z_callV2i dX12_work_74 kX12_ofIndex lX12_104 (by first | assumption | exact And.left (by assumption)) rfl (s_ofIx hm0 hk (by omega) n1) (Nat.le_of_ble_eq_true rfl) (Nat.le_of_ble_eq_true rfl) ⟨Nat.le_of_ble_eq_true rfl, Nat.le_of_ble_eq_true rfl⟩ ?_
      refine z_ireturn dX12_work_77 (Nat.le_of_ble_eq_true rfl) (Nat.le_of_ble_eq_true rfl) rfl ?_
      rw [ey]
      exact ⟨rfl, rfl, rfl, h_1, h_2⟩
    · refine z_aload_n dX12_work_52 rfl ?_
      refine z_iload_n dX12_work_53 rfl ?_
      refine z_callV1i dX12_work_54 kX12_isBuilt lX12_369 (by first | assumption | exact And.left (by assumption)) rfl (s_mBuilt hm0 hk hX) (Nat.le_of_ble_eq_true rfl) (Nat.le_of_ble_eq_true rfl) ⟨Nat.le_of_ble_eq_true rfl, Nat.le_of_ble_eq_true rfl⟩ ?_
      refine z_if_eqB (tgt := 71) dX12_work_57 (by decide) (fun c_57 => ?_) (fun c_57 => ?_)
      · have ey : uit w.1.2.1 w.1.1.2.1 w.1.1.2.2 n x0 = y := by rw [← h_3, show n - j = (n - (j + 1)) + 1 by omega, uit, cif_n c_57]
        refine z_aload_n dX12_work_71 rfl ?_
        refine z_iload_n dX12_work_72 rfl ?_
        refine z_iconst (v := nI 0) dX12_work_73 rfl ?_
        refine z_callV2i dX12_work_74 kX12_ofIndex lX12_104 (by first | assumption | exact And.left (by assumption)) rfl (s_ofIx hm0 hk (by omega) n1) (Nat.le_of_ble_eq_true rfl) (Nat.le_of_ble_eq_true rfl) ⟨Nat.le_of_ble_eq_true rfl, Nat.le_of_ble_eq_true rfl⟩ ?_
        refine z_ireturn dX12_work_77 (Nat.le_of_ble_eq_true rfl) (Nat.le_of_ble_eq_true rfl) rfl ?_
        rw [ey]
        exact ⟨rfl, rfl, rfl, h_1, h_2⟩
      · have ey : uit w.1.2.1 w.1.1.2.1 w.1.1.2.2 (n - (j + 1)) (xUnit w.1.2.1 w.1.1.2.1 w.1.1.2.2 y) = uit w.1.2.1 w.1.1.2.1 w.1.1.2.2 n x0 := by rw [← h_3, show n - j = (n - (j + 1)) + 1 by omega, uit, cif_y c_57]
        refine z_aload_n dX12_work_60 rfl ?_
        refine z_iload_n dX12_work_61 rfl ?_
        refine z_callV1w dX12_work_62 kX12_unit lX12_372 (by first | assumption | exact And.left (by assumption)) rfl (s_unit hm0 hk hX c_57 (fun z => h_2.2.1 _ (u2 z)) u1 u2 u3 u4 u5 u6 hMN.2.1 hMN.2.2.1 (by have := hMN.2.2.2.2.1; omega) (by have := hMN.2.2.2.2.2.2; omega) u7) (Nat.le_of_ble_eq_true rfl) (Nat.le_of_ble_eq_true rfl) ⟨Nat.le_of_ble_eq_true rfl, Nat.le_of_ble_eq_true rfl⟩ ?_
        intro V3 hV3
        refine z_incN dX12_work_65 rfl rfl ?_
        refine z_goto (tgt := 47) dX12_work_68 (by decide) ?_
        exact ih _ (by omega) (j + 1) V3 _ rfl (by omega) (h_1.trans (hV3.1.a hk)) (setX_2 (hV3.1.ix hk h_2 hV3.2)) ey (fun q => by
          have z := h_4 (q + 1)
          rw [uit, cif_y c_57] at z
          exact z)

theorem work_i {n : Int32} : ((1 : Int) ≤ n.toInt ∧ n.toInt ≤ (200 : Nat)) ↔ (rng 201 n ∧ ¬ n = 0) := by
  constructor
  · rintro ⟨h1, h2⟩
    refine ⟨(rng_i (n := 200) (by decide)).mp ⟨by omega, h2⟩, fun q => ?_⟩
    rw [q] at h1
    exact absurd h1 (by decide)
  · rintro ⟨⟨k, hk, rfl⟩, h0⟩
    have : ¬ k = 0 := fun q => h0 (by rw [q] <;> rfl)
    rw [nI_toInt (by omega)]
    omega

set_option maxHeartbeats 4000000 in
set_option maxRecDepth 100000 in
theorem m_work {D : zD} {z0 nx : Nat} {L : zL} {V : zV} {m : Nat} {w : Wo} (hm : sM L m) (h : MW V m w) {i : Int32} {n : Int32} (hU : ∀ i, i < 2 → ∀ q, uok w.1.2.1 (uit w.1.2.1 w.1.1.2.1 w.1.1.2.2 q (xof w i))) : Sp D z0 10 0 0 mX12_work [.ref m, .int i, .int n] L V nx (zq (some (.int (o_work i n w).1)) L nx (fun V' => zEq V V' m (m + 16) ∧ MW V' m (o_work i n w).2)) := by
  have hm0 := hm
  have h0 := h
  obtain ⟨a0, a1, a2, a3, a4, a5, a6, a7, a8, a9, a10, a11, a12, a13, a14, a15⟩ := hm
  refine Sp.of 1 (by decide) rfl rfl (Nat.le_of_ble_eq_true rfl) ?_
  refine z_aload_n dX12_work_0 rfl ?_
  refine z_iconst (v := nI 0) dX12_work_1 rfl ?_
  refine z_putI dX12_work_2 fX12_1 (by first | assumption | exact And.left (by assumption)) rfl ?_
  have h9 := MW_thr (x := nI 0) h0
  have e0 : zEq V (zup V m 0 (nI 0)) m (m + 16) := zEq.rf.up (by omega) (by omega)
  generalize zup V m 0 (nI 0) = V1 at h9 e0 ⊢
  clear h0 h
  have h0 := h9
  obtain ⟨k1, k2, k3, k4, k5, k6, k7⟩ := h9
  refine z_iload_n dX12_work_5 rfl ?_
  refine z_callS1i dX12_work_6 kX12_isIndex lX12_346 s_mIx (Nat.le_of_ble_eq_true rfl) (Nat.le_of_ble_eq_true rfl) ⟨Nat.le_of_ble_eq_true rfl, Nat.le_of_ble_eq_true rfl⟩ ?_
  refine z_if_neB (tgt := 15) dX12_work_9 (by decide) (fun c_9 => ?_) (fun c_9 => ?_)
  · have c_i := c_9
    refine z_iload_n dX12_work_15 rfl ?_
    refine z_i2l dX12_work_16 ?_
    refine z_lconst dX12_work_17 rfl ?_
    refine z_ldc2 dX12_work_18 qX12_367 ?_
    refine z_callS3i dX12_work_21 kX12_isIn lX12_86 (s_isIn (v := n.toInt64)) (Nat.le_of_ble_eq_true rfl) (Nat.le_of_ble_eq_true rfl) ⟨Nat.le_of_ble_eq_true rfl, Nat.le_of_ble_eq_true rfl⟩ ?_
    refine z_if_neB (tgt := 30) dX12_work_24 (by decide) (fun c_24 => ?_) (fun c_24 => ?_)
    · have c_n : rng 201 n ∧ ¬ n = 0 := work_i.mp (by rw [Int32.toInt_toInt64] at c_24; exact c_24)
      have hR : o_work i n w = cif (und (xof w (tn i))) (nI (wrk w (tn i) (tn n)).1.1, wst w (setX w.1 (tn i) (wrk w (tn i) (tn n)))) (-5, w) := by unfold o_work; rw [cif_y c_9, cif_y c_n]
      obtain ⟨⟨j, hj, rfl⟩, hj0⟩ := c_n
      obtain ⟨k, hk, rfl⟩ := c_9
      have hT := tn_k (k := k) (by omega)
      have hX0 := k1.2.2.2 k hk
      obtain ⟨x1, x2, x3, x4, x5, x6⟩ := k1.2.2.2 k hk
      obtain ⟨n1, n2, n3, n4, n5⟩ := x1
      have hs6 := x6.1
      rw [hT, tn_k (k := j) (by omega)] at hR
      refine z_aload_n dX12_work_30 rfl ?_
      refine z_iload_n dX12_work_31 rfl ?_
      refine z_callV1i dX12_work_32 kX12_isBuilt lX12_369 (by first | assumption | exact And.left (by assumption)) rfl (s_mBuilt hm0 hk hX0) (Nat.le_of_ble_eq_true rfl) (Nat.le_of_ble_eq_true rfl) ⟨Nat.le_of_ble_eq_true rfl, Nat.le_of_ble_eq_true rfl⟩ ?_
      refine z_if_neB (tgt := 41) dX12_work_35 (by decide) (fun c_35 => ?_) (fun c_35 => ?_)
      · refine z_aload_n dX12_work_41 rfl ?_
        refine z_callV0w dX12_work_42 kX12_notes lX12_152 (by first | assumption | exact And.left (by assumption)) rfl (s_notes hm0 h0) (Nat.le_of_ble_eq_true rfl) (Nat.le_of_ble_eq_true rfl) ⟨Nat.le_of_ble_eq_true rfl, Nat.le_of_ble_eq_true rfl⟩ ?_
        intro V2 hV2
        obtain ⟨e2, f2, f3, h2⟩ := hV2
        obtain ⟨j1, j2, j3, j4, j5, j6, j7⟩ := id h2
        have j1 : MB (V2 (m + 1)) w.1 := j1
        have e3 := e0.trans e2
        have hX2 := j1.2.2.2 k hk
        refine z_iconst (v := nI 0) dX12_work_45 rfl ?_
        refine z_istore_n dX12_work_46 (Nat.le_of_ble_eq_true rfl) rfl ?_
        rw [hR, cif_y (show und (xof w k) from c_35)]
        refine Z.mono (lp_mWork (D := D) (z0 := z0) (nx := nx) (V := V) (V2 := V2) hm0 hk (by omega) (xof w k) _ 0 V2 (xof w k) rfl (by omega) oA.rf ?_ rfl (hU k hk)) ?_
        · exact j1.st rfl (fun _ _ => rfl) (fun _ _ => rfl) (fun i hi => by
            show up1 w.1.2.2.2 k (xof w k) i = w.1.2.2.2 i
            by_cases e : i = k
            · subst e; rw [up1_s] <;> rfl
            · rw [up1_o e])
        · intro r2 L2 V9 n9 h9
          obtain ⟨g1, g2, g3, g4, g5⟩ := h9
          exact ⟨g1, g2, g3, e3.trans g4.zeq, MW_all h2 g4 g5⟩
      · refine z_bipush (v := (-5)) dX12_work_38 rfl ?_
        refine z_ireturn dX12_work_40 (Nat.le_of_ble_eq_true rfl) (Nat.le_of_ble_eq_true rfl) rfl ?_
        rw [hR, cif_n (show ¬ und (xof w k) from c_35)]
        exact ⟨rfl, rfl, rfl, e0, h0⟩
    · have c_n : ¬ (rng 201 n ∧ ¬ n = 0) := fun z => c_24 (by rw [Int32.toInt_toInt64]; exact work_i.mpr z)
      refine z_bipush (v := (-3)) dX12_work_27 rfl ?_
      refine z_ireturn dX12_work_29 (Nat.le_of_ble_eq_true rfl) (Nat.le_of_ble_eq_true rfl) rfl ?_
      rw [show o_work i n w = (-3, w) from by unfold o_work; rw [cif_y c_9]; rw [cif_n c_n]]
      exact ⟨rfl, rfl, rfl, e0, h0⟩
  · refine z_bipush (v := (-2)) dX12_work_12 rfl ?_
    refine z_ireturn dX12_work_14 (Nat.le_of_ble_eq_true rfl) (Nat.le_of_ble_eq_true rfl) rfl ?_
    rw [show o_work i n w = (-2, w) from by unfold o_work; rw [cif_n c_9]]
    exact ⟨rfl, rfl, rfl, e0, h0⟩

