/-! the reference: fault, undo, images, reads -/
theorem undo_i {n : Int32} {l : Nat} (hl : l ≤ 8) (h : rng (l + 1) n ∧ ¬ n = 0) : (1 : Int) ≤ n.toInt ∧ n.toInt ≤ (8 : Nat) := by
  obtain ⟨⟨k, hk, rfl⟩, h0⟩ := h
  have : ¬ k = 0 := fun q => h0 (by rw [q] <;> rfl)
  rw [nI_toInt (by omega)]
  omega
theorem pos_i {n : Int32} (h : (1 : Int) ≤ n.toInt) : ¬ n < 0 ∧ ¬ n = 0 := by
  refine ⟨fun q => ?_, fun q => ?_⟩
  · have : n.toInt < 0 := by simpa using Int32.lt_iff_toInt_lt.mp q
    omega
  · rw [q] at h
    exact absurd h (by decide)
theorem MW_im {V : zV} {m k : Nat} {w : Wo} (h : MW V m w) (hk : k < 2) : MW (zup (cpz V (m + 1) (m + 1) 0 (5343 * (k + 1)) 5343) (m + 3) k (nI 1)) m (w.1, w.2.1, up1 w.2.2.1 k (some w.1), w.2.2.2) := by
  obtain ⟨h1, h2, h3, h4, h5, h6, h7⟩ := h
  have E : ∀ q, q ≠ m + 1 → q ≠ m + 3 → zup (cpz V (m + 1) (m + 1) 0 (5343 * (k + 1)) 5343) (m + 3) k (nI 1) q = V q := fun q q1 q2 => by
    rw [zup_a q2, cp_a q1]
  have A1 : ∀ j, ¬ (5343 * (k + 1) ≤ j ∧ j < 5343 * (k + 1) + 5343) → zup (cpz V (m + 1) (m + 1) 0 (5343 * (k + 1)) 5343) (m + 3) k (nI 1) (m + 1) j = V (m + 1) j := fun j hj => by
    rw [zup_a (by omega)]
    unfold cpz
    rw [zset_s, if_neg hj]
  refine ⟨h1.cg (fun j _ j2 => A1 j (by omega)), ⟨h2.1, by rw [E m (by omega) (by omega)]; exact h2.2.1, fun q hq => by rw [E (m + 2) (by omega) (by omega)]; exact h2.2.2 q hq⟩, fun i hi => ?_, ?_, ⟨by rw [E m (by omega) (by omega)]; exact h5.1, h5.2⟩, h6.cg (fun j _ => by rw [E m (by omega) (by omega)]) (E _ (by omega) (by omega)) (E _ (by omega) (by omega)), fun q hq => by rw [E (m + 8) (by omega) (by omega)]; exact h7 q hq⟩
  · obtain ⟨g1, g2⟩ := h3 i hi
    by_cases e : i = k
    · subst e
      have e4 : up1 w.2.2.1 i (some w.1) i = some w.1 := up1_s _ _ _
      refine ⟨?_, fun s hs => ?_⟩
      · show _ = zb (up1 w.2.2.1 i (some w.1) i ≠ none)
        rw [zup_s, e4, zb_t (by simp)] <;> rfl
      · have hs3 : up1 w.2.2.1 i (some w.1) i = some s := hs
        rw [e4] at hs3
        cases hs3
        refine h1.cg (fun j _ j2 => ?_)
        show zup _ _ _ _ (m + 1) (5343 * (i + 1) + j) = _
        rw [zup_a (by omega)]
        unfold cpz
        rw [zset_s, if_pos (by omega), show 0 + (5343 * (i + 1) + j - 5343 * (i + 1)) = j by omega]
    · have e4 : up1 w.2.2.1 k (some w.1) i = w.2.2.1 i := up1_o e
      refine ⟨?_, fun s hs => ?_⟩
      · show _ = zb (up1 w.2.2.1 k (some w.1) i ≠ none)
        rw [zup_k e, e4, cp_a (by omega)]
        exact g1
      · have hs3 : up1 w.2.2.1 k (some w.1) i = some s := hs
        rw [e4] at hs3
        refine (g2 s hs3).cg (fun j _ j2 => ?_)
        exact A1 _ (by omega)
  · obtain ⟨g1, g2, g3, g4, g5, g6⟩ := h4
    exact ⟨by rw [E m (by omega) (by omega)]; exact g1, by rw [E m (by omega) (by omega)]; exact g2, by rw [E m (by omega) (by omega)]; exact g3, g4, g5, fun j hj => by rw [E (m + 6) (by omega) (by omega)]; exact g6 j hj⟩
theorem MW_cnt {V : zV} {m n : Nat} {w : Wo} (h : MW V m w) (hn : n ≤ w.2.1.length) : MW (zup V m 3 (nI n)) m (w.1, w.2.1.take n, w.2.2) := by
  have hl := h.2.1
  have ht : (w.2.1.take n).length = n := by simp; omega
  refine MW_deeds h (fun q q1 _ => zup_a q1) (fun j hj => zup_k hj) ⟨by have := hl.1; omega, by rw [zup_s, ht], fun k hk => ?_⟩
  rw [getD_take (by omega), zup_a (by omega)]
  exact hl.2.2 k (by omega)

set_option maxHeartbeats 4000000 in
set_option maxRecDepth 100000 in
theorem m_fault {D : zD} {z0 nx : Nat} {L : zL} {V : zV} {m : Nat} {w : Wo} (hm : sM L m) (h : MW V m w) {x : Int32} : Sp D z0 1 0 0 mX12_fault [.ref m, .int x] L V nx (zq (some (.int (o_fault x w).1)) L nx (fun V' => zEq V V' m (m + 16) ∧ MW V' m (o_fault x w).2)) := by
  have hm0 := hm
  have h0 := h
  obtain ⟨a0, a1, a2, a3, a4, a5, a6, a7, a8, a9, a10, a11, a12, a13, a14, a15⟩ := hm
  refine Sp.of 0 (by decide) rfl rfl (Nat.le_of_ble_eq_true rfl) ?_
  refine z_aload_n dX12_fault_0 rfl ?_
  refine z_iconst (v := nI 0) dX12_fault_1 rfl ?_
  refine z_putI dX12_fault_2 fX12_1 (by first | assumption | exact And.left (by assumption)) rfl ?_
  have h9 := MW_thr (x := nI 0) h0
  have e0 : zEq V (zup V m 0 (nI 0)) m (m + 16) := zEq.rf.up (by omega) (by omega)
  generalize zup V m 0 (nI 0) = V1 at h9 e0 ⊢
  clear h0 h
  have h0 := h9
  obtain ⟨k1, k2, k3, k4, k5, k6, k7⟩ := h9
  refine z_iload_n dX12_fault_5 rfl ?_
  refine z_if_ne (tgt := 16) dX12_fault_6 (by decide) (fun c_6 => ?_) (fun c_6 => ?_)
  · refine z_iload_n dX12_fault_16 rfl ?_
    refine z_iconst (v := nI 1) dX12_fault_17 rfl ?_
    refine z_icmp_ne (tgt := 28) dX12_fault_18 (by decide) (fun c_18 => ?_) (fun c_18 => ?_)
    · refine z_iconst (v := (-1)) dX12_fault_28 rfl ?_
      refine z_ireturn dX12_fault_29 (Nat.le_of_ble_eq_true rfl) (Nat.le_of_ble_eq_true rfl) rfl ?_
      first
        | exact ⟨by rw [o_fault, if_pos c_6] <;> rfl, rfl, rfl, e0, h0⟩
        | exact ⟨by rw [o_fault, if_neg c_6, if_pos c_18] <;> rfl, rfl, rfl, e0, h0⟩
        | exact ⟨by rw [o_fault, if_neg c_6, if_neg c_18] <;> rfl, rfl, rfl, e0, h0⟩
    · refine z_aload_n dX12_fault_21 rfl ?_
      refine z_getIe dX12_fault_22 fX12_35 (by first | assumption | exact And.left (by assumption)) rfl k4.2.2.1 ?_
      refine z_goto (tgt := 29) dX12_fault_25 (by decide) ?_
      refine z_ireturn dX12_fault_29 (Nat.le_of_ble_eq_true rfl) (Nat.le_of_ble_eq_true rfl) rfl ?_
      first
        | exact ⟨by rw [o_fault, if_pos c_6] <;> rfl, rfl, rfl, e0, h0⟩
        | exact ⟨by rw [o_fault, if_neg c_6, if_pos c_18] <;> rfl, rfl, rfl, e0, h0⟩
        | exact ⟨by rw [o_fault, if_neg c_6, if_neg c_18] <;> rfl, rfl, rfl, e0, h0⟩
  · refine z_aload_n dX12_fault_9 rfl ?_
    refine z_getIe dX12_fault_10 fX12_223 (by first | assumption | exact And.left (by assumption)) rfl k4.2.1 ?_
    refine z_goto (tgt := 29) dX12_fault_13 (by decide) ?_
    refine z_ireturn dX12_fault_29 (Nat.le_of_ble_eq_true rfl) (Nat.le_of_ble_eq_true rfl) rfl ?_
    first
      | exact ⟨by rw [o_fault, if_pos c_6] <;> rfl, rfl, rfl, e0, h0⟩
      | exact ⟨by rw [o_fault, if_neg c_6, if_pos c_18] <;> rfl, rfl, rfl, e0, h0⟩
      | exact ⟨by rw [o_fault, if_neg c_6, if_neg c_18] <;> rfl, rfl, rfl, e0, h0⟩

set_option maxHeartbeats 4000000 in
set_option maxRecDepth 100000 in
theorem m_undo {D : zD} {z0 nx : Nat} {L : zL} {V : zV} {m : Nat} {w : Wo} (hm : sM L m) (h : MW V m w) {n : Int32} : Sp D z0 2 0 0 mX12_undo [.ref m, .int n] L V nx (zq (some (.int (o_undo n w).1)) L nx (fun V' => zEq V V' m (m + 16) ∧ MW V' m (o_undo n w).2)) := by
  have hm0 := hm
  have h0 := h
  obtain ⟨a0, a1, a2, a3, a4, a5, a6, a7, a8, a9, a10, a11, a12, a13, a14, a15⟩ := hm
  refine Sp.of 0 (by decide) rfl rfl (Nat.le_of_ble_eq_true rfl) ?_
  refine z_aload_n dX12_undo_0 rfl ?_
  refine z_iconst (v := nI 0) dX12_undo_1 rfl ?_
  refine z_putI dX12_undo_2 fX12_1 (by first | assumption | exact And.left (by assumption)) rfl ?_
  have h9 := MW_thr (x := nI 0) h0
  have e0 : zEq V (zup V m 0 (nI 0)) m (m + 16) := zEq.rf.up (by omega) (by omega)
  generalize zup V m 0 (nI 0) = V1 at h9 e0 ⊢
  clear h0 h
  have h0 := h9
  obtain ⟨k1, k2, k3, k4, k5, k6, k7⟩ := h9
  refine z_iload_n dX12_undo_5 rfl ?_
  refine z_i2l dX12_undo_6 ?_
  refine z_lconst dX12_undo_7 rfl ?_
  refine z_ldc2 dX12_undo_8 qX12_407 ?_
  refine z_callS3i dX12_undo_11 kX12_isIn lX12_86 (s_isIn (v := n.toInt64)) (Nat.le_of_ble_eq_true rfl) (Nat.le_of_ble_eq_true rfl) ⟨Nat.le_of_ble_eq_true rfl, Nat.le_of_ble_eq_true rfl⟩ ?_
  refine z_if_eqB (tgt := 25) dX12_undo_14 (by decide) (fun c_14 => ?_) (fun c_14 => ?_)
  · have c_m : ¬ ((1 : Int) ≤ n.toInt ∧ n.toInt ≤ (8 : Nat)) := fun z => c_14 (by rw [Int32.toInt_toInt64]; exact z)
    have hno : ¬ (rng (w.2.1.length + 1) n ∧ ¬ n = 0) := fun z => c_m (undo_i k2.1 z)
    refine z_bipush (v := (-3)) dX12_undo_25 rfl ?_
    refine z_ireturn dX12_undo_27 (Nat.le_of_ble_eq_true rfl) (Nat.le_of_ble_eq_true rfl) rfl ?_
    rw [show o_undo n w = (-3, w) from by unfold o_undo; rw [cif_n hno]]
    exact ⟨rfl, rfl, rfl, e0, h0⟩
  · have c_m : (1 : Int) ≤ n.toInt ∧ n.toInt ≤ (8 : Nat) := by rw [Int32.toInt_toInt64] at c_14; exact c_14
    obtain ⟨c_p, c_q⟩ := pos_i c_m.1
    have hl8 := k2.1
    have hu2 := k2.2.1
    refine z_iload_n dX12_undo_17 rfl ?_
    refine z_aload_n dX12_undo_18 rfl ?_
    refine z_getIe dX12_undo_19 fX12_72 (by first | assumption | exact And.left (by assumption)) rfl hu2 ?_
    refine z_icmp_le (tgt := 28) dX12_undo_22 (by decide) (fun c_22 => ?_) (fun c_22 => ?_)
    · have c_n : rng (w.2.1.length + 1) n ∧ ¬ n = 0 := ⟨rng_le (n := w.2.1.length) (by omega) c_p c_22, c_q⟩
      have hR : o_undo n w = (nI (w.2.1.length - tn n), (w.2.1.getD (w.2.1.length - tn n) st0, w.2.1.take (w.2.1.length - tn n), w.2.2)) := by unfold o_undo; rw [cif_y c_n]
      obtain ⟨⟨k, hk, rfl⟩, hk0⟩ := c_n
      have hk1 : ¬ k = 0 := fun q => hk0 (by rw [q]; rfl)
      rw [tn_k (k := k) (by omega)] at hR
      refine z_aload_n dX12_undo_28 rfl ?_
      refine z_dup dX12_undo_29 rfl ?_
      refine z_getIe dX12_undo_30 fX12_72 (by first | assumption | exact And.left (by assumption)) rfl hu2 ?_
      refine z_iload_n dX12_undo_33 rfl ?_
      refine z_subN dX12_undo_34 (by omega) ?_
      refine z_putI dX12_undo_35 fX12_72 (by first | assumption | exact And.left (by assumption)) rfl ?_
      have h9 := MW_cnt (n := w.2.1.length - k) h0 (by omega)
      refine z_aload_n dX12_undo_38 rfl ?_
      refine z_getR dX12_undo_39 fX12_18 (by first | assumption | exact And.left (by assumption)) rfl ?_
      refine z_sipush (v := nI 5343) dX12_undo_42 rfl ?_
      refine z_aload_n dX12_undo_45 rfl ?_
      refine z_getIe dX12_undo_46 fX12_72 (by first | assumption | exact And.left (by assumption)) rfl (zup_s _ _ _ _) ?_
      refine z_mulN dX12_undo_49 ?_
      refine z_aload_n dX12_undo_50 rfl ?_
      refine z_getR dX12_undo_51 fX12_13 (by first | assumption | exact And.left (by assumption)) rfl ?_
      refine z_iconst (v := nI 0) dX12_undo_54 rfl ?_
      refine z_sipush (v := nI 5343) dX12_undo_55 rfl ?_
      refine z_callS5w dX12_undo_58 kX12_copies lX12_76 (s_cp a2 a1 (by omega) (by omega) (by omega) (Or.inl (by omega))) (Nat.le_of_ble_eq_true rfl) (Nat.le_of_ble_eq_true rfl) ⟨Nat.le_of_ble_eq_true rfl, Nat.le_of_ble_eq_true rfl⟩ ?_
      intro V3 hV3
      subst hV3
      refine z_aload_n dX12_undo_61 rfl ?_
      refine z_getIe dX12_undo_62 fX12_72 (by first | assumption | exact And.left (by assumption)) rfl ((congrFun (cp_a (by omega)) 3).trans (zup_s _ _ _ _)) ?_
      refine z_ireturn dX12_undo_65 (Nat.le_of_ble_eq_true rfl) (Nat.le_of_ble_eq_true rfl) rfl ?_
      rw [hR]
      have hoA : oA (zup V1 m 3 (nI (w.2.1.length - k))) (cpz (zup V1 m 3 (nI (w.2.1.length - k))) (m + 2) (m + 1) (5343 * (w.2.1.length - k)) 0 5343) m := oA.rf.cp (by omega)
      refine ⟨rfl, rfl, rfl, (e0.up (by omega) (by omega)).trans hoA.zeq, MW_all h9 hoA ((k2.2.2 (w.2.1.length - k) (by omega)).cg (fun j _ j2 => ?_))⟩
      unfold cpz
      rw [zset_s, if_pos (by omega), zup_a (by omega)]
      congr 1
    · have hno : ¬ (rng (w.2.1.length + 1) n ∧ ¬ n = 0) := fun z => rng_gt (by omega) c_22 z.1
      refine z_bipush (v := (-3)) dX12_undo_25 rfl ?_
      refine z_ireturn dX12_undo_27 (Nat.le_of_ble_eq_true rfl) (Nat.le_of_ble_eq_true rfl) rfl ?_
      rw [show o_undo n w = (-3, w) from by unfold o_undo; rw [cif_n hno]]
      exact ⟨rfl, rfl, rfl, e0, h0⟩

set_option maxHeartbeats 4000000 in
set_option maxRecDepth 100000 in
theorem m_image {D : zD} {z0 nx : Nat} {L : zL} {V : zV} {m : Nat} {w : Wo} (hm : sM L m) (h : MW V m w) {i : Int32} : Sp D z0 2 0 0 mX12_image [.ref m, .int i] L V nx (zq (some (.int (o_image i w).1)) L nx (fun V' => zEq V V' m (m + 16) ∧ MW V' m (o_image i w).2)) := by
  have hm0 := hm
  have h0 := h
  obtain ⟨a0, a1, a2, a3, a4, a5, a6, a7, a8, a9, a10, a11, a12, a13, a14, a15⟩ := hm
  refine Sp.of 0 (by decide) rfl rfl (Nat.le_of_ble_eq_true rfl) ?_
  refine z_aload_n dX12_image_0 rfl ?_
  refine z_iconst (v := nI 0) dX12_image_1 rfl ?_
  refine z_putI dX12_image_2 fX12_1 (by first | assumption | exact And.left (by assumption)) rfl ?_
  have h9 := MW_thr (x := nI 0) h0
  have e0 : zEq V (zup V m 0 (nI 0)) m (m + 16) := zEq.rf.up (by omega) (by omega)
  generalize zup V m 0 (nI 0) = V1 at h9 e0 ⊢
  clear h0 h
  have h0 := h9
  obtain ⟨k1, k2, k3, k4, k5, k6, k7⟩ := h9
  refine z_iload_n dX12_image_5 rfl ?_
  refine z_i2l dX12_image_6 ?_
  refine z_lconst dX12_image_7 rfl ?_
  refine z_lconst dX12_image_8 rfl ?_
  refine z_callS3i dX12_image_9 kX12_isIn lX12_86 (s_isIn (v := i.toInt64)) (Nat.le_of_ble_eq_true rfl) (Nat.le_of_ble_eq_true rfl) ⟨Nat.le_of_ble_eq_true rfl, Nat.le_of_ble_eq_true rfl⟩ ?_
  refine z_if_neB (tgt := 18) dX12_image_12 (by decide) (fun c_12 => ?_) (fun c_12 => ?_)
  · have c_4 : rng 2 i := (rng_i (n := 1) (by decide)).mp (by rw [Int32.toInt_toInt64] at c_12; exact c_12)
    obtain ⟨k, hk, rfl⟩ := c_4
    have hT := tn_k (k := k) (by omega)
    refine z_aload_n dX12_image_18 rfl ?_
    refine z_getR dX12_image_19 fX12_13 (by first | assumption | exact And.left (by assumption)) rfl ?_
    refine z_iconst (v := nI 0) dX12_image_22 rfl ?_
    refine z_aload_n dX12_image_23 rfl ?_
    refine z_getR dX12_image_24 fX12_13 (by first | assumption | exact And.left (by assumption)) rfl ?_
    refine z_sipush (v := nI 5343) dX12_image_27 rfl ?_
    refine z_iload_n dX12_image_30 rfl ?_
    refine z_iconst (v := nI 1) dX12_image_31 rfl ?_
    refine z_addN dX12_image_32 ?_
    refine z_mulN dX12_image_33 ?_
    refine z_sipush (v := nI 5343) dX12_image_34 rfl ?_
    refine z_callS5w dX12_image_37 kX12_copies lX12_76 (s_cp a1 a1 (by omega) (by omega) (by omega) (Or.inr (Or.inr (by omega)))) (Nat.le_of_ble_eq_true rfl) (Nat.le_of_ble_eq_true rfl) ⟨Nat.le_of_ble_eq_true rfl, Nat.le_of_ble_eq_true rfl⟩ ?_
    intro V3 hV3
    subst hV3
    have h9 := MW_im h0 hk
    refine z_aload_n dX12_image_40 rfl ?_
    refine z_getR dX12_image_41 fX12_21 (by first | assumption | exact And.left (by assumption)) rfl ?_
    refine z_iload_n dX12_image_44 rfl ?_
    refine z_iconst (v := nI 1) dX12_image_45 rfl ?_
    refine z_zastN dX12_image_46 (by first | assumption | exact And.left (by assumption)) (by omega) (by decide) (by first | exact Or.inl rfl | exact Or.inr rfl | exact zb_01 _ | assumption) ?_
    refine z_iconst (v := nI 0) dX12_image_47 rfl ?_
    refine z_ireturn dX12_image_48 (Nat.le_of_ble_eq_true rfl) (Nat.le_of_ble_eq_true rfl) rfl ?_
    rw [show o_image (nI k) w = (0, (w.1, w.2.1, up1 w.2.2.1 k (some w.1), w.2.2.2)) from by unfold o_image; rw [cif_y (rng_k hk), hT]]
    have ez : zEq V1 (cpz V1 (m + 1) (m + 1) 0 (5343 * (k + 1)) 5343) m (m + 16) := fun q hq => cp_a (by omega)
    exact ⟨rfl, rfl, rfl, (e0.trans ez).up (by omega) (by omega), h9⟩
  · have c_4 : ¬ rng 2 i := fun z => c_12 (by rw [Int32.toInt_toInt64]; exact (rng_i (n := 1) (by decide)).mpr z)
    refine z_bipush (v := (-2)) dX12_image_15 rfl ?_
    refine z_ireturn dX12_image_17 (Nat.le_of_ble_eq_true rfl) (Nat.le_of_ble_eq_true rfl) rfl ?_
    rw [show o_image i w = (-2, w) from by unfold o_image; rw [cif_n c_4]]
    exact ⟨rfl, rfl, rfl, e0, h0⟩

set_option maxHeartbeats 4000000 in
set_option maxRecDepth 100000 in
theorem m_restore {D : zD} {z0 nx : Nat} {L : zL} {V : zV} {m : Nat} {w : Wo} (hm : sM L m) (h : MW V m w) {i : Int32} : Sp D z0 2 0 0 mX12_restore [.ref m, .int i] L V nx (zq (some (.int (o_restore i w).1)) L nx (fun V' => zEq V V' m (m + 16) ∧ MW V' m (o_restore i w).2)) := by
  have hm0 := hm
  have h0 := h
  obtain ⟨a0, a1, a2, a3, a4, a5, a6, a7, a8, a9, a10, a11, a12, a13, a14, a15⟩ := hm
  refine Sp.of 0 (by decide) rfl rfl (Nat.le_of_ble_eq_true rfl) ?_
  refine z_aload_n dX12_restore_0 rfl ?_
  refine z_iconst (v := nI 0) dX12_restore_1 rfl ?_
  refine z_putI dX12_restore_2 fX12_1 (by first | assumption | exact And.left (by assumption)) rfl ?_
  have h9 := MW_thr (x := nI 0) h0
  have e0 : zEq V (zup V m 0 (nI 0)) m (m + 16) := zEq.rf.up (by omega) (by omega)
  generalize zup V m 0 (nI 0) = V1 at h9 e0 ⊢
  clear h0 h
  have h0 := h9
  obtain ⟨k1, k2, k3, k4, k5, k6, k7⟩ := h9
  refine z_iload_n dX12_restore_5 rfl ?_
  refine z_i2l dX12_restore_6 ?_
  refine z_lconst dX12_restore_7 rfl ?_
  refine z_lconst dX12_restore_8 rfl ?_
  refine z_callS3i dX12_restore_9 kX12_isIn lX12_86 (s_isIn (v := i.toInt64)) (Nat.le_of_ble_eq_true rfl) (Nat.le_of_ble_eq_true rfl) ⟨Nat.le_of_ble_eq_true rfl, Nat.le_of_ble_eq_true rfl⟩ ?_
  refine z_if_neB (tgt := 18) dX12_restore_12 (by decide) (fun c_12 => ?_) (fun c_12 => ?_)
  · have c_4 : rng 2 i := (rng_i (n := 1) (by decide)).mp (by rw [Int32.toInt_toInt64] at c_12; exact c_12)
    obtain ⟨k, hk, rfl⟩ := c_4
    have hT := tn_k (k := k) (by omega)
    refine z_aload_n dX12_restore_18 rfl ?_
    refine z_getR dX12_restore_19 fX12_21 (by first | assumption | exact And.left (by assumption)) rfl ?_
    refine z_iload_n dX12_restore_22 rfl ?_
    obtain ⟨g1, g3⟩ := k3 k hk
    refine z_zaldN dX12_restore_23 (by first | assumption | exact And.left (by assumption)) (by omega) (by decide) g1 ?_
    refine z_if_neB (tgt := 30) dX12_restore_24 (by decide) (fun c_24 => ?_) (fun c_24 => ?_)
    · obtain ⟨s, hsm⟩ := Option.ne_none_iff_exists'.mp c_24
      refine z_aload_n dX12_restore_30 rfl ?_
      refine z_getR dX12_restore_31 fX12_13 (by first | assumption | exact And.left (by assumption)) rfl ?_
      refine z_sipush (v := nI 5343) dX12_restore_34 rfl ?_
      refine z_iload_n dX12_restore_37 rfl ?_
      refine z_iconst (v := nI 1) dX12_restore_38 rfl ?_
      refine z_addN dX12_restore_39 ?_
      refine z_mulN dX12_restore_40 ?_
      refine z_aload_n dX12_restore_41 rfl ?_
      refine z_getR dX12_restore_42 fX12_13 (by first | assumption | exact And.left (by assumption)) rfl ?_
      refine z_iconst (v := nI 0) dX12_restore_45 rfl ?_
      refine z_sipush (v := nI 5343) dX12_restore_46 rfl ?_
      refine z_callS5w dX12_restore_49 kX12_copies lX12_76 (s_cp a1 a1 (by omega) (by omega) (by omega) (Or.inr (Or.inl (by omega)))) (Nat.le_of_ble_eq_true rfl) (Nat.le_of_ble_eq_true rfl) ⟨Nat.le_of_ble_eq_true rfl, Nat.le_of_ble_eq_true rfl⟩ ?_
      intro V3 hV3
      have hoA : oA V1 V3 m := by rw [hV3]; exact oA.rf.cp (by omega)
      have hB3 : MB (V3 (m + 1)) s := (g3 s hsm).cg (fun j _ j2 => by
        rw [hV3]
        unfold cpz
        rw [zset_s, if_pos (by omega)]
        congr 1)
      have h9 := MW_cnt (n := 0) (MW_all h0 hoA hB3) (by omega)
      refine z_aload_n dX12_restore_52 rfl ?_
      refine z_iconst (v := nI 0) dX12_restore_53 rfl ?_
      refine z_putI dX12_restore_54 fX12_72 (by first | assumption | exact And.left (by assumption)) rfl ?_
      refine z_iconst (v := nI 0) dX12_restore_57 rfl ?_
      refine z_ireturn dX12_restore_58 (Nat.le_of_ble_eq_true rfl) (Nat.le_of_ble_eq_true rfl) rfl ?_
      rw [show o_restore (nI k) w = (0, (s, [], w.2.2)) from by unfold o_restore; rw [cif_y (rng_k hk), hT, hsm]]
      exact ⟨rfl, rfl, rfl, (e0.trans hoA.zeq).up (by omega) (by omega), h9⟩
    · have hn : w.2.2.1 k = none := Classical.byContradiction c_24
      refine z_bipush (v := (-6)) dX12_restore_27 rfl ?_
      refine z_ireturn dX12_restore_29 (Nat.le_of_ble_eq_true rfl) (Nat.le_of_ble_eq_true rfl) rfl ?_
      rw [show o_restore (nI k) w = (-6, w) from by unfold o_restore; rw [cif_y (rng_k hk)]; rw [hT]; rw [hn]]
      exact ⟨rfl, rfl, rfl, e0, h0⟩
  · have c_4 : ¬ rng 2 i := fun z => c_12 (by rw [Int32.toInt_toInt64]; exact (rng_i (n := 1) (by decide)).mpr z)
    refine z_bipush (v := (-2)) dX12_restore_15 rfl ?_
    refine z_ireturn dX12_restore_17 (Nat.le_of_ble_eq_true rfl) (Nat.le_of_ble_eq_true rfl) rfl ?_
    rw [show o_restore i w = (-2, w) from by unfold o_restore; rw [cif_n c_4]]
    exact ⟨rfl, rfl, rfl, e0, h0⟩

set_option maxHeartbeats 4000000 in
set_option maxRecDepth 100000 in
theorem lp_mIxf {D : zD} {z0 nx : Nat} {L : zL} {V : zV} {m c : Nat} {w : Wo} (hm : sM L m) (hB : MB (V (m + 1)) w.1) (hc : c < 3) (hol : ∀ i, i < 2 → (xof w i).1.1 = 4 → 1 ≤ (xof w i).2.1.1.length) : ∀ (fu : Nat) (i : Nat), 2 - i = fu → i ≤ 2 → (∀ k, k < i → ¬ led w c k) → Z D z0 3 0 0 mX12_indexBy 0 0 2 [some (.ref m), some (.int (nI c)), some (.int (nI i))] [] L V nx (zi (i2n (ixf w c)) L V nx) := by
  intro fu
  induction fu using Nat.strongRecOn with
  | ind fu ih =>
    intro i h_fu h_0 h_1
    have hm0 := hm
    have hB0 := hB
    refine z_iload_n dX12_indexBy_2 rfl ?_
    refine z_iconst (v := nI 2) dX12_indexBy_3 rfl ?_
    refine z_icmp_geN (tgt := 46) dX12_indexBy_4 (by decide) (by omega) (by omega) (fun c_4 => ?_) (fun c_4 => ?_)
    · refine z_iconst (v := (-1)) dX12_indexBy_46 rfl ?_
      refine z_ireturn dX12_indexBy_47 (Nat.le_of_ble_eq_true rfl) (Nat.le_of_ble_eq_true rfl) rfl ?_
      have e : ixf w c = 2 := fs_eq (fun k hk => h_1 k (by omega)) (by omega) (fun q => absurd q (by omega))
      exact zi_r (by rw [e] <;> rfl)
    · refine z_aload_n dX12_indexBy_7 rfl ?_
      refine z_iload_n dX12_indexBy_8 rfl ?_
      refine z_iconst (v := nI 0) dX12_indexBy_9 rfl ?_
      obtain ⟨x1, x2, x3, x4, x5, x6⟩ := hB0.2.2.2 i (by omega)
      have n1 := x1.1
      have hs6 := x6.1
      have hb := x6.2.2.2.2.2.1
      have d9 := x2.2.2.2.1
      have b3 := hb.2.2.1
      refine z_callV2i dX12_indexBy_10 kX12_ofIndex lX12_104 (by first | assumption | exact And.left (by assumption)) rfl (s_ofIx hm0 (by omega) (by omega) n1) (Nat.le_of_ble_eq_true rfl) (Nat.le_of_ble_eq_true rfl) ⟨Nat.le_of_ble_eq_true rfl, Nat.le_of_ble_eq_true rfl⟩ ?_
      refine z_iconst (v := nI 4) dX12_indexBy_13 rfl ?_
      refine z_icmp_neN (tgt := 40) dX12_indexBy_14 (by decide) (by omega) (by omega) (fun c_14 => ?_) (fun c_14 => ?_)
      · have hno : ¬ led w c i := fun q => c_14 q.1
        refine z_incN dX12_indexBy_40 rfl rfl ?_
        refine z_goto (tgt := 2) dX12_indexBy_43 (by decide) ?_
        exact ih _ (by omega) (i + 1) rfl (by omega) (lt_s h_1 hno)
      · have hol2 := hol i (by omega) c_14
        have hol3 : 0 < (w.1.2.2.2 i).2.1.1.length := hol2
        have hc3 := hb.2.1 0 hol3
        refine z_aload_n dX12_indexBy_17 rfl ?_
        refine z_iload_n dX12_indexBy_18 rfl ?_
        refine z_bipush (v := nI 9) dX12_indexBy_19 rfl ?_
        refine z_callV2i dX12_indexBy_21 kX12_ofIndex lX12_104 (by first | assumption | exact And.left (by assumption)) rfl (s_ofIx hm0 (by omega) (by omega) d9) (Nat.le_of_ble_eq_true rfl) (Nat.le_of_ble_eq_true rfl) ⟨Nat.le_of_ble_eq_true rfl, Nat.le_of_ble_eq_true rfl⟩ ?_
        refine z_iconst (v := (-1)) dX12_indexBy_24 rfl ?_
        refine z_icmp_ne (tgt := 40) dX12_indexBy_25 (by decide) (fun c_25 => ?_) (fun c_25 => ?_)
        · have hno : ¬ led w c i := fun q => c_25 (if_neg q.2.1)
          refine z_incN dX12_indexBy_40 rfl rfl ?_
          refine z_goto (tgt := 2) dX12_indexBy_43 (by decide) ?_
          exact ih _ (by omega) (i + 1) rfl (by omega) (lt_s h_1 hno)
        · have hnp : ¬ (w.1.2.2.2 i).2.1.2.2.1 = true := fun z => by rw [if_pos z] at c_25; exact nI_ne_m1 (by omega) c_25
          refine z_aload_n dX12_indexBy_28 rfl ?_
          refine z_iload_n dX12_indexBy_29 rfl ?_
          refine z_iconst (v := nI 0) dX12_indexBy_30 rfl ?_
          refine z_callV2i dX12_indexBy_31 kX12_columnOf lX12_111 (by first | assumption | exact And.left (by assumption)) rfl (s_mCol hm0 (by omega) x2 hb hol3) (Nat.le_of_ble_eq_true rfl) (Nat.le_of_ble_eq_true rfl) ⟨Nat.le_of_ble_eq_true rfl, Nat.le_of_ble_eq_true rfl⟩ ?_
          refine z_iload_n dX12_indexBy_34 rfl ?_
          refine z_icmp_neN (tgt := 40) dX12_indexBy_35 (by decide) (by omega) (by omega) (fun c_35 => ?_) (fun c_35 => ?_)
          · have hno : ¬ led w c i := fun q => c_35 q.2.2
            refine z_incN dX12_indexBy_40 rfl rfl ?_
            refine z_goto (tgt := 2) dX12_indexBy_43 (by decide) ?_
            exact ih _ (by omega) (i + 1) rfl (by omega) (lt_s h_1 hno)
          · refine z_iload_n dX12_indexBy_38 rfl ?_
            refine z_ireturn dX12_indexBy_39 (Nat.le_of_ble_eq_true rfl) (Nat.le_of_ble_eq_true rfl) rfl ?_
            have e : ixf w c = i := fs_eq h_1 (by omega) (fun _ => ⟨c_14, hnp, c_35⟩)
            exact zi_r (by rw [e, i2n, if_pos (by omega)])

set_option maxHeartbeats 4000000 in
set_option maxRecDepth 100000 in
theorem s_mIxf {D : zD} {z0 nx : Nat} {L : zL} {V : zV} {m c : Nat} {w : Wo} (hm : sM L m) (hB : MB (V (m + 1)) w.1) (hc : c < 3) (hol : ∀ i, i < 2 → (xof w i).1.1 = 4 → 1 ≤ (xof w i).2.1.1.length) : Sp D z0 3 0 0 mX12_indexBy [.ref m, .int (nI c)] L V nx (zi (i2n (ixf w c)) L V nx) := by
  refine Sp.of 1 (by decide) rfl rfl (Nat.le_of_ble_eq_true rfl) ?_
  refine z_iconst (v := nI 0) dX12_indexBy_0 rfl ?_
  refine z_istore_n dX12_indexBy_1 (Nat.le_of_ble_eq_true rfl) rfl ?_
  exact lp_mIxf hm hB hc hol _ 0 rfl (by omega) (fun k hk => absurd hk (by omega))

set_option maxHeartbeats 4000000 in
set_option maxRecDepth 100000 in
theorem m_by {D : zD} {z0 nx : Nat} {L : zL} {V : zV} {m : Nat} {w : Wo} (hm : sM L m) (h : MW V m w) {c : Int32} (hol : ∀ i, i < 2 → (xof w i).1.1 = 4 → 1 ≤ (xof w i).2.1.1.length) : Sp D z0 4 0 0 mX12_by [.ref m, .int c] L V nx (zq (some (.int (o_by c w).1)) L nx (fun V' => zEq V V' m (m + 16) ∧ MW V' m (o_by c w).2)) := by
  have hm0 := hm
  have h0 := h
  obtain ⟨a0, a1, a2, a3, a4, a5, a6, a7, a8, a9, a10, a11, a12, a13, a14, a15⟩ := hm
  refine Sp.of 0 (by decide) rfl rfl (Nat.le_of_ble_eq_true rfl) ?_
  refine z_aload_n dX12_by_0 rfl ?_
  refine z_iconst (v := nI 0) dX12_by_1 rfl ?_
  refine z_putI dX12_by_2 fX12_1 (by first | assumption | exact And.left (by assumption)) rfl ?_
  have h9 := MW_thr (x := nI 0) h0
  have e0 : zEq V (zup V m 0 (nI 0)) m (m + 16) := zEq.rf.up (by omega) (by omega)
  generalize zup V m 0 (nI 0) = V1 at h9 e0 ⊢
  clear h0 h
  have h0 := h9
  obtain ⟨k1, k2, k3, k4, k5, k6, k7⟩ := h9
  refine z_iload_n dX12_by_5 rfl ?_
  refine z_i2l dX12_by_6 ?_
  refine z_lconst dX12_by_7 rfl ?_
  refine z_ldc2 dX12_by_8 qX12_248 ?_
  refine z_callS3i dX12_by_11 kX12_isIn lX12_86 (s_isIn (v := c.toInt64)) (Nat.le_of_ble_eq_true rfl) (Nat.le_of_ble_eq_true rfl) ⟨Nat.le_of_ble_eq_true rfl, Nat.le_of_ble_eq_true rfl⟩ ?_
  refine z_if_eqB (tgt := 25) dX12_by_14 (by decide) (fun c_14 => ?_) (fun c_14 => ?_)
  · have c_c : ¬ rng 3 c := fun z => c_14 (by rw [Int32.toInt_toInt64]; exact (rng_i (n := 2) (by decide)).mpr z)
    refine z_bipush (v := (-2)) dX12_by_25 rfl ?_
    refine z_ireturn dX12_by_27 (Nat.le_of_ble_eq_true rfl) (Nat.le_of_ble_eq_true rfl) rfl ?_
    first
      | (rw [show o_by c w = (-2, w) from cif_n c_c]; exact ⟨rfl, rfl, rfl, e0, h0⟩)
      | (rw [show o_by (nI k) w = (i2n (ixf w k), w) from by unfold o_by; rw [cif_y (rng_k hk), hT]]; exact ⟨rfl, rfl, rfl, e0, h0⟩)
  · have c_c : rng 3 c := (rng_i (n := 2) (by decide)).mp (by rw [Int32.toInt_toInt64] at c_14; exact c_14)
    obtain ⟨k, hk, rfl⟩ := c_c
    have hT := tn_k (k := k) (by omega)
    refine z_aload_n dX12_by_17 rfl ?_
    refine z_iload_n dX12_by_18 rfl ?_
    refine z_callV1i dX12_by_19 kX12_indexBy lX12_387 (by first | assumption | exact And.left (by assumption)) rfl (s_mIxf hm0 k1 hk hol) (Nat.le_of_ble_eq_true rfl) (Nat.le_of_ble_eq_true rfl) ⟨Nat.le_of_ble_eq_true rfl, Nat.le_of_ble_eq_true rfl⟩ ?_
    refine z_goto (tgt := 27) dX12_by_22 (by decide) ?_
    refine z_ireturn dX12_by_27 (Nat.le_of_ble_eq_true rfl) (Nat.le_of_ble_eq_true rfl) rfl ?_
    first
      | (rw [show o_by c w = (-2, w) from cif_n c_c]; exact ⟨rfl, rfl, rfl, e0, h0⟩)
      | (rw [show o_by (nI k) w = (i2n (ixf w k), w) from by unfold o_by; rw [cif_y (rng_k hk), hT]]; exact ⟨rfl, rfl, rfl, e0, h0⟩)

theorem AT_eN {f : Nat → Int32} {p : Nat} {v : Option Nat} (h : AT f p v) : f (p + 1) = nI (if v = none then 0 else 1) := by
  rw [AT_e h]
  split <;> rfl
theorem cn_s {p : Nat → Prop} {n x : Nat} (hx : (p n → x = 1) ∧ (¬ p n → x = 0)) : cn p (n + 1) = cn p n + x := by
  by_cases c : p n
  · rw [cn_y c, hx.1 c]
  · rw [cn_n c, hx.2 c] <;> rfl

set_option maxHeartbeats 4000000 in
set_option maxRecDepth 100000 in
theorem lp_mRth {D : zD} {z0 nx : Nat} {L : zL} {V : zV} {m : Nat} {w : Wo} (hm : sM L m) (hB : MB (V (m + 1)) w.1) : ∀ (fu : Nat) (r : Nat) (c : Nat), 48 - r = fu → r ≤ 48 → c = cn (fun r => (lst w.1.2.1 r).2 ≠ none) r → Z D z0 2 0 0 mX12_rowsThere 0 0 4 [some (.ref m), some (.int (nI c)), some (.int (nI r))] [] L V nx (zi (nI (rth w)) L V nx) := by
  intro fu
  induction fu using Nat.strongRecOn with
  | ind fu ih =>
    intro r c h_fu h_0 h_1
    have hm0 := hm
    obtain ⟨a0, a1, a2, a3, a4, a5, a6, a7, a8, a9, a10, a11, a12, a13, a14, a15⟩ := hm
    refine z_iload_n dX12_rowsThere_4 rfl ?_
    refine z_bipush (v := nI 48) dX12_rowsThere_5 rfl ?_
    refine z_icmp_geN (tgt := 31) dX12_rowsThere_7 (by decide) (by omega) (by omega) (fun c_7 => ?_) (fun c_7 => ?_)
    · refine z_iload_n dX12_rowsThere_31 rfl ?_
      refine z_ireturn dX12_rowsThere_32 (Nat.le_of_ble_eq_true rfl) (Nat.le_of_ble_eq_true rfl) rfl ?_
      have e48 : r = 48 := by omega
      subst e48
      exact zi_r (by rw [h_1] <;> rfl)
    · obtain ⟨v1, v2, v3, v4⟩ := hB.2.1 r (by omega)
      have hat : AT (V (m + 1)) (40 * r + 5 * ((w.1.2.1 r).length - 1)) (lst w.1.2.1 r).2 := (v4 ((w.1.2.1 r).length - 1) (by omega)).2.2
      have he := AT_eN hat
      refine z_iload_n dX12_rowsThere_10 rfl ?_
      refine z_aload_n dX12_rowsThere_11 rfl ?_
      refine z_getR dX12_rowsThere_12 fX12_13 (by first | assumption | exact And.left (by assumption)) rfl ?_
      refine z_aload_n dX12_rowsThere_15 rfl ?_
      refine z_iload_n dX12_rowsThere_16 rfl ?_
      refine z_callV1i dX12_rowsThere_17 kX12_latest lX12_171 (by first | assumption | exact And.left (by assumption)) rfl (s_mLatest hm0 (by omega) (hB.2.1 r (by omega))) (Nat.le_of_ble_eq_true rfl) (Nat.le_of_ble_eq_true rfl) ⟨Nat.le_of_ble_eq_true rfl, Nat.le_of_ble_eq_true rfl⟩ ?_
      refine z_iconst (v := nI 1) dX12_rowsThere_20 rfl ?_
      refine z_addN dX12_rowsThere_21 ?_
      refine z_ialdN dX12_rowsThere_22 (by first | assumption | exact And.left (by assumption)) (by omega) (by decide) he ?_
      refine z_addN dX12_rowsThere_23 ?_
      refine z_istore_n dX12_rowsThere_24 (Nat.le_of_ble_eq_true rfl) rfl ?_
      refine z_incN dX12_rowsThere_25 rfl rfl ?_
      refine z_goto (tgt := 4) dX12_rowsThere_28 (by decide) ?_
      exact ih _ (by omega) (r + 1) _ rfl (by omega) (by rw [cn_s (p := (fun r => (lst w.1.2.1 r).2 ≠ none)) (n := r) (x := if (lst w.1.2.1 r).2 = none then 0 else 1) ⟨fun z => if_neg z, fun z => if_pos (Classical.byContradiction z)⟩, h_1])

set_option maxHeartbeats 4000000 in
set_option maxRecDepth 100000 in
theorem s_mRth {D : zD} {z0 nx : Nat} {L : zL} {V : zV} {m : Nat} {w : Wo} (hm : sM L m) (hB : MB (V (m + 1)) w.1) : Sp D z0 2 0 0 mX12_rowsThere [.ref m] L V nx (zi (nI (rth w)) L V nx) := by
  refine Sp.of 2 (by decide) rfl rfl (Nat.le_of_ble_eq_true rfl) ?_
  refine z_iconst (v := nI 0) dX12_rowsThere_0 rfl ?_
  refine z_istore_n dX12_rowsThere_1 (Nat.le_of_ble_eq_true rfl) rfl ?_
  refine z_iconst (v := nI 0) dX12_rowsThere_2 rfl ?_
  refine z_istore_n dX12_rowsThere_3 (Nat.le_of_ble_eq_true rfl) rfl ?_
  exact lp_mRth hm hB _ 0 0 rfl (by omega) rfl

set_option maxHeartbeats 4000000 in
set_option maxRecDepth 100000 in
theorem lp_mReads {D : zD} {z0 nx : Nat} {L : zL} {V : zV} {m i v : Nat} {w : Wo} {c0 : Int32} (hm : sM L m) (hB : MB (V (m + 1)) w.1) (hi : i < 2) (hv : v < 100) (h1 : 1 ≤ (xof w i).2.1.1.length) : ∀ (fu : Nat) (j : Nat) (x : Nat), (xof w i).2.2.1.length - j = fu → j ≤ (xof w i).2.2.1.length → x = cn (fun k => pe (xof w i).2.1 ((xof w i).2.2.1.getD k 0) 1 = nI v) j + 1 → Z D z0 5 0 0 mX12_reads 0 0 52 [some (.ref m), some (.int c0), some (.int (nI v)), some (.int (nI i)), some (.int (nI x)), some (.int (nI j))] [] L V nx (zi (nI (cn (fun k => pe (xof w i).2.1 ((xof w i).2.2.1.getD k 0) 1 = nI v) (xof w i).2.2.1.length + 1)) L V nx) := by
  intro fu
  induction fu using Nat.strongRecOn with
  | ind fu ih =>
    intro j x h_fu h_0 h_1
    have hm0 := hm
    obtain ⟨a0, a1, a2, a3, a4, a5, a6, a7, a8, a9, a10, a11, a12, a13, a14, a15⟩ := hm
    obtain ⟨x1, x2, x3, x4, x5, x6⟩ := hB.2.2.2 i hi
    have g13 := x3.1
    have xb := x6.2.2.2.2.2.2
    have hl48 := xb.1
    have hj0 : j ≤ (w.1.2.2.2 i).2.2.1.length := h_0
    have hle := cn_le (fun k => pe (xof w i).2.1 ((xof w i).2.2.1.getD k 0) 1 = nI v) (xof w i).2.2.1.length
    refine z_iload dX12_reads_52 rfl ?_
    refine z_aload_n dX12_reads_54 rfl ?_
    refine z_iload_n dX12_reads_55 rfl ?_
    refine z_bipush (v := nI 13) dX12_reads_56 rfl ?_
    refine z_callV2i dX12_reads_58 kX12_ofIndex lX12_104 (by first | assumption | exact And.left (by assumption)) rfl (s_ofIx hm0 hi (by omega) g13) (Nat.le_of_ble_eq_true rfl) (Nat.le_of_ble_eq_true rfl) ⟨Nat.le_of_ble_eq_true rfl, Nat.le_of_ble_eq_true rfl⟩ ?_
    refine z_icmp_geN (tgt := 98) dX12_reads_61 (by decide) (by omega) (by omega) (fun c_61 => ?_) (fun c_61 => ?_)
    · have q61 : (w.1.2.2.2 i).2.2.1.length ≤ j := by omega
      have ej : j = (xof w i).2.2.1.length := Nat.le_antisymm h_0 q61
      refine z_iload dX12_reads_98 rfl ?_
      refine z_ireturn dX12_reads_100 (Nat.le_of_ble_eq_true rfl) (Nat.le_of_ble_eq_true rfl) rfl ?_
      exact zi_r (by rw [h_1, ej])
    · have c_62 : j < (w.1.2.2.2 i).2.2.1.length := by omega
      have q62 : j < (xof w i).2.2.1.length := c_62
      obtain ⟨e1, e2⟩ := x3.2 j c_62
      have e3 := e2 0 h1
      have hrv := xb.2.2.2.2.1 _ (mem_getD (l := (w.1.2.2.2 i).2.2.1) (k := j) c_62)
      have hkl := kr_lt (d := (w.1.2.2.2 i).2.1) (k := 0) hrv.1
      have hpe : pe (xof w i).2.1 ((xof w i).2.2.1.getD j 0) 1 = nI (kr (w.1.2.2.2 i).2.1 ((w.1.2.2.2 i).2.2.1.getD j 0 / 64) 0) := (pe_kr (by decide)).trans (if_pos h1)
      refine z_iload dX12_reads_64 rfl ?_
      refine z_aload_n dX12_reads_66 rfl ?_
      refine z_getR dX12_reads_67 fX12_13 (by first | assumption | exact And.left (by assumption)) rfl ?_
      refine z_aload_n dX12_reads_70 rfl ?_
      refine z_iload_n dX12_reads_71 rfl ?_
      refine z_iload dX12_reads_72 rfl ?_
      refine z_callV2i dX12_reads_74 kX12_entryAt lX12_118 (by first | assumption | exact And.left (by assumption)) rfl (s_entAt hi (by omega)) (Nat.le_of_ble_eq_true rfl) (Nat.le_of_ble_eq_true rfl) ⟨Nat.le_of_ble_eq_true rfl, Nat.le_of_ble_eq_true rfl⟩ ?_
      refine z_iconst (v := nI 1) dX12_reads_77 rfl ?_
      refine z_addN dX12_reads_78 ?_
      refine z_ialdN dX12_reads_79 (by first | assumption | exact And.left (by assumption)) (by omega) (by decide) e3 ?_
      refine z_iload_n dX12_reads_80 rfl ?_
      refine z_icmp_neN (tgt := 88) dX12_reads_81 (by decide) (by omega) (by omega) (fun c_81 => ?_) (fun c_81 => ?_)
      · have hno : ¬ pe (xof w i).2.1 ((xof w i).2.2.1.getD j 0) 1 = nI v := fun z => c_81 (nI_inj (by omega) (by omega) (hpe.symm.trans z))
        refine z_iconst (v := nI 0) dX12_reads_88 rfl ?_
        refine z_addN dX12_reads_89 ?_
        refine z_istore dX12_reads_90 (Nat.le_of_ble_eq_true rfl) rfl ?_
        refine z_incN dX12_reads_92 rfl rfl ?_
        refine z_goto (tgt := 52) dX12_reads_95 (by decide) ?_
        first
          | exact ih _ (by omega) (j + 1) _ rfl c_62 (by rw [cn_y (p := (fun k => pe (xof w i).2.1 ((xof w i).2.2.1.getD k 0) 1 = nI v)) hyes]; omega)
          | exact ih _ (by omega) (j + 1) _ rfl c_62 (by rw [cn_n (p := (fun k => pe (xof w i).2.1 ((xof w i).2.2.1.getD k 0) 1 = nI v)) hno]; omega)
      · have hyes : pe (xof w i).2.1 ((xof w i).2.2.1.getD j 0) 1 = nI v := hpe.trans (by rw [c_81])
        refine z_iconst (v := nI 1) dX12_reads_84 rfl ?_
        refine z_goto (tgt := 89) dX12_reads_85 (by decide) ?_
        refine z_addN dX12_reads_89 ?_
        refine z_istore dX12_reads_90 (Nat.le_of_ble_eq_true rfl) rfl ?_
        refine z_incN dX12_reads_92 rfl rfl ?_
        refine z_goto (tgt := 52) dX12_reads_95 (by decide) ?_
        first
          | exact ih _ (by omega) (j + 1) _ rfl c_62 (by rw [cn_y (p := (fun k => pe (xof w i).2.1 ((xof w i).2.2.1.getD k 0) 1 = nI v)) hyes]; omega)
          | exact ih _ (by omega) (j + 1) _ rfl c_62 (by rw [cn_n (p := (fun k => pe (xof w i).2.1 ((xof w i).2.2.1.getD k 0) 1 = nI v)) hno]; omega)

set_option maxHeartbeats 4000000 in
set_option maxRecDepth 100000 in
theorem m_reads {D : zD} {z0 nx : Nat} {L : zL} {V : zV} {m : Nat} {w : Wo} (hm : sM L m) (h : MW V m w) {c : Int32} {v : Int32} (hol : ∀ i, i < 2 → (xof w i).1.1 = 4 → 1 ≤ (xof w i).2.1.1.length) : Sp D z0 5 0 0 mX12_reads [.ref m, .int c, .int v] L V nx (zq (some (.int (o_reads c v w).1)) L nx (fun V' => zEq V V' m (m + 16) ∧ MW V' m (o_reads c v w).2)) := by
  have hm0 := hm
  have h0 := h
  obtain ⟨a0, a1, a2, a3, a4, a5, a6, a7, a8, a9, a10, a11, a12, a13, a14, a15⟩ := hm
  refine Sp.of 3 (by decide) rfl rfl (Nat.le_of_ble_eq_true rfl) ?_
  refine z_aload_n dX12_reads_0 rfl ?_
  refine z_iconst (v := nI 0) dX12_reads_1 rfl ?_
  refine z_putI dX12_reads_2 fX12_1 (by first | assumption | exact And.left (by assumption)) rfl ?_
  have h9 := MW_thr (x := nI 0) h0
  have e0 : zEq V (zup V m 0 (nI 0)) m (m + 16) := zEq.rf.up (by omega) (by omega)
  generalize zup V m 0 (nI 0) = V1 at h9 e0 ⊢
  clear h0 h
  have h0 := h9
  obtain ⟨k1, k2, k3, k4, k5, k6, k7⟩ := h9
  refine z_iload_n dX12_reads_5 rfl ?_
  refine z_i2l dX12_reads_6 ?_
  refine z_lconst dX12_reads_7 rfl ?_
  refine z_ldc2 dX12_reads_8 qX12_248 ?_
  refine z_callS3i dX12_reads_11 kX12_isIn lX12_86 (s_isIn (v := c.toInt64)) (Nat.le_of_ble_eq_true rfl) (Nat.le_of_ble_eq_true rfl) ⟨Nat.le_of_ble_eq_true rfl, Nat.le_of_ble_eq_true rfl⟩ ?_
  refine z_if_neB (tgt := 20) dX12_reads_14 (by decide) (fun c_14 => ?_) (fun c_14 => ?_)
  · have c_c : rng 3 c := (rng_i (n := 2) (by decide)).mp (by rw [Int32.toInt_toInt64] at c_14; exact c_14)
    refine z_iload_n dX12_reads_20 rfl ?_
    refine z_callS1i dX12_reads_21 kX12_isValue lX12_158 s_mVal (Nat.le_of_ble_eq_true rfl) (Nat.le_of_ble_eq_true rfl) ⟨Nat.le_of_ble_eq_true rfl, Nat.le_of_ble_eq_true rfl⟩ ?_
    refine z_if_neB (tgt := 30) dX12_reads_24 (by decide) (fun c_24 => ?_) (fun c_24 => ?_)
    · have hR : o_reads c v w = (if ixf w (tn c) < 2 then nI (cn (fun k => pe (xof w (ixf w (tn c))).2.1 ((xof w (ixf w (tn c))).2.2.1.getD k 0) 1 = nI (tn v)) (xof w (ixf w (tn c))).2.2.1.length + 1) else nI (rth w), w) := by unfold o_reads; rw [cif_y c_c, cif_y c_24]
      obtain ⟨k, hk, rfl⟩ := c_c
      obtain ⟨j, hj, rfl⟩ := c_24
      rw [tn_k (k := k) (by omega), tn_k (k := j) (by omega)] at hR
      generalize hix : ixf w k = mm at *
      refine z_aload_n dX12_reads_30 rfl ?_
      refine z_iload_n dX12_reads_31 rfl ?_
      refine z_callV1i dX12_reads_32 kX12_indexBy lX12_387 (by first | assumption | exact And.left (by assumption)) rfl (s_mIxf hm0 k1 hk hol) (Nat.le_of_ble_eq_true rfl) (Nat.le_of_ble_eq_true rfl) ⟨Nat.le_of_ble_eq_true rfl, Nat.le_of_ble_eq_true rfl⟩ ?_
      rw [hix]
      refine z_istore_n dX12_reads_35 (Nat.le_of_ble_eq_true rfl) rfl ?_
      refine z_iload_n dX12_reads_36 rfl ?_
      refine z_iconst (v := (-1)) dX12_reads_37 rfl ?_
      refine z_icmp_ne (tgt := 46) dX12_reads_38 (by decide) (fun c_38 => ?_) (fun c_38 => ?_)
      · have hmm : mm < 2 := Classical.byContradiction (fun q => c_38 (if_neg q))
        rw [i2n, if_pos hmm]
        have z38 : fs (led w k) 2 = mm := hix
        have q38 : fs (led w k) 2 < 2 := by omega
        have hld : led w k mm := by rw [← z38]; exact fs_yes q38
        refine z_iconst (v := nI 1) dX12_reads_46 rfl ?_
        refine z_istore dX12_reads_47 (Nat.le_of_ble_eq_true rfl) rfl ?_
        refine z_iconst (v := nI 0) dX12_reads_49 rfl ?_
        refine z_istore dX12_reads_50 (Nat.le_of_ble_eq_true rfl) rfl ?_
        rw [hR, if_pos hmm]
        refine Z.mono (lp_mReads (D := D) (z0 := z0) (nx := nx) hm0 k1 hmm hj (hol mm hmm hld.1) _ 0 1 rfl (by omega) rfl) ?_
        intro r2 L2 V9 n9 h9
        obtain ⟨g1, g2, g3, g4⟩ := h9
        rw [g3]
        exact ⟨g1, g2, g4, e0, h0⟩
      · have hmm : ¬ mm < 2 := fun q => by rw [i2n, if_pos q] at c_38; exact nI_ne_m1 (by omega) c_38
        refine z_aload_n dX12_reads_41 rfl ?_
        refine z_callV0i dX12_reads_42 kX12_rowsThere lX12_334 (by first | assumption | exact And.left (by assumption)) rfl (s_mRth hm0 k1) (Nat.le_of_ble_eq_true rfl) (Nat.le_of_ble_eq_true rfl) ⟨Nat.le_of_ble_eq_true rfl, Nat.le_of_ble_eq_true rfl⟩ ?_
        refine z_ireturn dX12_reads_45 (Nat.le_of_ble_eq_true rfl) (Nat.le_of_ble_eq_true rfl) rfl ?_
        rw [hR, if_neg hmm]
        exact ⟨rfl, rfl, rfl, e0, h0⟩
    · refine z_bipush (v := (-3)) dX12_reads_27 rfl ?_
      refine z_ireturn dX12_reads_29 (Nat.le_of_ble_eq_true rfl) (Nat.le_of_ble_eq_true rfl) rfl ?_
      rw [show o_reads c v w = (-3, w) from by unfold o_reads; rw [cif_y c_c]; rw [cif_n c_24]]
      exact ⟨rfl, rfl, rfl, e0, h0⟩
  · have c_c : ¬ rng 3 c := fun z => c_14 (by rw [Int32.toInt_toInt64]; exact (rng_i (n := 2) (by decide)).mpr z)
    refine z_bipush (v := (-2)) dX12_reads_17 rfl ?_
    refine z_ireturn dX12_reads_19 (Nat.le_of_ble_eq_true rfl) (Nat.le_of_ble_eq_true rfl) rfl ?_
    rw [show o_reads c v w = (-2, w) from by unfold o_reads; rw [cif_n c_c]]
    exact ⟨rfl, rfl, rfl, e0, h0⟩

