/-! the reference: terms, what is told of an index -/
theorem MB_num {f g : Nat → Int32} {s : St} {n : Nat × Nat × Nat} (h : MB f s) (hn : MN g n) (e : ∀ j, j < 5340 → g j = f j) : MB g (n, s.2) := by
  obtain ⟨-, h5, h6, h7⟩ := h
  exact ⟨hn, fun r hr => (h5 r hr).cg hr (e _ (by omega)) (fun j _ _ => e j (by omega)), fun t ht => (h6 t ht).cg (fun j _ _ => e j (by omega)), fun i hi => (h7 i hi).cg (fun j _ _ => e j (by omega))⟩
theorem rng_19 {n : Int32} {l : Nat} (hl : l < 900) : ((1 : Int) ≤ n.toInt ∧ n.toInt ≤ (l : Int)) ↔ (rng (l + 1) n ∧ ¬ n = 0) := by
  constructor
  · rintro ⟨h1, h2⟩
    exact ⟨(rng_i (n := l) (by omega)).mp ⟨by omega, h2⟩, (pos_i h1).2⟩
  · rintro ⟨⟨k, hk, rfl⟩, h0⟩
    have : ¬ k = 0 := fun q => h0 (by rw [q] <;> rfl)
    rw [nI_toInt (by omega)]
    omega
theorem idx_7 {x : Ix} : idx x 7 = zb (x.2.1.2.1 = true) := by
  show (if x.2.1.2.1 then (1 : Int32) else 0) = _
  cases h : x.2.1.2.1 with
  | true => exact (zb_t rfl).symm
  | false => exact (zb_f (by simp)).symm
theorem i64 {x : Int32} : x.toInt64.toInt = x.toInt := Int32.toInt_toInt64 x

set_option maxHeartbeats 4000000 in
set_option maxRecDepth 100000 in
theorem m_termsA {D : zD} {z0 nx : Nat} {L : zL} {V : zV} {m : Nat} {w : Wo} (hm : sM L m) (h : MW V m w) {x : Int32} {v : Int32} (hx : x = 0) : Sp D z0 3 0 0 mX12_terms [.ref m, .int x, .int v] L V nx (zq (some (.int (o_terms x v w).1)) L nx (fun V' => zEq V V' m (m + 16) ∧ MW V' m (o_terms x v w).2)) := by
  have hm0 := hm
  have h0 := h
  obtain ⟨a0, a1, a2, a3, a4, a5, a6, a7, a8, a9, a10, a11, a12, a13, a14, a15⟩ := hm
  refine Sp.of 1 (by decide) rfl rfl (Nat.le_of_ble_eq_true rfl) ?_
  refine z_aload_n dX12_terms_0 rfl ?_
  refine z_iconst (v := nI 0) dX12_terms_1 rfl ?_
  refine z_putI dX12_terms_2 fX12_1 (by first | assumption | exact And.left (by assumption)) rfl ?_
  have h9 := MW_thr (x := nI 0) h0
  have e0 : zEq V (zup V m 0 (nI 0)) m (m + 16) := zEq.rf.up (by omega) (by omega)
  generalize zup V m 0 (nI 0) = V1 at h9 e0 ⊢
  clear h0 h
  have h0 := h9
  obtain ⟨k1, k2, k3, k4, k5, k6, k7⟩ := h9
  refine z_iload_n dX12_terms_5 rfl ?_
  refine z_i2l dX12_terms_6 ?_
  refine z_lconst dX12_terms_7 rfl ?_
  refine z_lconst dX12_terms_8 rfl ?_
  refine z_callS3i dX12_terms_9 kX12_isIn lX12_86 (s_isIn (v := x.toInt64)) (Nat.le_of_ble_eq_true rfl) (Nat.le_of_ble_eq_true rfl) ⟨Nat.le_of_ble_eq_true rfl, Nat.le_of_ble_eq_true rfl⟩ ?_
  refine z_if_neB (tgt := 18) dX12_terms_12 (by decide) (fun c_12 => ?_) (fun c_12 => ?_)
  · refine z_iload_n dX12_terms_18 rfl ?_
    refine z_i2l dX12_terms_19 ?_
    refine z_iload_n dX12_terms_20 rfl ?_
    refine z_if_ne (tgt := 28) dX12_terms_21 (by decide) (fun c_21 => ?_) (fun c_21 => ?_)
    · exact absurd hx c_21
    · refine z_lconst dX12_terms_24 rfl ?_
      refine z_goto (tgt := 29) dX12_terms_25 (by decide) ?_
      refine z_iload_n dX12_terms_29 rfl ?_
      refine z_if_ne (tgt := 39) dX12_terms_30 (by decide) (fun c_30 => ?_) (fun c_30 => ?_)
      · exact absurd hx c_30
      · refine z_ldc2 dX12_terms_33 qX12_375 ?_
        refine z_goto (tgt := 42) dX12_terms_36 (by decide) ?_
        refine z_callS3i dX12_terms_42 kX12_isIn lX12_86 (s_isIn (v := v.toInt64)) (Nat.le_of_ble_eq_true rfl) (Nat.le_of_ble_eq_true rfl) ⟨Nat.le_of_ble_eq_true rfl, Nat.le_of_ble_eq_true rfl⟩ ?_
        refine z_if_neB (tgt := 51) dX12_terms_45 (by decide) (fun c_45 => ?_) (fun c_45 => ?_)
        · have c_v : rng 21 v := (rng_i (n := 20) (by decide)).mp (by rw [i64] at c_45; exact c_45)
          have hR : o_terms x v w = (nI w.1.1.2.1, wst w ((w.1.1.1, tn v, w.1.1.2.2), w.1.2)) := by unfold o_terms; rw [if_pos hx, cif_y c_v]
          have hx2 : x = nI 0 := hx
          subst hx2
          refine z_aload_n dX12_terms_51 rfl ?_
          obtain ⟨k, hk, rfl⟩ := c_v
          rw [tn_k (k := k) (by omega)] at hR
          refine z_callV0w dX12_terms_52 kX12_notes lX12_152 (by first | assumption | exact And.left (by assumption)) rfl (s_notes hm0 h0) (Nat.le_of_ble_eq_true rfl) (Nat.le_of_ble_eq_true rfl) ⟨Nat.le_of_ble_eq_true rfl, Nat.le_of_ble_eq_true rfl⟩ ?_
          intro V2 hV2
          obtain ⟨e2, f2, f3, h2⟩ := hV2
          obtain ⟨j1, j2, j3, j4, j5, j6, j7⟩ := id h2
          have j1 : MB (V2 (m + 1)) w.1 := j1
          have e3 := e0.trans e2
          obtain ⟨b1, b2, b3, b4, b5, b6, b7⟩ := j1.1
          refine z_aload_n dX12_terms_55 rfl ?_
          refine z_getR dX12_terms_56 fX12_13 (by first | assumption | exact And.left (by assumption)) rfl ?_
          refine z_sipush (v := nI 5341) dX12_terms_59 rfl ?_
          refine z_iload_n dX12_terms_62 rfl ?_
          refine z_addN dX12_terms_63 ?_
          refine z_ialdN dX12_terms_64 (by first | assumption | exact And.left (by assumption)) (by omega) (by decide) b2 ?_
          refine z_istore_n dX12_terms_65 (Nat.le_of_ble_eq_true rfl) rfl ?_
          refine z_aload_n dX12_terms_66 rfl ?_
          refine z_getR dX12_terms_67 fX12_13 (by first | assumption | exact And.left (by assumption)) rfl ?_
          refine z_sipush (v := nI 5341) dX12_terms_70 rfl ?_
          refine z_iload_n dX12_terms_73 rfl ?_
          refine z_addN dX12_terms_74 ?_
          refine z_iload_n dX12_terms_75 rfl ?_
          refine z_iastN dX12_terms_76 (by first | assumption | exact And.left (by assumption)) (by omega) (by decide) ?_
          refine z_iload_n dX12_terms_77 rfl ?_
          refine z_ireturn dX12_terms_78 (Nat.le_of_ble_eq_true rfl) (Nat.le_of_ble_eq_true rfl) rfl ?_
          rw [hR]
          refine ⟨rfl, rfl, rfl, e3.up (by omega) (by omega), MW_all h2 (oA.rf.up (by omega)) (MB_num j1 ⟨?_, ?_, ?_, b4, by show k ≤ 20; omega, b6, b7⟩ (fun j hj => zup_k (by omega)))⟩
          · rw [zup_k (by decide)]
            exact b1
          · exact zup_s _ _ _ _
          · rw [zup_k (by decide)]
            exact b3
        · have c_v : ¬ (rng 21 v) := fun z => c_45 (by rw [i64]; exact (rng_i (n := 20) (by decide)).mpr z)
          refine z_bipush (v := (-3)) dX12_terms_48 rfl ?_
          refine z_ireturn dX12_terms_50 (Nat.le_of_ble_eq_true rfl) (Nat.le_of_ble_eq_true rfl) rfl ?_
          rw [show o_terms x v w = (-3, w) from by unfold o_terms; rw [if_pos hx]; rw [cif_n c_v]]
          exact ⟨rfl, rfl, rfl, e0, h0⟩
  · exact absurd (show (0 : Int64).toInt ≤ x.toInt64.toInt ∧ x.toInt64.toInt ≤ (1 : Int64).toInt from by subst hx; decide) c_12

set_option maxHeartbeats 4000000 in
set_option maxRecDepth 100000 in
theorem m_termsB {D : zD} {z0 nx : Nat} {L : zL} {V : zV} {m : Nat} {w : Wo} (hm : sM L m) (h : MW V m w) {x : Int32} {v : Int32} (hx : x = nI 1) : Sp D z0 3 0 0 mX12_terms [.ref m, .int x, .int v] L V nx (zq (some (.int (o_terms x v w).1)) L nx (fun V' => zEq V V' m (m + 16) ∧ MW V' m (o_terms x v w).2)) := by
  have hm0 := hm
  have h0 := h
  obtain ⟨a0, a1, a2, a3, a4, a5, a6, a7, a8, a9, a10, a11, a12, a13, a14, a15⟩ := hm
  refine Sp.of 1 (by decide) rfl rfl (Nat.le_of_ble_eq_true rfl) ?_
  refine z_aload_n dX12_terms_0 rfl ?_
  refine z_iconst (v := nI 0) dX12_terms_1 rfl ?_
  refine z_putI dX12_terms_2 fX12_1 (by first | assumption | exact And.left (by assumption)) rfl ?_
  have h9 := MW_thr (x := nI 0) h0
  have e0 : zEq V (zup V m 0 (nI 0)) m (m + 16) := zEq.rf.up (by omega) (by omega)
  generalize zup V m 0 (nI 0) = V1 at h9 e0 ⊢
  clear h0 h
  have h0 := h9
  obtain ⟨k1, k2, k3, k4, k5, k6, k7⟩ := h9
  refine z_iload_n dX12_terms_5 rfl ?_
  refine z_i2l dX12_terms_6 ?_
  refine z_lconst dX12_terms_7 rfl ?_
  refine z_lconst dX12_terms_8 rfl ?_
  refine z_callS3i dX12_terms_9 kX12_isIn lX12_86 (s_isIn (v := x.toInt64)) (Nat.le_of_ble_eq_true rfl) (Nat.le_of_ble_eq_true rfl) ⟨Nat.le_of_ble_eq_true rfl, Nat.le_of_ble_eq_true rfl⟩ ?_
  refine z_if_neB (tgt := 18) dX12_terms_12 (by decide) (fun c_12 => ?_) (fun c_12 => ?_)
  · refine z_iload_n dX12_terms_18 rfl ?_
    refine z_i2l dX12_terms_19 ?_
    refine z_iload_n dX12_terms_20 rfl ?_
    refine z_if_ne (tgt := 28) dX12_terms_21 (by decide) (fun c_21 => ?_) (fun c_21 => ?_)
    · refine z_lconst dX12_terms_28 rfl ?_
      refine z_iload_n dX12_terms_29 rfl ?_
      refine z_if_ne (tgt := 39) dX12_terms_30 (by decide) (fun c_30 => ?_) (fun c_30 => ?_)
      · refine z_ldc2 dX12_terms_39 qX12_377 ?_
        refine z_callS3i dX12_terms_42 kX12_isIn lX12_86 (s_isIn (v := v.toInt64)) (Nat.le_of_ble_eq_true rfl) (Nat.le_of_ble_eq_true rfl) ⟨Nat.le_of_ble_eq_true rfl, Nat.le_of_ble_eq_true rfl⟩ ?_
        refine z_if_neB (tgt := 51) dX12_terms_45 (by decide) (fun c_45 => ?_) (fun c_45 => ?_)
        · have c_v : rng 10 v ∧ ¬ v = 0 := (rng_19 (l := 9) (by decide)).mp (by rw [i64] at c_45; exact c_45)
          have hR : o_terms x v w = (nI w.1.1.2.2, wst w ((w.1.1.1, w.1.1.2.1, tn v), w.1.2)) := by unfold o_terms; rw [if_neg (fun q => absurd (hx.symm.trans q) (by decide)), if_pos hx, cif_y c_v]
          have hx2 : x = nI 1 := hx
          subst hx2
          refine z_aload_n dX12_terms_51 rfl ?_
          obtain ⟨⟨k, hk, rfl⟩, hk0⟩ := c_v
          have hk1 : ¬ k = 0 := fun q => hk0 (by rw [q]; rfl)
          rw [tn_k (k := k) (by omega)] at hR
          refine z_callV0w dX12_terms_52 kX12_notes lX12_152 (by first | assumption | exact And.left (by assumption)) rfl (s_notes hm0 h0) (Nat.le_of_ble_eq_true rfl) (Nat.le_of_ble_eq_true rfl) ⟨Nat.le_of_ble_eq_true rfl, Nat.le_of_ble_eq_true rfl⟩ ?_
          intro V2 hV2
          obtain ⟨e2, f2, f3, h2⟩ := hV2
          obtain ⟨j1, j2, j3, j4, j5, j6, j7⟩ := id h2
          have j1 : MB (V2 (m + 1)) w.1 := j1
          have e3 := e0.trans e2
          obtain ⟨b1, b2, b3, b4, b5, b6, b7⟩ := j1.1
          refine z_aload_n dX12_terms_55 rfl ?_
          refine z_getR dX12_terms_56 fX12_13 (by first | assumption | exact And.left (by assumption)) rfl ?_
          refine z_sipush (v := nI 5341) dX12_terms_59 rfl ?_
          refine z_iload_n dX12_terms_62 rfl ?_
          refine z_addN dX12_terms_63 ?_
          refine z_ialdN dX12_terms_64 (by first | assumption | exact And.left (by assumption)) (by omega) (by decide) b3 ?_
          refine z_istore_n dX12_terms_65 (Nat.le_of_ble_eq_true rfl) rfl ?_
          refine z_aload_n dX12_terms_66 rfl ?_
          refine z_getR dX12_terms_67 fX12_13 (by first | assumption | exact And.left (by assumption)) rfl ?_
          refine z_sipush (v := nI 5341) dX12_terms_70 rfl ?_
          refine z_iload_n dX12_terms_73 rfl ?_
          refine z_addN dX12_terms_74 ?_
          refine z_iload_n dX12_terms_75 rfl ?_
          refine z_iastN dX12_terms_76 (by first | assumption | exact And.left (by assumption)) (by omega) (by decide) ?_
          refine z_iload_n dX12_terms_77 rfl ?_
          refine z_ireturn dX12_terms_78 (Nat.le_of_ble_eq_true rfl) (Nat.le_of_ble_eq_true rfl) rfl ?_
          rw [hR]
          refine ⟨rfl, rfl, rfl, e3.up (by omega) (by omega), MW_all h2 (oA.rf.up (by omega)) (MB_num j1 ⟨?_, ?_, ?_, b4, b5, by show 1 ≤ k; omega, by show k ≤ 9; omega⟩ (fun j hj => zup_k (by omega)))⟩
          · rw [zup_k (by decide)]
            exact b1
          · rw [zup_k (by decide)]
            exact b2
          · exact zup_s _ _ _ _
        · have c_v : ¬ (rng 10 v ∧ ¬ v = 0) := fun z => c_45 (by rw [i64]; exact (rng_19 (l := 9) (by decide)).mpr z)
          refine z_bipush (v := (-3)) dX12_terms_48 rfl ?_
          refine z_ireturn dX12_terms_50 (Nat.le_of_ble_eq_true rfl) (Nat.le_of_ble_eq_true rfl) rfl ?_
          rw [show o_terms x v w = (-3, w) from by unfold o_terms; rw [if_neg (fun q => absurd (hx.symm.trans q) (by decide)), if_pos hx]; rw [cif_n c_v]]
          exact ⟨rfl, rfl, rfl, e0, h0⟩
      · exact absurd (hx.symm.trans c_30) (by decide)
    · exact absurd (hx.symm.trans c_21) (by decide)
  · exact absurd (show (0 : Int64).toInt ≤ x.toInt64.toInt ∧ x.toInt64.toInt ≤ (1 : Int64).toInt from by subst hx; decide) c_12

set_option maxHeartbeats 4000000 in
set_option maxRecDepth 100000 in
theorem m_termsC {D : zD} {z0 nx : Nat} {L : zL} {V : zV} {m : Nat} {w : Wo} (hm : sM L m) (h : MW V m w) {x : Int32} {v : Int32} (hx : ¬ x = 0) (hx1 : ¬ x = nI 1) : Sp D z0 3 0 0 mX12_terms [.ref m, .int x, .int v] L V nx (zq (some (.int (o_terms x v w).1)) L nx (fun V' => zEq V V' m (m + 16) ∧ MW V' m (o_terms x v w).2)) := by
  have hm0 := hm
  have h0 := h
  obtain ⟨a0, a1, a2, a3, a4, a5, a6, a7, a8, a9, a10, a11, a12, a13, a14, a15⟩ := hm
  refine Sp.of 1 (by decide) rfl rfl (Nat.le_of_ble_eq_true rfl) ?_
  refine z_aload_n dX12_terms_0 rfl ?_
  refine z_iconst (v := nI 0) dX12_terms_1 rfl ?_
  refine z_putI dX12_terms_2 fX12_1 (by first | assumption | exact And.left (by assumption)) rfl ?_
  have h9 := MW_thr (x := nI 0) h0
  have e0 : zEq V (zup V m 0 (nI 0)) m (m + 16) := zEq.rf.up (by omega) (by omega)
  generalize zup V m 0 (nI 0) = V1 at h9 e0 ⊢
  clear h0 h
  have h0 := h9
  obtain ⟨k1, k2, k3, k4, k5, k6, k7⟩ := h9
  refine z_iload_n dX12_terms_5 rfl ?_
  refine z_i2l dX12_terms_6 ?_
  refine z_lconst dX12_terms_7 rfl ?_
  refine z_lconst dX12_terms_8 rfl ?_
  refine z_callS3i dX12_terms_9 kX12_isIn lX12_86 (s_isIn (v := x.toInt64)) (Nat.le_of_ble_eq_true rfl) (Nat.le_of_ble_eq_true rfl) ⟨Nat.le_of_ble_eq_true rfl, Nat.le_of_ble_eq_true rfl⟩ ?_
  refine z_if_neB (tgt := 18) dX12_terms_12 (by decide) (fun c_12 => ?_) (fun c_12 => ?_)
  · have q2 : rng 2 x := (rng_i (n := 1) (by decide)).mp (by rw [i64] at c_12; exact c_12)
    obtain ⟨j, hj, rfl⟩ := q2
    exact absurd rfl (show ¬ nI j = nI j from by rcases (show j = 0 ∨ j = 1 by omega) with rfl | rfl; exact absurd rfl hx; exact absurd rfl hx1)
  · refine z_bipush (v := (-2)) dX12_terms_15 rfl ?_
    refine z_ireturn dX12_terms_17 (Nat.le_of_ble_eq_true rfl) (Nat.le_of_ble_eq_true rfl) rfl ?_
    rw [show o_terms x v w = (-2, w) from by unfold o_terms; rw [if_neg hx]; rw [if_neg hx1]]
    exact ⟨rfl, rfl, rfl, e0, h0⟩

theorem m_terms {D : zD} {z0 nx : Nat} {L : zL} {V : zV} {m : Nat} {w : Wo} (hm : sM L m) (h : MW V m w) {x v : Int32} : Sp D z0 3 0 0 mX12_terms [.ref m, .int x, .int v] L V nx (zq (some (.int (o_terms x v w).1)) L nx (fun V' => zEq V V' m (m + 16) ∧ MW V' m (o_terms x v w).2)) := by
  by_cases h1 : x = 0
  · exact m_termsA hm h h1
  · by_cases h2 : x = nI 1
    · exact m_termsB hm h h2
    · exact m_termsC hm h h1 h2

set_option maxHeartbeats 4000000 in
set_option maxRecDepth 100000 in
theorem m_index0 {D : zD} {z0 nx : Nat} {L : zL} {V V1 : zV} {m k : Nat} {w : Wo} (hm : sM L m) (hk : k < 2) (e0 : zEq V V1 m (m + 16)) (h0 : MW V1 m w) (hR : o_index (nI k) (nI 0) w = (idx (xof w k) 0, w)) : Z D z0 3 0 0 mX12_index 0 0 16 [some (.ref m), some (.int (nI k)), some (.int (nI 0))] [.int (nI 0)] L V1 nx (zq (some (.int (o_index (nI k) (nI 0) w).1)) L nx (fun V' => zEq V V' m (m + 16) ∧ MW V' m (o_index (nI k) (nI 0) w).2)) := by
  obtain ⟨x1, x2, x3, x4, x5, x6⟩ := h0.1.2.2.2 k hk
  obtain ⟨n1, n2, n3, n4, n5⟩ := x1
  have e9 := id hm
  refine z_tableIn (tgt := 96) dX12_index_16 (by decide) (by decide) rfl (by decide) ?_
  refine z_aload_n dX12_index_96 rfl ?_
  refine z_iload_n dX12_index_97 rfl ?_
  refine z_iconst (v := nI 0) dX12_index_98 rfl ?_
  refine z_callV2i dX12_index_99 kX12_ofIndex lX12_104 (by first | assumption | exact And.left (by assumption)) rfl (s_ofIx hm hk (by omega) n1) (Nat.le_of_ble_eq_true rfl) (Nat.le_of_ble_eq_true rfl) ⟨Nat.le_of_ble_eq_true rfl, Nat.le_of_ble_eq_true rfl⟩ ?_
  refine z_ireturn dX12_index_102 (Nat.le_of_ble_eq_true rfl) (Nat.le_of_ble_eq_true rfl) rfl ?_
  rw [hR]
  exact ⟨rfl, rfl, rfl, e0, h0⟩

set_option maxHeartbeats 4000000 in
set_option maxRecDepth 100000 in
theorem m_index1 {D : zD} {z0 nx : Nat} {L : zL} {V V1 : zV} {m k : Nat} {w : Wo} (hm : sM L m) (hk : k < 2) (e0 : zEq V V1 m (m + 16)) (h0 : MW V1 m w) (hR : o_index (nI k) (nI 1) w = (idx (xof w k) 1, w)) : Z D z0 3 0 0 mX12_index 0 0 16 [some (.ref m), some (.int (nI k)), some (.int (nI 1))] [.int (nI 1)] L V1 nx (zq (some (.int (o_index (nI k) (nI 1) w).1)) L nx (fun V' => zEq V V' m (m + 16) ∧ MW V' m (o_index (nI k) (nI 1) w).2)) := by
  obtain ⟨x1, x2, x3, x4, x5, x6⟩ := h0.1.2.2.2 k hk
  obtain ⟨n1, n2, n3, n4, n5⟩ := x1
  have e9 := id hm
  refine z_tableIn (tgt := 103) dX12_index_16 (by decide) (by decide) rfl (by decide) ?_
  refine z_aload_n dX12_index_103 rfl ?_
  refine z_iload_n dX12_index_104 rfl ?_
  refine z_bipush (v := nI 13) dX12_index_105 rfl ?_
  refine z_callV2i dX12_index_107 kX12_ofIndex lX12_104 (by first | assumption | exact And.left (by assumption)) rfl (s_ofIx hm hk (by omega) x3.1) (Nat.le_of_ble_eq_true rfl) (Nat.le_of_ble_eq_true rfl) ⟨Nat.le_of_ble_eq_true rfl, Nat.le_of_ble_eq_true rfl⟩ ?_
  refine z_ireturn dX12_index_110 (Nat.le_of_ble_eq_true rfl) (Nat.le_of_ble_eq_true rfl) rfl ?_
  rw [hR]
  exact ⟨rfl, rfl, rfl, e0, h0⟩

set_option maxHeartbeats 4000000 in
set_option maxRecDepth 100000 in
theorem m_index2 {D : zD} {z0 nx : Nat} {L : zL} {V V1 : zV} {m k : Nat} {w : Wo} (hm : sM L m) (hk : k < 2) (e0 : zEq V V1 m (m + 16)) (h0 : MW V1 m w) (hR : o_index (nI k) (nI 2) w = (idx (xof w k) 2, w)) : Z D z0 3 0 0 mX12_index 0 0 16 [some (.ref m), some (.int (nI k)), some (.int (nI 2))] [.int (nI 2)] L V1 nx (zq (some (.int (o_index (nI k) (nI 2) w).1)) L nx (fun V' => zEq V V' m (m + 16) ∧ MW V' m (o_index (nI k) (nI 2) w).2)) := by
  obtain ⟨x1, x2, x3, x4, x5, x6⟩ := h0.1.2.2.2 k hk
  obtain ⟨n1, n2, n3, n4, n5⟩ := x1
  have e9 := id hm
  refine z_tableIn (tgt := 111) dX12_index_16 (by decide) (by decide) rfl (by decide) ?_
  refine z_aload_n dX12_index_111 rfl ?_
  refine z_iload_n dX12_index_112 rfl ?_
  refine z_iconst (v := nI 1) dX12_index_113 rfl ?_
  refine z_callV2i dX12_index_114 kX12_ofIndex lX12_104 (by first | assumption | exact And.left (by assumption)) rfl (s_ofIx hm hk (by omega) n2) (Nat.le_of_ble_eq_true rfl) (Nat.le_of_ble_eq_true rfl) ⟨Nat.le_of_ble_eq_true rfl, Nat.le_of_ble_eq_true rfl⟩ ?_
  refine z_ireturn dX12_index_117 (Nat.le_of_ble_eq_true rfl) (Nat.le_of_ble_eq_true rfl) rfl ?_
  rw [hR]
  exact ⟨rfl, rfl, rfl, e0, h0⟩

set_option maxHeartbeats 4000000 in
set_option maxRecDepth 100000 in
theorem m_index3 {D : zD} {z0 nx : Nat} {L : zL} {V V1 : zV} {m k : Nat} {w : Wo} (hm : sM L m) (hk : k < 2) (e0 : zEq V V1 m (m + 16)) (h0 : MW V1 m w) (hR : o_index (nI k) (nI 3) w = (idx (xof w k) 3, w)) : Z D z0 3 0 0 mX12_index 0 0 16 [some (.ref m), some (.int (nI k)), some (.int (nI 3))] [.int (nI 3)] L V1 nx (zq (some (.int (o_index (nI k) (nI 3) w).1)) L nx (fun V' => zEq V V' m (m + 16) ∧ MW V' m (o_index (nI k) (nI 3) w).2)) := by
  obtain ⟨x1, x2, x3, x4, x5, x6⟩ := h0.1.2.2.2 k hk
  obtain ⟨n1, n2, n3, n4, n5⟩ := x1
  have e9 := id hm
  refine z_tableIn (tgt := 118) dX12_index_16 (by decide) (by decide) rfl (by decide) ?_
  refine z_aload_n dX12_index_118 rfl ?_
  refine z_iload_n dX12_index_119 rfl ?_
  refine z_bipush (v := nI 14) dX12_index_120 rfl ?_
  refine z_callV2i dX12_index_122 kX12_ofIndex lX12_104 (by first | assumption | exact And.left (by assumption)) rfl (s_ofIx hm hk (by omega) x4.1) (Nat.le_of_ble_eq_true rfl) (Nat.le_of_ble_eq_true rfl) ⟨Nat.le_of_ble_eq_true rfl, Nat.le_of_ble_eq_true rfl⟩ ?_
  refine z_ireturn dX12_index_125 (Nat.le_of_ble_eq_true rfl) (Nat.le_of_ble_eq_true rfl) rfl ?_
  rw [hR]
  exact ⟨rfl, rfl, rfl, e0, h0⟩

set_option maxHeartbeats 4000000 in
set_option maxRecDepth 100000 in
theorem m_index4 {D : zD} {z0 nx : Nat} {L : zL} {V V1 : zV} {m k : Nat} {w : Wo} (hm : sM L m) (hk : k < 2) (e0 : zEq V V1 m (m + 16)) (h0 : MW V1 m w) (hR : o_index (nI k) (nI 4) w = (idx (xof w k) 4, w)) : Z D z0 3 0 0 mX12_index 0 0 16 [some (.ref m), some (.int (nI k)), some (.int (nI 4))] [.int (nI 4)] L V1 nx (zq (some (.int (o_index (nI k) (nI 4) w).1)) L nx (fun V' => zEq V V' m (m + 16) ∧ MW V' m (o_index (nI k) (nI 4) w).2)) := by
  obtain ⟨x1, x2, x3, x4, x5, x6⟩ := h0.1.2.2.2 k hk
  obtain ⟨n1, n2, n3, n4, n5⟩ := x1
  have e9 := id hm
  refine z_tableIn (tgt := 126) dX12_index_16 (by decide) (by decide) rfl (by decide) ?_
  refine z_aload_n dX12_index_126 rfl ?_
  refine z_iload_n dX12_index_127 rfl ?_
  refine z_bipush (v := nI 15) dX12_index_128 rfl ?_
  refine z_callV2i dX12_index_130 kX12_ofIndex lX12_104 (by first | assumption | exact And.left (by assumption)) rfl (s_ofIx hm hk (by omega) x5.1) (Nat.le_of_ble_eq_true rfl) (Nat.le_of_ble_eq_true rfl) ⟨Nat.le_of_ble_eq_true rfl, Nat.le_of_ble_eq_true rfl⟩ ?_
  refine z_ireturn dX12_index_133 (Nat.le_of_ble_eq_true rfl) (Nat.le_of_ble_eq_true rfl) rfl ?_
  rw [hR]
  exact ⟨rfl, rfl, rfl, e0, h0⟩

set_option maxHeartbeats 4000000 in
set_option maxRecDepth 100000 in
theorem m_index5 {D : zD} {z0 nx : Nat} {L : zL} {V V1 : zV} {m k : Nat} {w : Wo} (hm : sM L m) (hk : k < 2) (e0 : zEq V V1 m (m + 16)) (h0 : MW V1 m w) (hR : o_index (nI k) (nI 5) w = (idx (xof w k) 5, w)) : Z D z0 3 0 0 mX12_index 0 0 16 [some (.ref m), some (.int (nI k)), some (.int (nI 5))] [.int (nI 5)] L V1 nx (zq (some (.int (o_index (nI k) (nI 5) w).1)) L nx (fun V' => zEq V V' m (m + 16) ∧ MW V' m (o_index (nI k) (nI 5) w).2)) := by
  obtain ⟨x1, x2, x3, x4, x5, x6⟩ := h0.1.2.2.2 k hk
  obtain ⟨n1, n2, n3, n4, n5⟩ := x1
  have e9 := id hm
  refine z_tableIn (tgt := 134) dX12_index_16 (by decide) (by decide) rfl (by decide) ?_
  refine z_aload_n dX12_index_134 rfl ?_
  refine z_iload_n dX12_index_135 rfl ?_
  refine z_iconst (v := nI 2) dX12_index_136 rfl ?_
  refine z_callV2i dX12_index_137 kX12_ofIndex lX12_104 (by first | assumption | exact And.left (by assumption)) rfl (s_ofIx hm hk (by omega) n3) (Nat.le_of_ble_eq_true rfl) (Nat.le_of_ble_eq_true rfl) ⟨Nat.le_of_ble_eq_true rfl, Nat.le_of_ble_eq_true rfl⟩ ?_
  refine z_ireturn dX12_index_140 (Nat.le_of_ble_eq_true rfl) (Nat.le_of_ble_eq_true rfl) rfl ?_
  rw [hR]
  exact ⟨rfl, rfl, rfl, e0, h0⟩

set_option maxHeartbeats 4000000 in
set_option maxRecDepth 100000 in
theorem m_index6 {D : zD} {z0 nx : Nat} {L : zL} {V V1 : zV} {m k : Nat} {w : Wo} (hm : sM L m) (hk : k < 2) (e0 : zEq V V1 m (m + 16)) (h0 : MW V1 m w) (hR : o_index (nI k) (nI 6) w = (idx (xof w k) 6, w)) : Z D z0 3 0 0 mX12_index 0 0 16 [some (.ref m), some (.int (nI k)), some (.int (nI 6))] [.int (nI 6)] L V1 nx (zq (some (.int (o_index (nI k) (nI 6) w).1)) L nx (fun V' => zEq V V' m (m + 16) ∧ MW V' m (o_index (nI k) (nI 6) w).2)) := by
  obtain ⟨x1, x2, x3, x4, x5, x6⟩ := h0.1.2.2.2 k hk
  obtain ⟨n1, n2, n3, n4, n5⟩ := x1
  have e9 := id hm
  refine z_tableIn (tgt := 141) dX12_index_16 (by decide) (by decide) rfl (by decide) ?_
  refine z_aload_n dX12_index_141 rfl ?_
  refine z_iload_n dX12_index_142 rfl ?_
  refine z_iconst (v := nI 3) dX12_index_143 rfl ?_
  refine z_callV2i dX12_index_144 kX12_ofIndex lX12_104 (by first | assumption | exact And.left (by assumption)) rfl (s_ofIx hm hk (by omega) n4) (Nat.le_of_ble_eq_true rfl) (Nat.le_of_ble_eq_true rfl) ⟨Nat.le_of_ble_eq_true rfl, Nat.le_of_ble_eq_true rfl⟩ ?_
  refine z_ireturn dX12_index_147 (Nat.le_of_ble_eq_true rfl) (Nat.le_of_ble_eq_true rfl) rfl ?_
  rw [hR]
  exact ⟨rfl, rfl, rfl, e0, h0⟩

set_option maxHeartbeats 4000000 in
set_option maxRecDepth 100000 in
theorem m_index7 {D : zD} {z0 nx : Nat} {L : zL} {V V1 : zV} {m k : Nat} {w : Wo} (hm : sM L m) (hk : k < 2) (e0 : zEq V V1 m (m + 16)) (h0 : MW V1 m w) (hR : o_index (nI k) (nI 7) w = (idx (xof w k) 7, w)) : Z D z0 3 0 0 mX12_index 0 0 16 [some (.ref m), some (.int (nI k)), some (.int (nI 7))] [.int (nI 7)] L V1 nx (zq (some (.int (o_index (nI k) (nI 7) w).1)) L nx (fun V' => zEq V V' m (m + 16) ∧ MW V' m (o_index (nI k) (nI 7) w).2)) := by
  obtain ⟨x1, x2, x3, x4, x5, x6⟩ := h0.1.2.2.2 k hk
  obtain ⟨n1, n2, n3, n4, n5⟩ := x1
  have e9 := id hm
  refine z_tableIn (tgt := 148) dX12_index_16 (by decide) (by decide) rfl (by decide) ?_
  refine z_aload_n dX12_index_148 rfl ?_
  refine z_iload_n dX12_index_149 rfl ?_
  refine z_iconst (v := nI 4) dX12_index_150 rfl ?_
  refine z_callV2i dX12_index_151 kX12_ofIndex lX12_104 (by first | assumption | exact And.left (by assumption)) rfl (s_ofIx hm hk (by omega) x2.1) (Nat.le_of_ble_eq_true rfl) (Nat.le_of_ble_eq_true rfl) ⟨Nat.le_of_ble_eq_true rfl, Nat.le_of_ble_eq_true rfl⟩ ?_
  refine z_ireturn dX12_index_154 (Nat.le_of_ble_eq_true rfl) (Nat.le_of_ble_eq_true rfl) rfl ?_
  rw [hR]
  exact ⟨by rw [idx_7] <;> rfl, rfl, rfl, e0, h0⟩

set_option maxHeartbeats 4000000 in
set_option maxRecDepth 100000 in
theorem m_index8 {D : zD} {z0 nx : Nat} {L : zL} {V V1 : zV} {m k : Nat} {w : Wo} (hm : sM L m) (hk : k < 2) (e0 : zEq V V1 m (m + 16)) (h0 : MW V1 m w) (hR : o_index (nI k) (nI 8) w = (idx (xof w k) 8, w)) : Z D z0 3 0 0 mX12_index 0 0 16 [some (.ref m), some (.int (nI k)), some (.int (nI 8))] [.int (nI 8)] L V1 nx (zq (some (.int (o_index (nI k) (nI 8) w).1)) L nx (fun V' => zEq V V' m (m + 16) ∧ MW V' m (o_index (nI k) (nI 8) w).2)) := by
  obtain ⟨x1, x2, x3, x4, x5, x6⟩ := h0.1.2.2.2 k hk
  obtain ⟨n1, n2, n3, n4, n5⟩ := x1
  have e9 := id hm
  refine z_tableIn (tgt := 155) dX12_index_16 (by decide) (by decide) rfl (by decide) ?_
  refine z_aload_n dX12_index_155 rfl ?_
  refine z_iload_n dX12_index_156 rfl ?_
  refine z_iconst (v := nI 5) dX12_index_157 rfl ?_
  refine z_callV2i dX12_index_158 kX12_ofIndex lX12_104 (by first | assumption | exact And.left (by assumption)) rfl (s_ofIx hm hk (by omega) x2.2.1) (Nat.le_of_ble_eq_true rfl) (Nat.le_of_ble_eq_true rfl) ⟨Nat.le_of_ble_eq_true rfl, Nat.le_of_ble_eq_true rfl⟩ ?_
  refine z_ireturn dX12_index_161 (Nat.le_of_ble_eq_true rfl) (Nat.le_of_ble_eq_true rfl) rfl ?_
  rw [hR]
  exact ⟨rfl, rfl, rfl, e0, h0⟩

set_option maxHeartbeats 4000000 in
set_option maxRecDepth 100000 in
theorem m_index9 {D : zD} {z0 nx : Nat} {L : zL} {V V1 : zV} {m k : Nat} {w : Wo} (hm : sM L m) (hk : k < 2) (e0 : zEq V V1 m (m + 16)) (h0 : MW V1 m w) (hR : o_index (nI k) (nI 9) w = (idx (xof w k) 9, w)) : Z D z0 3 0 0 mX12_index 0 0 16 [some (.ref m), some (.int (nI k)), some (.int (nI 9))] [.int (nI 9)] L V1 nx (zq (some (.int (o_index (nI k) (nI 9) w).1)) L nx (fun V' => zEq V V' m (m + 16) ∧ MW V' m (o_index (nI k) (nI 9) w).2)) := by
  obtain ⟨x1, x2, x3, x4, x5, x6⟩ := h0.1.2.2.2 k hk
  obtain ⟨n1, n2, n3, n4, n5⟩ := x1
  have e9 := id hm
  refine z_tableIn (tgt := 162) dX12_index_16 (by decide) (by decide) rfl (by decide) ?_
  refine z_aload_n dX12_index_162 rfl ?_
  refine z_iload_n dX12_index_163 rfl ?_
  refine z_bipush (v := nI 6) dX12_index_164 rfl ?_
  refine z_iload_n dX12_index_166 rfl ?_
  refine z_addN dX12_index_167 ?_
  refine z_bipush (v := nI 9) dX12_index_168 rfl ?_
  refine z_subN dX12_index_170 (by omega) ?_
  refine z_callV2i dX12_index_171 kX12_ofIndex lX12_104 (by first | assumption | exact And.left (by assumption)) rfl (s_ofIx hm hk (by omega) (x2.2.2.1 0 (by decide))) (Nat.le_of_ble_eq_true rfl) (Nat.le_of_ble_eq_true rfl) ⟨Nat.le_of_ble_eq_true rfl, Nat.le_of_ble_eq_true rfl⟩ ?_
  refine z_ireturn dX12_index_174 (Nat.le_of_ble_eq_true rfl) (Nat.le_of_ble_eq_true rfl) rfl ?_
  rw [hR]
  exact ⟨rfl, rfl, rfl, e0, h0⟩

set_option maxHeartbeats 4000000 in
set_option maxRecDepth 100000 in
theorem m_index10 {D : zD} {z0 nx : Nat} {L : zL} {V V1 : zV} {m k : Nat} {w : Wo} (hm : sM L m) (hk : k < 2) (e0 : zEq V V1 m (m + 16)) (h0 : MW V1 m w) (hR : o_index (nI k) (nI 10) w = (idx (xof w k) 10, w)) : Z D z0 3 0 0 mX12_index 0 0 16 [some (.ref m), some (.int (nI k)), some (.int (nI 10))] [.int (nI 10)] L V1 nx (zq (some (.int (o_index (nI k) (nI 10) w).1)) L nx (fun V' => zEq V V' m (m + 16) ∧ MW V' m (o_index (nI k) (nI 10) w).2)) := by
  obtain ⟨x1, x2, x3, x4, x5, x6⟩ := h0.1.2.2.2 k hk
  obtain ⟨n1, n2, n3, n4, n5⟩ := x1
  have e9 := id hm
  refine z_tableIn (tgt := 162) dX12_index_16 (by decide) (by decide) rfl (by decide) ?_
  refine z_aload_n dX12_index_162 rfl ?_
  refine z_iload_n dX12_index_163 rfl ?_
  refine z_bipush (v := nI 6) dX12_index_164 rfl ?_
  refine z_iload_n dX12_index_166 rfl ?_
  refine z_addN dX12_index_167 ?_
  refine z_bipush (v := nI 9) dX12_index_168 rfl ?_
  refine z_subN dX12_index_170 (by omega) ?_
  refine z_callV2i dX12_index_171 kX12_ofIndex lX12_104 (by first | assumption | exact And.left (by assumption)) rfl (s_ofIx hm hk (by omega) (x2.2.2.1 1 (by decide))) (Nat.le_of_ble_eq_true rfl) (Nat.le_of_ble_eq_true rfl) ⟨Nat.le_of_ble_eq_true rfl, Nat.le_of_ble_eq_true rfl⟩ ?_
  refine z_ireturn dX12_index_174 (Nat.le_of_ble_eq_true rfl) (Nat.le_of_ble_eq_true rfl) rfl ?_
  rw [hR]
  exact ⟨rfl, rfl, rfl, e0, h0⟩

set_option maxHeartbeats 4000000 in
set_option maxRecDepth 100000 in
theorem m_index11 {D : zD} {z0 nx : Nat} {L : zL} {V V1 : zV} {m k : Nat} {w : Wo} (hm : sM L m) (hk : k < 2) (e0 : zEq V V1 m (m + 16)) (h0 : MW V1 m w) (hR : o_index (nI k) (nI 11) w = (idx (xof w k) 11, w)) : Z D z0 3 0 0 mX12_index 0 0 16 [some (.ref m), some (.int (nI k)), some (.int (nI 11))] [.int (nI 11)] L V1 nx (zq (some (.int (o_index (nI k) (nI 11) w).1)) L nx (fun V' => zEq V V' m (m + 16) ∧ MW V' m (o_index (nI k) (nI 11) w).2)) := by
  obtain ⟨x1, x2, x3, x4, x5, x6⟩ := h0.1.2.2.2 k hk
  obtain ⟨n1, n2, n3, n4, n5⟩ := x1
  have e9 := id hm
  refine z_tableIn (tgt := 162) dX12_index_16 (by decide) (by decide) rfl (by decide) ?_
  refine z_aload_n dX12_index_162 rfl ?_
  refine z_iload_n dX12_index_163 rfl ?_
  refine z_bipush (v := nI 6) dX12_index_164 rfl ?_
  refine z_iload_n dX12_index_166 rfl ?_
  refine z_addN dX12_index_167 ?_
  refine z_bipush (v := nI 9) dX12_index_168 rfl ?_
  refine z_subN dX12_index_170 (by omega) ?_
  refine z_callV2i dX12_index_171 kX12_ofIndex lX12_104 (by first | assumption | exact And.left (by assumption)) rfl (s_ofIx hm hk (by omega) (x2.2.2.1 2 (by decide))) (Nat.le_of_ble_eq_true rfl) (Nat.le_of_ble_eq_true rfl) ⟨Nat.le_of_ble_eq_true rfl, Nat.le_of_ble_eq_true rfl⟩ ?_
  refine z_ireturn dX12_index_174 (Nat.le_of_ble_eq_true rfl) (Nat.le_of_ble_eq_true rfl) rfl ?_
  rw [hR]
  exact ⟨rfl, rfl, rfl, e0, h0⟩

set_option maxHeartbeats 4000000 in
set_option maxRecDepth 100000 in
theorem m_index12 {D : zD} {z0 nx : Nat} {L : zL} {V V1 : zV} {m k : Nat} {w : Wo} (hm : sM L m) (hk : k < 2) (e0 : zEq V V1 m (m + 16)) (h0 : MW V1 m w) (hR : o_index (nI k) (nI 12) w = (idx (xof w k) 12, w)) : Z D z0 3 0 0 mX12_index 0 0 16 [some (.ref m), some (.int (nI k)), some (.int (nI 12))] [.int (nI 12)] L V1 nx (zq (some (.int (o_index (nI k) (nI 12) w).1)) L nx (fun V' => zEq V V' m (m + 16) ∧ MW V' m (o_index (nI k) (nI 12) w).2)) := by
  obtain ⟨x1, x2, x3, x4, x5, x6⟩ := h0.1.2.2.2 k hk
  obtain ⟨n1, n2, n3, n4, n5⟩ := x1
  have e9 := id hm
  refine z_tableIn (tgt := 175) dX12_index_16 (by decide) (by decide) rfl (by decide) ?_
  refine z_aload_n dX12_index_175 rfl ?_
  refine z_iload_n dX12_index_176 rfl ?_
  refine z_bipush (v := nI 9) dX12_index_177 rfl ?_
  refine z_callV2i dX12_index_179 kX12_ofIndex lX12_104 (by first | assumption | exact And.left (by assumption)) rfl (s_ofIx hm hk (by omega) x2.2.2.2.1) (Nat.le_of_ble_eq_true rfl) (Nat.le_of_ble_eq_true rfl) ⟨Nat.le_of_ble_eq_true rfl, Nat.le_of_ble_eq_true rfl⟩ ?_
  refine z_ireturn dX12_index_182 (Nat.le_of_ble_eq_true rfl) (Nat.le_of_ble_eq_true rfl) rfl ?_
  rw [hR]
  exact ⟨rfl, rfl, rfl, e0, h0⟩

set_option maxHeartbeats 4000000 in
set_option maxRecDepth 100000 in
theorem m_index13 {D : zD} {z0 nx : Nat} {L : zL} {V V1 : zV} {m k : Nat} {w : Wo} (hm : sM L m) (hk : k < 2) (e0 : zEq V V1 m (m + 16)) (h0 : MW V1 m w) (hR : o_index (nI k) (nI 13) w = (idx (xof w k) 13, w)) : Z D z0 3 0 0 mX12_index 0 0 16 [some (.ref m), some (.int (nI k)), some (.int (nI 13))] [.int (nI 13)] L V1 nx (zq (some (.int (o_index (nI k) (nI 13) w).1)) L nx (fun V' => zEq V V' m (m + 16) ∧ MW V' m (o_index (nI k) (nI 13) w).2)) := by
  obtain ⟨x1, x2, x3, x4, x5, x6⟩ := h0.1.2.2.2 k hk
  obtain ⟨n1, n2, n3, n4, n5⟩ := x1
  have e9 := id hm
  refine z_tableIn (tgt := 183) dX12_index_16 (by decide) (by decide) rfl (by decide) ?_
  refine z_aload_n dX12_index_183 rfl ?_
  refine z_iload_n dX12_index_184 rfl ?_
  refine z_bipush (v := nI 10) dX12_index_185 rfl ?_
  refine z_callV2i dX12_index_187 kX12_ofIndex lX12_104 (by first | assumption | exact And.left (by assumption)) rfl (s_ofIx hm hk (by omega) x2.2.2.2.2.1) (Nat.le_of_ble_eq_true rfl) (Nat.le_of_ble_eq_true rfl) ⟨Nat.le_of_ble_eq_true rfl, Nat.le_of_ble_eq_true rfl⟩ ?_
  refine z_ireturn dX12_index_190 (Nat.le_of_ble_eq_true rfl) (Nat.le_of_ble_eq_true rfl) rfl ?_
  rw [hR]
  exact ⟨rfl, rfl, rfl, e0, h0⟩

set_option maxHeartbeats 4000000 in
set_option maxRecDepth 100000 in
theorem m_index14 {D : zD} {z0 nx : Nat} {L : zL} {V V1 : zV} {m k : Nat} {w : Wo} (hm : sM L m) (hk : k < 2) (e0 : zEq V V1 m (m + 16)) (h0 : MW V1 m w) (hR : o_index (nI k) (nI 14) w = (idx (xof w k) 14, w)) : Z D z0 3 0 0 mX12_index 0 0 16 [some (.ref m), some (.int (nI k)), some (.int (nI 14))] [.int (nI 14)] L V1 nx (zq (some (.int (o_index (nI k) (nI 14) w).1)) L nx (fun V' => zEq V V' m (m + 16) ∧ MW V' m (o_index (nI k) (nI 14) w).2)) := by
  obtain ⟨x1, x2, x3, x4, x5, x6⟩ := h0.1.2.2.2 k hk
  obtain ⟨n1, n2, n3, n4, n5⟩ := x1
  have e9 := id hm
  refine z_tableIn (tgt := 191) dX12_index_16 (by decide) (by decide) rfl (by decide) ?_
  refine z_aload_n dX12_index_191 rfl ?_
  refine z_iload_n dX12_index_192 rfl ?_
  refine z_bipush (v := nI 11) dX12_index_193 rfl ?_
  refine z_callV2i dX12_index_195 kX12_ofIndex lX12_104 (by first | assumption | exact And.left (by assumption)) rfl (s_ofIx hm hk (by omega) x2.2.2.2.2.2) (Nat.le_of_ble_eq_true rfl) (Nat.le_of_ble_eq_true rfl) ⟨Nat.le_of_ble_eq_true rfl, Nat.le_of_ble_eq_true rfl⟩ ?_
  refine z_ireturn dX12_index_198 (Nat.le_of_ble_eq_true rfl) (Nat.le_of_ble_eq_true rfl) rfl ?_
  rw [hR]
  exact ⟨rfl, rfl, rfl, e0, h0⟩

set_option maxHeartbeats 4000000 in
set_option maxRecDepth 100000 in
theorem m_index15 {D : zD} {z0 nx : Nat} {L : zL} {V V1 : zV} {m k : Nat} {w : Wo} (hm : sM L m) (hk : k < 2) (e0 : zEq V V1 m (m + 16)) (h0 : MW V1 m w) (hR : o_index (nI k) (nI 15) w = (idx (xof w k) 15, w)) : Z D z0 3 0 0 mX12_index 0 0 16 [some (.ref m), some (.int (nI k)), some (.int (nI 15))] [.int (nI 15)] L V1 nx (zq (some (.int (o_index (nI k) (nI 15) w).1)) L nx (fun V' => zEq V V' m (m + 16) ∧ MW V' m (o_index (nI k) (nI 15) w).2)) := by
  obtain ⟨x1, x2, x3, x4, x5, x6⟩ := h0.1.2.2.2 k hk
  obtain ⟨n1, n2, n3, n4, n5⟩ := x1
  have e9 := id hm
  refine z_tableIn (tgt := 199) dX12_index_16 (by decide) (by decide) rfl (by decide) ?_
  refine z_aload_n dX12_index_199 rfl ?_
  refine z_iload_n dX12_index_200 rfl ?_
  refine z_bipush (v := nI 12) dX12_index_201 rfl ?_
  refine z_callV2i dX12_index_203 kX12_ofIndex lX12_104 (by first | assumption | exact And.left (by assumption)) rfl (s_ofIx hm hk (by omega) n5) (Nat.le_of_ble_eq_true rfl) (Nat.le_of_ble_eq_true rfl) ⟨Nat.le_of_ble_eq_true rfl, Nat.le_of_ble_eq_true rfl⟩ ?_
  refine z_ireturn dX12_index_206 (Nat.le_of_ble_eq_true rfl) (Nat.le_of_ble_eq_true rfl) rfl ?_
  rw [hR]
  exact ⟨rfl, rfl, rfl, e0, h0⟩

set_option maxHeartbeats 4000000 in
set_option maxRecDepth 100000 in
theorem m_index {D : zD} {z0 nx : Nat} {L : zL} {V : zV} {m : Nat} {w : Wo} (hm : sM L m) (h : MW V m w) {i : Int32} {x : Int32} : Sp D z0 3 0 0 mX12_index [.ref m, .int i, .int x] L V nx (zq (some (.int (o_index i x w).1)) L nx (fun V' => zEq V V' m (m + 16) ∧ MW V' m (o_index i x w).2)) := by
  have hm0 := hm
  have h0 := h
  obtain ⟨a0, a1, a2, a3, a4, a5, a6, a7, a8, a9, a10, a11, a12, a13, a14, a15⟩ := hm
  refine Sp.of 0 (by decide) rfl rfl (Nat.le_of_ble_eq_true rfl) ?_
  refine z_aload_n dX12_index_0 rfl ?_
  refine z_iconst (v := nI 0) dX12_index_1 rfl ?_
  refine z_putI dX12_index_2 fX12_1 (by first | assumption | exact And.left (by assumption)) rfl ?_
  have h9 := MW_thr (x := nI 0) h0
  have e0 : zEq V (zup V m 0 (nI 0)) m (m + 16) := zEq.rf.up (by omega) (by omega)
  generalize zup V m 0 (nI 0) = V1 at h9 e0 ⊢
  clear h0 h
  have h0 := h9
  obtain ⟨k1, k2, k3, k4, k5, k6, k7⟩ := h9
  refine z_iload_n dX12_index_5 rfl ?_
  refine z_callS1i dX12_index_6 kX12_isIndex lX12_346 s_mIx (Nat.le_of_ble_eq_true rfl) (Nat.le_of_ble_eq_true rfl) ⟨Nat.le_of_ble_eq_true rfl, Nat.le_of_ble_eq_true rfl⟩ ?_
  refine z_if_neB (tgt := 15) dX12_index_9 (by decide) (fun c_9 => ?_) (fun c_9 => ?_)
  · have c_i := c_9
    refine z_iload_n dX12_index_15 rfl ?_
    obtain ⟨k, hk, rfl⟩ := c_9
    have hT := tn_k (k := k) (by omega)
    by_cases hx : rng 16 x
    · obtain ⟨j, hj, rfl⟩ := hx
      have hR : o_index (nI k) (nI j) w = (idx (xof w k) j, w) := by unfold o_index; rw [cif_y ⟨rng_k hk, rng_k hj⟩, hT, tn_k (k := j) (by omega)]
      rcases (show j = 0 ∨ j = 1 ∨ j = 2 ∨ j = 3 ∨ j = 4 ∨ j = 5 ∨ j = 6 ∨ j = 7 ∨ j = 8 ∨ j = 9 ∨ j = 10 ∨ j = 11 ∨ j = 12 ∨ j = 13 ∨ j = 14 ∨ j = 15 by omega) with rfl | rfl | rfl | rfl | rfl | rfl | rfl | rfl | rfl | rfl | rfl | rfl | rfl | rfl | rfl | rfl
      · exact m_index0 hm0 hk e0 h0 hR
      · exact m_index1 hm0 hk e0 h0 hR
      · exact m_index2 hm0 hk e0 h0 hR
      · exact m_index3 hm0 hk e0 h0 hR
      · exact m_index4 hm0 hk e0 h0 hR
      · exact m_index5 hm0 hk e0 h0 hR
      · exact m_index6 hm0 hk e0 h0 hR
      · exact m_index7 hm0 hk e0 h0 hR
      · exact m_index8 hm0 hk e0 h0 hR
      · exact m_index9 hm0 hk e0 h0 hR
      · exact m_index10 hm0 hk e0 h0 hR
      · exact m_index11 hm0 hk e0 h0 hR
      · exact m_index12 hm0 hk e0 h0 hR
      · exact m_index13 hm0 hk e0 h0 hR
      · exact m_index14 hm0 hk e0 h0 hR
      · exact m_index15 hm0 hk e0 h0 hR
    · refine z_tableOut (tgt := 207) dX12_index_16 (by have := rng_o (n := 15) (by decide) hx; omega) (by decide) ?_
      refine z_bipush (v := (-2)) dX12_index_207 rfl ?_
      refine z_ireturn dX12_index_209 (Nat.le_of_ble_eq_true rfl) (Nat.le_of_ble_eq_true rfl) rfl ?_
      rw [show o_index (nI k) x w = (-2, w) from by unfold o_index; rw [cif_n (fun q => hx q.2)]]
      exact ⟨rfl, rfl, rfl, e0, h0⟩
  · refine z_bipush (v := (-2)) dX12_index_12 rfl ?_
    refine z_ireturn dX12_index_14 (Nat.le_of_ble_eq_true rfl) (Nat.le_of_ble_eq_true rfl) rfl ?_
    rw [show o_index i x w = (-2, w) from by unfold o_index; rw [cif_n (fun q => c_9 q.1)]]
    exact ⟨rfl, rfl, rfl, e0, h0⟩

