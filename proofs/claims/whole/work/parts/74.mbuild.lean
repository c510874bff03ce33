/-! the reference: build, query -/
theorem MW_rd {V V' : zV} {m k : Nat} {w : Wo} {p : Int32} (h : MW V m w) (e1 : ∀ q, q ≠ m → q ≠ m + 7 → q ≠ m + 11 → V' q = V q) (e2 : ∀ j, ¬ j ∈ [9, 10, 11, 12, 13, 16, 17, 18, 19, 20, 26] → V' m j = V m j) (h9 : V' m 9 = nI 0) (h12 : V' m 12 = nI k) (h13 : V' m 13 = p) (hk : k < 5) : MW V' m (setTp w [] k p) := by
  obtain ⟨h1, h2, h3, h4, h5, h6, h7⟩ := h
  have E := fun (q : Nat) (c : q = m + 1 ∨ q = m + 2 ∨ q = m + 3 ∨ q = m + 8 ∨ q = m + 9 ∨ q = m + 10) => e1 q (by omega) (by omega) (by omega)
  refine ⟨by rw [E (m + 1) (by omega)]; exact h1, ⟨h2.1, by rw [e2 3 (by decide)]; exact h2.2.1, fun q hq => by rw [E (m + 2) (by omega)]; exact h2.2.2 q hq⟩, fun i hi => ⟨by rw [E (m + 3) (by omega)]; exact (h3 i hi).1, fun s hs => by rw [E (m + 1) (by omega)]; exact (h3 i hi).2 s hs⟩, ⟨h9, h12, h13, by simp [setTp], hk, fun j hj => absurd hj (by simp [setTp])⟩, ⟨by rw [e2 6 (by decide)]; exact h5.1, h5.2⟩, ?_, fun q hq => by rw [E (m + 8) (by omega)]; exact h7 q hq⟩
  show MqO _ m w.2.2.2.2.2
  cases hq : w.2.2.2.2.2 with
  | none =>
    rw [hq] at h6
    show V' m 24 = -1
    rw [e2 24 (by decide)]
    exact h6
  | some q =>
    rw [hq] at h6
    obtain ⟨q1, q2, q3, q4, q5, q6⟩ := h6
    exact ⟨by rw [e2 24 (by decide)]; exact q1, q2, fun k hk => by rw [E (m + 9) (by omega)]; exact q3 k hk, by rw [e2 25 (by decide)]; exact q4, q5, fun k hk => by rw [E (m + 10) (by omega)]; exact q6 k hk⟩
theorem MW_qs {V V' : zV} {m : Nat} {w : Wo} {q : Qu} (h : MW V m w) (e1 : ∀ q, q ≠ m → q ≠ m + 9 → q ≠ m + 10 → V' q = V q) (e2 : ∀ j, j ≠ 24 → j ≠ 25 → V' m j = V m j) (hq : MqS V' m q) : MW V' m (setQ w q) := by
  obtain ⟨h1, h2, h3, h4, h5, h6, h7⟩ := h
  have E := fun (q : Nat) (c : q = m + 1 ∨ q = m + 2 ∨ q = m + 3 ∨ q = m + 8 ∨ q = m + 6) => e1 q (by omega) (by omega) (by omega)
  refine ⟨by rw [E (m + 1) (by omega)]; exact h1, ⟨h2.1, by rw [e2 3 (by decide) (by decide)]; exact h2.2.1, fun q hq => by rw [E (m + 2) (by omega)]; exact h2.2.2 q hq⟩, fun i hi => ⟨by rw [E (m + 3) (by omega)]; exact (h3 i hi).1, fun s hs => by rw [E (m + 1) (by omega)]; exact (h3 i hi).2 s hs⟩, ?_, ⟨by rw [e2 6 (by decide) (by decide)]; exact h5.1, h5.2⟩, hq, fun q hq => by rw [E (m + 8) (by omega)]; exact h7 q hq⟩
  obtain ⟨g1, g2, g3, g4, g5, g6⟩ := h4
  exact ⟨by rw [e2 9 (by decide) (by decide)]; exact g1, by rw [e2 12 (by decide) (by decide)]; exact g2, by rw [e2 13 (by decide) (by decide)]; exact g3, g4, g5, fun j hj => by rw [E (m + 6) (by omega)]; exact g6 j hj⟩

theorem IXb_new {sq : Nat} {d : Df} (h : sq < 1000000) (hd : Dfb d) : IXb ((1, sq, 0, 0, 0), d, [], [], []) := by
  refine ⟨?_, h, ?_, ?_, ?_, hd, ?_, ?_, ?_, ⟨?_, ?_, ?_⟩, ?_, ?_, ?_⟩ <;> simp

set_option maxHeartbeats 4000000 in
set_option maxRecDepth 100000 in
theorem s_mOpens {D : zD} {z0 nx : Nat} {L : zL} {V : zV} {m n : Nat} (hm : sM L m) : Sp D z0 1 0 0 mX12_opens [.ref m, .int (nI n)] L V nx (zq none L nx (fun V' => (∀ q, q ≠ m → V' q = V q) ∧ (∀ j, ¬ j ∈ [9, 10, 11, 12, 13] → V' m j = V m j) ∧ V' m 9 = nI 0 ∧ V' m 10 = nI n ∧ V' m 11 = nI 0 ∧ V' m 12 = nI 0 ∧ V' m 13 = -1)) := by
  have hm0 := hm
  obtain ⟨a0, a1, a2, a3, a4, a5, a6, a7, a8, a9, a10, a11, a12, a13, a14, a15⟩ := hm
  refine Sp.of 0 (by decide) rfl rfl (Nat.le_of_ble_eq_true rfl) ?_
  refine z_aload_n dX12_opens_0 rfl ?_
  refine z_iconst (v := nI 0) dX12_opens_1 rfl ?_
  refine z_putI dX12_opens_2 fX12_210 (by first | assumption | exact And.left (by assumption)) rfl ?_
  refine z_aload_n dX12_opens_5 rfl ?_
  refine z_iload_n dX12_opens_6 rfl ?_
  refine z_putI dX12_opens_7 fX12_216 (by first | assumption | exact And.left (by assumption)) rfl ?_
  refine z_aload_n dX12_opens_10 rfl ?_
  refine z_iconst (v := nI 0) dX12_opens_11 rfl ?_
  refine z_putI dX12_opens_12 fX12_213 (by first | assumption | exact And.left (by assumption)) rfl ?_
  refine z_aload_n dX12_opens_15 rfl ?_
  refine z_iconst (v := nI 0) dX12_opens_16 rfl ?_
  refine z_putI dX12_opens_17 fX12_223 (by first | assumption | exact And.left (by assumption)) rfl ?_
  refine z_aload_n dX12_opens_20 rfl ?_
  refine z_iconst (v := (-1)) dX12_opens_21 rfl ?_
  refine z_putI dX12_opens_22 fX12_35 (by first | assumption | exact And.left (by assumption)) rfl ?_
  refine z_return dX12_opens_25 (Nat.le_of_ble_eq_true rfl) (Nat.le_of_ble_eq_true rfl) rfl ?_
  refine ⟨rfl, rfl, rfl, fun q hq => by rw [zup_a hq, zup_a hq, zup_a hq, zup_a hq, zup_a hq], fun j hj => ?_, ?_, ?_, ?_, ?_, zup_s _ _ _ _⟩
  · have hj2 : j ≠ 9 ∧ j ≠ 10 ∧ j ≠ 11 ∧ j ≠ 12 ∧ j ≠ 13 := by simp at hj; omega
    rw [zup_k hj2.2.2.2.2, zup_k hj2.2.2.2.1, zup_k hj2.2.2.1, zup_k hj2.2.1, zup_k hj2.1]
  · exact (zup_k (by decide)).trans ((zup_k (by decide)).trans ((zup_k (by decide)).trans ((zup_k (by decide)).trans (zup_s _ _ _ _))))
  · exact (zup_k (by decide)).trans ((zup_k (by decide)).trans ((zup_k (by decide)).trans (zup_s _ _ _ _)))
  · exact (zup_k (by decide)).trans ((zup_k (by decide)).trans (zup_s _ _ _ _))
  · exact (zup_k (by decide)).trans (zup_s _ _ _ _)

set_option maxHeartbeats 4000000 in
set_option maxRecDepth 100000 in
theorem m_build {D : zD} {z0 nx : Nat} {L : zL} {V : zV} {m : Nat} {w : Wo} (hm : sM L m) (h : MW V m w) {i : Int32} {n : Int32} : Sp D z0 9 0 0 mX12_build [.ref m, .int i, .int n] L V nx (zq (some (.int (o_build i n w).1)) L nx (fun V' => zEq V V' m (m + 16) ∧ MW V' m (o_build i n w).2)) := by
  have hm0 := hm
  have h0 := h
  obtain ⟨a0, a1, a2, a3, a4, a5, a6, a7, a8, a9, a10, a11, a12, a13, a14, a15⟩ := hm
  refine Sp.of 0 (by decide) rfl rfl (Nat.le_of_ble_eq_true rfl) ?_
  refine z_aload_n dX12_build_0 rfl ?_
  refine z_iconst (v := nI 0) dX12_build_1 rfl ?_
  refine z_putI dX12_build_2 fX12_1 (by first | assumption | exact And.left (by assumption)) rfl ?_
  have h9 := MW_thr (x := nI 0) h0
  have e0 : zEq V (zup V m 0 (nI 0)) m (m + 16) := zEq.rf.up (by omega) (by omega)
  generalize zup V m 0 (nI 0) = V1 at h9 e0 ⊢
  clear h0 h
  have h0 := h9
  obtain ⟨k1, k2, k3, k4, k5, k6, k7⟩ := h9
  obtain ⟨t1, t2, t3, t4, t5, t6⟩ := id k4
  have htp : tpb w = w.2.2.2.1.1 := rfl
  rw [← htp] at t1 t4 t6
  refine z_iload_n dX12_build_5 rfl ?_
  refine z_callS1i dX12_build_6 kX12_isIndex lX12_346 s_mIx (Nat.le_of_ble_eq_true rfl) (Nat.le_of_ble_eq_true rfl) ⟨Nat.le_of_ble_eq_true rfl, Nat.le_of_ble_eq_true rfl⟩ ?_
  refine z_if_neB (tgt := 15) dX12_build_9 (by decide) (fun c_9 => ?_) (fun c_9 => ?_)
  · refine z_iload_n dX12_build_15 rfl ?_
    refine z_i2l dX12_build_16 ?_
    refine z_lconst dX12_build_17 rfl ?_
    refine z_aload_n dX12_build_18 rfl ?_
    refine z_getIe dX12_build_19 fX12_210 (by first | assumption | exact And.left (by assumption)) rfl t1 ?_
    refine z_i2l dX12_build_22 ?_
    refine z_callS3i dX12_build_23 kX12_isIn lX12_86 (s_isIn (v := n.toInt64)) (Nat.le_of_ble_eq_true rfl) (Nat.le_of_ble_eq_true rfl) ⟨Nat.le_of_ble_eq_true rfl, Nat.le_of_ble_eq_true rfl⟩ ?_
    refine z_if_neB (tgt := 32) dX12_build_26 (by decide) (fun c_26 => ?_) (fun c_26 => ?_)
    · have c_n : rng ((tpb w).length + 1) n := (rng_i (n := (tpb w).length) (by omega)).mp (by rw [i64, i64, nI_toInt (by omega)] at c_26; exact c_26)
      have hR : o_build i n w = (if (xof w (tn i)).1.1 = 0 then bld (tn i) (tn n) w else (-5, w)) := by unfold o_build; rw [cif_y c_9, cif_y c_n]
      obtain ⟨j, hj, rfl⟩ := c_n
      have hJ : tn (nI j) = j := tn_k (by omega)
      obtain ⟨k, hk, rfl⟩ := c_9
      have hT := tn_k (k := k) (by omega)
      have hX0 := k1.2.2.2 k hk
      obtain ⟨x1, x2, x3, x4, x5, x6⟩ := k1.2.2.2 k hk
      obtain ⟨n1, n2, n3, n4, n5⟩ := x1
      have hs6 := x6.1
      rw [hT, hJ] at hR
      refine z_aload_n dX12_build_32 rfl ?_
      refine z_iload_n dX12_build_33 rfl ?_
      refine z_iconst (v := nI 0) dX12_build_34 rfl ?_
      refine z_callV2i dX12_build_35 kX12_ofIndex lX12_104 (by first | assumption | exact And.left (by assumption)) rfl (s_ofIx hm0 hk (by omega) n1) (Nat.le_of_ble_eq_true rfl) (Nat.le_of_ble_eq_true rfl) ⟨Nat.le_of_ble_eq_true rfl, Nat.le_of_ble_eq_true rfl⟩ ?_
      refine z_if_eqN (tgt := 44) dX12_build_38 (by decide) (by omega) (fun c_38 => ?_) (fun c_38 => ?_)
      · have c_s : (xof w k).1.1 = 0 := c_38
        refine z_aload_n dX12_build_44 rfl ?_
        refine z_iload_n dX12_build_45 rfl ?_
        refine z_callV1w dX12_build_46 kX12_opens lX12_292 (by first | assumption | exact And.left (by assumption)) rfl (s_mOpens hm0) (Nat.le_of_ble_eq_true rfl) (Nat.le_of_ble_eq_true rfl) ⟨Nat.le_of_ble_eq_true rfl, Nat.le_of_ble_eq_true rfl⟩ ?_
        intro V2 hV2
        obtain ⟨p1, p2, p3, p4, p5, p6, p7⟩ := hV2
        have htl : ((tpb w).take j).length = j := by rw [List.length_take]; omega
        have hPS : PS V2 m ((tpb w).take j) 0 := by
          refine ⟨⟨by rw [htl]; exact p4, p5, by omega, by decide, fun q hq => ?_⟩, fun q hq => by rw [p1 _ (by omega)]; exact k7 q hq⟩
          rw [htl] at hq
          have hb : bt ((tpb w).take j) q = bt (tpb w) q := by unfold bt; rw [List.getD_eq_getElem?_getD, List.getD_eq_getElem?_getD, List.getElem?_take, if_pos hq]
          rw [hb, p1 _ (by omega)]
          exact t6 q (by omega)
        refine z_aload_n dX12_build_49 rfl ?_
        refine z_callV0w dX12_build_50 kX12_definition lX12_349 (by first | assumption | exact And.left (by assumption)) rfl (s_defn hm0 hPS p6 p7) (Nat.le_of_ble_eq_true rfl) (Nat.le_of_ble_eq_true rfl) ⟨Nat.le_of_ble_eq_true rfl, Nat.le_of_ble_eq_true rfl⟩ ?_
        intro V3 hV3
        obtain ⟨y1, y2, y3⟩ := hV3
        have hr5 := y1.2.1
        have h9 : MW V3 m (setTp w [] ((rD ((tpb w).take j))).1 (if ((rD ((tpb w).take j))).1 = 0 then -1 else nI ((rD ((tpb w).take j))).2.1)) := MW_rd h0 (fun q q1 q2 q3 => (y3.1 q q1 q2 q3).trans (p1 q q1)) (fun q hq => (y3.2 q (fun z => hq (by simp at z ⊢; omega))).trans (p2 q (fun z => hq (by simp at z ⊢; omega)))) ((y3.2 9 (by decide)).trans p3) y1.1 y1.2.2.1 hr5
        have e9 : zEq V V3 m (m + 16) := fun q hq => (y3.1 q (by omega) (by omega) (by omega)).trans ((p1 q (by omega)).trans (e0 q hq))
        refine z_aload_n dX12_build_53 rfl ?_
        refine z_getIe dX12_build_54 fX12_223 (by first | assumption | exact And.left (by assumption)) rfl y1.1 ?_
        refine z_if_eqN (tgt := 68) dX12_build_57 (by decide) (by omega) (fun c_57 => ?_) (fun c_57 => ?_)
        · rw [c_57, if_pos rfl] at h9
          clear e0 h0
          have e0 := e9
          have h0 := h9
          obtain ⟨z1, z2⟩ := y2 c_57
          refine z_aload_n dX12_build_68 rfl ?_
          refine z_callV0w dX12_build_69 kX12_notes lX12_152 (by first | assumption | exact And.left (by assumption)) rfl (s_notes hm0 h0) (Nat.le_of_ble_eq_true rfl) (Nat.le_of_ble_eq_true rfl) ⟨Nat.le_of_ble_eq_true rfl, Nat.le_of_ble_eq_true rfl⟩ ?_
          intro V4 hV4
          obtain ⟨e2, f2, f3, h2⟩ := hV4
          obtain ⟨j1, j2, j3, j4, j5, j6, j7⟩ := id h2
          have j1 : MB (V4 (m + 1)) w.1 := j1
          have e3 := e0.trans e2
          refine z_aload_n dX12_build_72 rfl ?_
          refine z_iload_n dX12_build_73 rfl ?_
          refine z_iconst (v := nI 0) dX12_build_74 rfl ?_
          refine z_callV2w dX12_build_75 kX12_empties lX12_68 (by first | assumption | exact And.left (by assumption)) rfl (s_mEmp hm0 hk (by omega)) (Nat.le_of_ble_eq_true rfl) (Nat.le_of_ble_eq_true rfl) ⟨Nat.le_of_ble_eq_true rfl, Nat.le_of_ble_eq_true rfl⟩ ?_
          intro V5 hV5
          have d7 : V5 (m + 7) = V3 (m + 7) := (hV5.1.1 _ (by omega) (by omega)).trans (f2 _ (by omega) (by omega))
          have d5 : V5 (m + 1) 5340 = nI w.1.1.1 := (hV5.1.2 5340 (by omega)).trans j1.1.1
          refine z_aload_n dX12_build_78 rfl ?_
          refine z_getR dX12_build_79 fX12_38 (by first | assumption | exact And.left (by assumption)) rfl ?_
          refine z_iconst (v := nI 4) dX12_build_82 rfl ?_
          refine z_aload_n dX12_build_83 rfl ?_
          refine z_getR dX12_build_84 fX12_13 (by first | assumption | exact And.left (by assumption)) rfl ?_
          refine z_sipush (v := nI 2140) dX12_build_87 rfl ?_
          refine z_sipush (v := nI 1600) dX12_build_90 rfl ?_
          refine z_iload_n dX12_build_93 rfl ?_
          refine z_mulN dX12_build_94 ?_
          refine z_addN dX12_build_95 ?_
          refine z_iconst (v := nI 4) dX12_build_96 rfl ?_
          refine z_addN dX12_build_97 ?_
          refine z_bipush (v := nI 8) dX12_build_98 rfl ?_
          refine z_callS5w dX12_build_100 kX12_copies lX12_76 (s_cp a7 a1 (by omega) (by omega) (by omega) (Or.inl (by omega))) (Nat.le_of_ble_eq_true rfl) (Nat.le_of_ble_eq_true rfl) ⟨Nat.le_of_ble_eq_true rfl, Nat.le_of_ble_eq_true rfl⟩ ?_
          intro V6 hV6
          have o6 : ∀ q, ¬ (2140 + 1600 * k + 4 ≤ q ∧ q < 2140 + 1600 * k + 12) → V6 (m + 1) q = V5 (m + 1) q := fun q hq => by
            rw [hV6]
            unfold cpz
            rw [zset_s, if_neg (by omega)]
          have o7 : ∀ q, q < 8 → V6 (m + 1) (2140 + 1600 * k + (4 + q)) = V3 (m + 7) (4 + q) := fun q hq => by
            rw [hV6]
            unfold cpz
            rw [zset_s, if_pos (by omega), d7]
            congr 1
            omega
          have o8 : ∀ q, q ≠ m + 1 → V6 q = V5 q := fun q hq => by rw [hV6]; exact cp_a hq
          clear hV6
          refine z_aload_n dX12_build_103 rfl ?_
          refine z_iload_n dX12_build_104 rfl ?_
          refine z_iconst (v := nI 0) dX12_build_105 rfl ?_
          refine z_iconst (v := nI 1) dX12_build_106 rfl ?_
          refine z_callV3w dX12_build_107 kX12_laysIndex lX12_80 (by first | assumption | exact And.left (by assumption)) rfl (s_lays hm0 hk (by omega)) (Nat.le_of_ble_eq_true rfl) (Nat.le_of_ble_eq_true rfl) ⟨Nat.le_of_ble_eq_true rfl, Nat.le_of_ble_eq_true rfl⟩ ?_
          intro V7 hV7
          refine z_aload_n dX12_build_110 rfl ?_
          refine z_iload_n dX12_build_111 rfl ?_
          refine z_iconst (v := nI 1) dX12_build_112 rfl ?_
          refine z_iconst (v := nI 0) dX12_build_113 rfl ?_
          refine z_callV3w dX12_build_114 kX12_laysIndex lX12_80 (by first | assumption | exact And.left (by assumption)) rfl (s_lays hm0 hk (by omega)) (Nat.le_of_ble_eq_true rfl) (Nat.le_of_ble_eq_true rfl) ⟨Nat.le_of_ble_eq_true rfl, Nat.le_of_ble_eq_true rfl⟩ ?_
          intro V8 hV8
          have d8 : V8 (m + 1) 5340 = nI w.1.1.1 := by rw [hV8, zup_k (by omega), hV7, zup_k (by omega), o6 _ (by omega)]; exact d5
          refine z_aload_n dX12_build_117 rfl ?_
          refine z_iload_n dX12_build_118 rfl ?_
          refine z_iconst (v := nI 3) dX12_build_119 rfl ?_
          refine z_aload_n dX12_build_120 rfl ?_
          refine z_getR dX12_build_121 fX12_13 (by first | assumption | exact And.left (by assumption)) rfl ?_
          refine z_sipush (v := nI 5340) dX12_build_124 rfl ?_
          refine z_ialdN dX12_build_127 (by first | assumption | exact And.left (by assumption)) (by omega) (by decide) d8 ?_
          refine z_callV3w dX12_build_128 kX12_laysIndex lX12_80 (by first | assumption | exact And.left (by assumption)) rfl (s_lays hm0 hk (by omega)) (Nat.le_of_ble_eq_true rfl) (Nat.le_of_ble_eq_true rfl) ⟨Nat.le_of_ble_eq_true rfl, Nat.le_of_ble_eq_true rfl⟩ ?_
          intro V9 hV9
          have d9 : V9 (m + 1) 5340 = nI w.1.1.1 := by rw [hV9, zup_k (by omega)]; exact d8
          refine z_aload_n dX12_build_131 rfl ?_
          refine z_getR dX12_build_132 fX12_13 (by first | assumption | exact And.left (by assumption)) rfl ?_
          refine z_sipush (v := nI 5340) dX12_build_135 rfl ?_
          refine z_ialdN dX12_build_138 (by first | assumption | exact And.left (by assumption)) (by omega) (by decide) d9 ?_
          refine z_ireturn dX12_build_139 (Nat.le_of_ble_eq_true rfl) (Nat.le_of_ble_eq_true rfl) rfl ?_
          rw [hR, if_pos c_s, bld, if_pos c_57]
          have hB : ∀ q, q < 1600 → q ≠ 0 → q ≠ 1 → q ≠ 3 → V9 (m + 1) (2140 + 1600 * k + q) = V6 (m + 1) (2140 + 1600 * k + q) := fun q h1 h2 h3 h4 => by rw [hV9, zup_k (by omega), hV8, zup_k (by omega), hV7, zup_k (by omega)]
          have hC : ∀ q, q < 1600 → q ≠ 0 → q ≠ 1 → q ≠ 3 → ¬ (4 ≤ q ∧ q < 12) → V9 (m + 1) (2140 + 1600 * k + q) = V5 (m + 1) (2140 + 1600 * k + q) := fun q h1 h2 h3 h4 h5 => (hB q h1 h2 h3 h4).trans (o6 _ (by omega))
          have hD : ∀ q, q < 8 → V9 (m + 1) (2140 + 1600 * k + (4 + q)) = V3 (m + 7) (4 + q) := fun q h1 => (hB _ (by omega) (by omega) (by omega) (by omega)).trans (o7 q h1)
          have hoX : oX V4 V9 m k := ⟨fun q q1 q2 => by rw [hV9, zup_a q1, hV8, zup_a q1, hV7, zup_a q1, o8 q q1]; exact hV5.1.1 q q1 q2, fun q hq => by rw [hV9, zup_k (by omega), hV8, zup_k (by omega), hV7, zup_k (by omega), o6 _ (by omega)]; exact hV5.1.2 q hq⟩
          obtain ⟨⟨m1, m2, m3, m4, m5⟩, m6, ⟨m7, m8⟩, ⟨m9, m10⟩, ⟨m11, m12⟩, m13⟩ := hV5.2
          obtain ⟨g1, g2, g3, g4, g5, g6⟩ := z1
          have hsq := j1.1.2.2.2.1
          refine ⟨rfl, rfl, rfl, e3.trans (hoX.a hk).zeq, MW_all h2 (hoX.a hk) (hoX.ix hk j1 ⟨⟨?_, ?_, ?_, ?_, ?_⟩, ⟨?_, ?_, fun q hq => ?_, ?_, ?_, ?_⟩, ⟨?_, fun q hq => absurd hq (by simp)⟩, ⟨?_, fun q hq => absurd hq (by simp)⟩, ⟨?_, fun q hq => absurd hq (by simp)⟩, IXb_new (by omega) z2⟩)⟩
          · rw [hV9, zup_k (by omega), hV8, zup_k (by omega), hV7, zup_s]
          · rw [hV9, zup_k (by omega), hV8, zup_s] <;> rfl
          · exact (hC 2 (by decide) (by decide) (by decide) (by decide) (by decide)).trans m3
          · rw [hV9, zup_s] <;> rfl
          · exact (hC 12 (by decide) (by decide) (by decide) (by decide) (by decide)).trans m5
          · exact (hD 0 (by decide)).trans g1
          · exact (hD 1 (by decide)).trans g2
          · have := hD (2 + q) (by omega)
            rw [show 4 + (2 + q) = 6 + q by omega] at this
            rw [this]
            have := g3 q hq
            rw [Nat.zero_add] at this
            exact this
          · exact (hD 5 (by decide)).trans g4
          · exact (hD 6 (by decide)).trans g5
          · exact (hD 7 (by decide)).trans g6
          · exact (hC 13 (by decide) (by decide) (by decide) (by decide) (by decide)).trans m7
          · exact (hC 14 (by decide) (by decide) (by decide) (by decide) (by decide)).trans m9
          · exact (hC 15 (by decide) (by decide) (by decide) (by decide) (by decide)).trans m11
        · refine z_bipush (v := (-30)) dX12_build_60 rfl ?_
          refine z_aload_n dX12_build_62 rfl ?_
          refine z_getIe dX12_build_63 fX12_223 (by first | assumption | exact And.left (by assumption)) rfl y1.1 ?_
          refine z_isub dX12_build_66 ?_
          refine z_ireturn dX12_build_67 (Nat.le_of_ble_eq_true rfl) (Nat.le_of_ble_eq_true rfl) rfl ?_
          rw [if_neg c_57] at h9
          rw [hR, if_pos c_s, bld, if_neg c_57]
          exact ⟨rfl, rfl, rfl, e9, h9⟩
      · refine z_bipush (v := (-5)) dX12_build_41 rfl ?_
        refine z_ireturn dX12_build_43 (Nat.le_of_ble_eq_true rfl) (Nat.le_of_ble_eq_true rfl) rfl ?_
        rw [hR, if_neg (show ¬ (xof w k).1.1 = 0 from c_38)]
        exact ⟨rfl, rfl, rfl, e0, h0⟩
    · have c_n : ¬ rng ((tpb w).length + 1) n := fun z => c_26 (by rw [i64, i64, nI_toInt (by omega)]; exact (rng_i (n := (tpb w).length) (by omega)).mpr z)
      refine z_bipush (v := (-3)) dX12_build_29 rfl ?_
      refine z_ireturn dX12_build_31 (Nat.le_of_ble_eq_true rfl) (Nat.le_of_ble_eq_true rfl) rfl ?_
      rw [show o_build i n w = (-3, w) from by unfold o_build; rw [cif_y c_9]; rw [cif_n c_n]]
      exact ⟨rfl, rfl, rfl, e0, h0⟩
  · refine z_bipush (v := (-2)) dX12_build_12 rfl ?_
    refine z_ireturn dX12_build_14 (Nat.le_of_ble_eq_true rfl) (Nat.le_of_ble_eq_true rfl) rfl ?_
    rw [show o_build i n w = (-2, w) from by unfold o_build; rw [cif_n c_9]]
    exact ⟨rfl, rfl, rfl, e0, h0⟩

set_option maxHeartbeats 4000000 in
set_option maxRecDepth 100000 in
theorem m_query {D : zD} {z0 nx : Nat} {L : zL} {V : zV} {m : Nat} {w : Wo} (hm : sM L m) (h : MW V m w) {n : Int32} : Sp D z0 10 0 0 mX12_query [.ref m, .int n] L V nx (zq (some (.int (o_query n w).1)) L nx (fun V' => zEq V V' m (m + 16) ∧ MW V' m (o_query n w).2)) := by
  have hm0 := hm
  have h0 := h
  obtain ⟨a0, a1, a2, a3, a4, a5, a6, a7, a8, a9, a10, a11, a12, a13, a14, a15⟩ := hm
  refine Sp.of 0 (by decide) rfl rfl (Nat.le_of_ble_eq_true rfl) ?_
  refine z_aload_n dX12_query_0 rfl ?_
  refine z_iconst (v := nI 0) dX12_query_1 rfl ?_
  refine z_putI dX12_query_2 fX12_1 (by first | assumption | exact And.left (by assumption)) rfl ?_
  have h9 := MW_thr (x := nI 0) h0
  have e0 : zEq V (zup V m 0 (nI 0)) m (m + 16) := zEq.rf.up (by omega) (by omega)
  generalize zup V m 0 (nI 0) = V1 at h9 e0 ⊢
  clear h0 h
  have h0 := h9
  obtain ⟨k1, k2, k3, k4, k5, k6, k7⟩ := h9
  obtain ⟨t1, t2, t3, t4, t5, t6⟩ := id k4
  have htp : tpb w = w.2.2.2.1.1 := rfl
  rw [← htp] at t1 t4 t6
  refine z_iload_n dX12_query_5 rfl ?_
  refine z_i2l dX12_query_6 ?_
  refine z_lconst dX12_query_7 rfl ?_
  refine z_aload_n dX12_query_8 rfl ?_
  refine z_getIe dX12_query_9 fX12_210 (by first | assumption | exact And.left (by assumption)) rfl t1 ?_
  refine z_i2l dX12_query_12 ?_
  refine z_callS3i dX12_query_13 kX12_isIn lX12_86 (s_isIn (v := n.toInt64)) (Nat.le_of_ble_eq_true rfl) (Nat.le_of_ble_eq_true rfl) ⟨Nat.le_of_ble_eq_true rfl, Nat.le_of_ble_eq_true rfl⟩ ?_
  refine z_if_neB (tgt := 22) dX12_query_16 (by decide) (fun c_16 => ?_) (fun c_16 => ?_)
  · have c_n : rng ((tpb w).length + 1) n := (rng_i (n := (tpb w).length) (by omega)).mp (by rw [i64, i64, nI_toInt (by omega)] at c_16; exact c_16)
    have hR : o_query n w = qry (tn n) w := by unfold o_query; rw [cif_y c_n]
    obtain ⟨j, hj, rfl⟩ := c_n
    have hJ : tn (nI j) = j := tn_k (by omega)
    rw [hJ] at hR
    refine z_aload_n dX12_query_22 rfl ?_
    refine z_iload_n dX12_query_23 rfl ?_
    refine z_callV1w dX12_query_24 kX12_opens lX12_292 (by first | assumption | exact And.left (by assumption)) rfl (s_mOpens hm0) (Nat.le_of_ble_eq_true rfl) (Nat.le_of_ble_eq_true rfl) ⟨Nat.le_of_ble_eq_true rfl, Nat.le_of_ble_eq_true rfl⟩ ?_
    intro V2 hV2
    obtain ⟨p1, p2, p3, p4, p5, p6, p7⟩ := hV2
    have htl : ((tpb w).take j).length = j := by rw [List.length_take]; omega
    have hPS : PS V2 m ((tpb w).take j) 0 := by
      refine ⟨⟨by rw [htl]; exact p4, p5, by omega, by decide, fun q hq => ?_⟩, fun q hq => by rw [p1 _ (by omega)]; exact k7 q hq⟩
      rw [htl] at hq
      have hb : bt ((tpb w).take j) q = bt (tpb w) q := by unfold bt; rw [List.getD_eq_getElem?_getD, List.getD_eq_getElem?_getD, List.getElem?_take, if_pos hq]
      rw [hb, p1 _ (by omega)]
      exact t6 q (by omega)
    refine z_aload_n dX12_query_27 rfl ?_
    refine z_callV0w dX12_query_28 kX12_readsQuery lX12_295 (by first | assumption | exact And.left (by assumption)) rfl (s_readsQ hm0 hPS p6 p7) (Nat.le_of_ble_eq_true rfl) (Nat.le_of_ble_eq_true rfl) ⟨Nat.le_of_ble_eq_true rfl, Nat.le_of_ble_eq_true rfl⟩ ?_
    intro V3 hV3
    obtain ⟨y1, y2, y3⟩ := hV3
    have hr5 := y1.2.1
    have h9 : MW V3 m (setTp w [] ((rQ ((tpb w).take j))).1 (if ((rQ ((tpb w).take j))).1 = 0 then -1 else nI ((rQ ((tpb w).take j))).2.1)) := MW_rd h0 (fun q q1 q2 q3 => (y3.1 q q1 q2 q3).trans (p1 q q1)) (fun q hq => (y3.2 q (fun z => hq (by simp at z ⊢; omega))).trans (p2 q (fun z => hq (by simp at z ⊢; omega)))) ((y3.2 9 (by decide)).trans p3) y1.1 y1.2.2.1 hr5
    have e9 : zEq V V3 m (m + 16) := fun q hq => (y3.1 q (by omega) (by omega) (by omega)).trans ((p1 q (by omega)).trans (e0 q hq))
    refine z_aload_n dX12_query_31 rfl ?_
    refine z_getIe dX12_query_32 fX12_223 (by first | assumption | exact And.left (by assumption)) rfl y1.1 ?_
    refine z_if_eqN (tgt := 46) dX12_query_35 (by decide) (by omega) (fun c_35 => ?_) (fun c_35 => ?_)
    · rw [c_35, if_pos rfl] at h9
      obtain ⟨⟨z1, z2, z3⟩, z4, z5, z6⟩ := y2 c_35
      refine z_aload_n dX12_query_46 rfl ?_
      refine z_aload_n dX12_query_47 rfl ?_
      refine z_getIe dX12_query_48 fX12_282 (by first | assumption | exact And.left (by assumption)) rfl z1 ?_
      refine z_putI dX12_query_51 fX12_53 (by first | assumption | exact And.left (by assumption)) rfl ?_
      refine z_aload_n dX12_query_54 rfl ?_
      refine z_aload_n dX12_query_55 rfl ?_
      refine z_getR dX12_query_56 fX12_38 (by first | assumption | exact And.left (by assumption)) rfl ?_
      refine z_iconst (v := nI 5) dX12_query_59 rfl ?_
      refine z_ialdN dX12_query_60 (by first | assumption | exact And.left (by assumption)) (by omega) (by decide) ((congrFun (zup_a (by omega)) 5).trans z4) ?_
      refine z_putI dX12_query_61 fX12_298 (by first | assumption | exact And.left (by assumption)) rfl ?_
      refine z_aload_n dX12_query_64 rfl ?_
      refine z_getR dX12_query_65 fX12_50 (by first | assumption | exact And.left (by assumption)) rfl ?_
      refine z_iconst (v := nI 0) dX12_query_68 rfl ?_
      refine z_aload_n dX12_query_69 rfl ?_
      refine z_getR dX12_query_70 fX12_44 (by first | assumption | exact And.left (by assumption)) rfl ?_
      refine z_iconst (v := nI 0) dX12_query_73 rfl ?_
      refine z_iconst (v := nI 3) dX12_query_74 rfl ?_
      refine z_aload_n dX12_query_75 rfl ?_
      refine z_getIe dX12_query_76 fX12_53 (by first | assumption | exact And.left (by assumption)) rfl ((zup_k (by decide)).trans (zup_s _ _ _ _)) ?_
      refine z_mulN dX12_query_79 ?_
      refine z_callS5w dX12_query_80 kX12_copies lX12_76 (s_cp a11 a9 (by omega) (by omega) (by omega) (Or.inl (by omega))) (Nat.le_of_ble_eq_true rfl) (Nat.le_of_ble_eq_true rfl) ⟨Nat.le_of_ble_eq_true rfl, Nat.le_of_ble_eq_true rfl⟩ ?_
      intro V5 hV5
      have c5 : ∀ q, q ≠ m + 9 → V5 q = zup (zup V3 m 24 (nI (rQ ((tpb w).take j)).2.2.1.length)) m 25 (nI (rQ ((tpb w).take j)).2.2.2.length) q := fun q hq => by rw [hV5]; exact cp_a hq
      refine z_aload_n dX12_query_83 rfl ?_
      refine z_getR dX12_query_84 fX12_38 (by first | assumption | exact And.left (by assumption)) rfl ?_
      refine z_bipush (v := nI 6) dX12_query_87 rfl ?_
      refine z_aload_n dX12_query_89 rfl ?_
      refine z_getR dX12_query_90 fX12_47 (by first | assumption | exact And.left (by assumption)) rfl ?_
      refine z_iconst (v := nI 0) dX12_query_93 rfl ?_
      refine z_aload_n dX12_query_94 rfl ?_
      refine z_getIe dX12_query_95 fX12_298 (by first | assumption | exact And.left (by assumption)) rfl ((congrFun (c5 m (by omega)) 25).trans (zup_s _ _ _ _)) ?_
      refine z_callS5w dX12_query_98 kX12_copies lX12_76 (s_cp a7 a10 (by omega) (by omega) (by omega) (Or.inl (by omega))) (Nat.le_of_ble_eq_true rfl) (Nat.le_of_ble_eq_true rfl) ⟨Nat.le_of_ble_eq_true rfl, Nat.le_of_ble_eq_true rfl⟩ ?_
      intro V6 hV6
      have c6 : ∀ q, q ≠ m + 10 → V6 q = V5 q := fun q hq => by rw [hV6]; exact cp_a hq
      have c24 : V6 m 24 = nI (rQ ((tpb w).take j)).2.2.1.length := (congrFun (c6 m (by omega)) 24).trans ((congrFun (c5 m (by omega)) 24).trans ((zup_k (by decide)).trans (zup_s _ _ _ _)))
      refine z_aload_n dX12_query_101 rfl ?_
      refine z_getIe dX12_query_102 fX12_53 (by first | assumption | exact And.left (by assumption)) rfl c24 ?_
      refine z_ireturn dX12_query_105 (Nat.le_of_ble_eq_true rfl) (Nat.le_of_ble_eq_true rfl) rfl ?_
      rw [hR, qry, if_pos c_35]
      have E : ∀ q, q ≠ m → q ≠ m + 9 → q ≠ m + 10 → V6 q = V3 q := fun q q1 q2 q3 => by rw [c6 q q3, c5 q q2, zup_a q1, zup_a q1]
      refine ⟨rfl, rfl, rfl, e9.trans (fun q hq => E q (by omega) (by omega) (by omega)), MW_qs h9 E (fun j h1 h2 => by rw [c6 m (by omega), c5 m (by omega), zup_k h2, zup_k h1]) ⟨c24, z2, fun q hq => ?_, ?_, z5, fun q hq => ?_⟩⟩
      · obtain ⟨q1, q2, q3, q4⟩ := z3 q hq
        have hc : ∀ x, x < 3 * (rQ ((tpb w).take j)).2.2.1.length → V6 (m + 9) x = V3 (m + 11) x := fun x hx => by
          rw [c6 _ (by omega), hV5]
          unfold cpz
          rw [zset_s, if_pos (by omega), zup_a (by omega), zup_a (by omega)]
          congr 1
          omega
        exact ⟨(hc _ (by omega)).trans q1, (hc _ (by omega)).trans q2, (hc _ (by omega)).trans q3, q4⟩
      · exact (congrFun (c6 m (by omega)) 25).trans ((congrFun (c5 m (by omega)) 25).trans (zup_s _ _ _ _))
      · obtain ⟨q1, q2⟩ := z6 q hq
        refine ⟨?_, q2⟩
        rw [hV6]
        unfold cpz
        rw [zset_s, if_pos (by omega), c5 _ (by omega), zup_a (by omega), zup_a (by omega), Nat.sub_zero]
        exact q1
    · refine z_bipush (v := (-30)) dX12_query_38 rfl ?_
      refine z_aload_n dX12_query_40 rfl ?_
      refine z_getIe dX12_query_41 fX12_223 (by first | assumption | exact And.left (by assumption)) rfl y1.1 ?_
      refine z_isub dX12_query_44 ?_
      refine z_ireturn dX12_query_45 (Nat.le_of_ble_eq_true rfl) (Nat.le_of_ble_eq_true rfl) rfl ?_
      rw [if_neg c_35] at h9
      rw [hR, qry, if_neg c_35]
      exact ⟨rfl, rfl, rfl, e9, h9⟩
  · have c_n : ¬ rng ((tpb w).length + 1) n := fun z => c_16 (by rw [i64, i64, nI_toInt (by omega)]; exact (rng_i (n := (tpb w).length) (by omega)).mpr z)
    refine z_bipush (v := (-3)) dX12_query_19 rfl ?_
    refine z_ireturn dX12_query_21 (Nat.le_of_ble_eq_true rfl) (Nat.le_of_ble_eq_true rfl) rfl ?_
    rw [show o_query n w = (-3, w) from by unfold o_query; rw [cif_n c_n]]
    exact ⟨rfl, rfl, rfl, e0, h0⟩

