/-! the reference: the calls about transactions, on -/
theorem AT_e {f : Nat → Int32} {p : Nat} {v : Option Nat} (h : AT f p v) : f (p + 1) = (if v = none then 0 else 1) := by
  cases v with
  | none => exact h
  | some q => exact h.1
theorem vwr_i {x : Int32} : ((-1 : Int) ≤ x.toInt ∧ x.toInt ≤ (3 : Nat)) ↔ vwr x := by
  constructor
  · rintro ⟨h1, h2⟩
    by_cases e : x.toInt = -1
    · exact Or.inl (Int32.toInt_inj.mp (by rw [e] <;> rfl))
    · exact Or.inr ((rng_i (n := 3) (by decide)).mp ⟨by omega, h2⟩)
  · rintro (rfl | h)
    · decide
    · have := (rng_i (n := 3) (by decide)).mpr h
      omega

theorem see_at {V : zV} {m k j : Nat} {w : Wo} {ws : List (Nat × Option Nat)} (hB : MB (V (m + 1)) w.1) (hj : j < 48) (hw : MTw (V (m + 1)) (1968 + 43 * k) ws (w.1.2.2.1 k)) (h0 : (vk (w.1.2.1 j) 0).1 ≤ (w.1.2.2.1 k).2.1) : AT (V (m + 1)) (sap ws (w.1.2.1 j) k j (w.1.2.2.1 k).2.1) (seen w.1 k j) := sap_at hw (hB.2.1 j hj) hj h0

set_option maxHeartbeats 4000000 in
set_option maxRecDepth 100000 in
theorem m_erase {D : zD} {z0 nx : Nat} {L : zL} {V : zV} {m : Nat} {w : Wo} (hm : sM L m) (h : MW V m w) {t : Int32} {r : Int32} (hfs : ∀ k, k < 4 → (w.1.2.2.1 k).1 = true → ∀ r, r < 48 → (vk (w.1.2.1 r) 0).1 ≤ (w.1.2.2.1 k).2.1) : Sp D z0 4 0 0 mX12_erase [.ref m, .int t, .int r] L V nx (zq (some (.int (o_erase t r w).1)) L nx (fun V' => zEq V V' m (m + 16) ∧ MW V' m (o_erase t r w).2)) := by
  have hm0 := hm
  have h0 := h
  obtain ⟨a0, a1, a2, a3, a4, a5, a6, a7, a8, a9, a10, a11, a12, a13, a14, a15⟩ := hm
  refine Sp.of 2 (by decide) rfl rfl (Nat.le_of_ble_eq_true rfl) ?_
  refine z_aload_n dX12_erase_0 rfl ?_
  refine z_iconst (v := nI 0) dX12_erase_1 rfl ?_
  refine z_putI dX12_erase_2 fX12_1 (by first | assumption | exact And.left (by assumption)) rfl ?_
  have h9 := MW_thr (x := nI 0) h0
  have e0 : zEq V (zup V m 0 (nI 0)) m (m + 16) := zEq.rf.up (by omega) (by omega)
  generalize zup V m 0 (nI 0) = V1 at h9 e0 ⊢
  clear h0 h
  have h0 := h9
  obtain ⟨k1, k2, k3, k4, k5, k6, k7⟩ := h9
  refine z_iload_n dX12_erase_5 rfl ?_
  refine z_callS1i dX12_erase_6 kX12_isTransaction lX12_145 s_mT (Nat.le_of_ble_eq_true rfl) (Nat.le_of_ble_eq_true rfl) ⟨Nat.le_of_ble_eq_true rfl, Nat.le_of_ble_eq_true rfl⟩ ?_
  refine z_if_eqB (tgt := 19) dX12_erase_9 (by decide) (fun c_9 => ?_) (fun c_9 => ?_)
  · refine z_bipush (v := (-2)) dX12_erase_19 rfl ?_
    refine z_ireturn dX12_erase_21 (Nat.le_of_ble_eq_true rfl) (Nat.le_of_ble_eq_true rfl) rfl ?_
    have e : rfw t r w = -2 := by unfold rfw; rw [cif_n (fun q => by first | exact c_9 q.1 | exact c_16 q.2)]
    rw [show o_erase t r w = (-2, w) from by unfold o_erase; rw [e, cif_n (by decide)]]
    exact ⟨rfl, rfl, rfl, e0, h0⟩
  · refine z_iload_n dX12_erase_12 rfl ?_
    refine z_callS1i dX12_erase_13 kX12_isRow lX12_155 s_mRow (Nat.le_of_ble_eq_true rfl) (Nat.le_of_ble_eq_true rfl) ⟨Nat.le_of_ble_eq_true rfl, Nat.le_of_ble_eq_true rfl⟩ ?_
    refine z_if_neB (tgt := 22) dX12_erase_16 (by decide) (fun c_16 => ?_) (fun c_16 => ?_)
    · refine z_aload_n dX12_erase_22 rfl ?_
      refine z_iload_n dX12_erase_23 rfl ?_
      refine z_iload_n dX12_erase_24 rfl ?_
      obtain ⟨j, hj, rfl⟩ := c_16
      obtain ⟨k, hk, rfl⟩ := c_9
      have hT := tn_k (k := k) (by omega)
      have hT0 := k1.2.2.1 k hk
      obtain ⟨x1, x2, x3, ws, xw⟩ := k1.2.2.1 k hk
      have xw0 := xw
      obtain ⟨w1, w2, w3, w4, w5, w6⟩ := xw
      have hJ := tn_k (k := j) (by omega)
      refine z_callV2i dX12_erase_25 kX12_refuses lX12_161 (by first | assumption | exact And.left (by assumption)) rfl (s_mRef hm0 k1 hk hj) (Nat.le_of_ble_eq_true rfl) (Nat.le_of_ble_eq_true rfl) ⟨Nat.le_of_ble_eq_true rfl, Nat.le_of_ble_eq_true rfl⟩ ?_
      refine z_istore_n dX12_erase_28 (Nat.le_of_ble_eq_true rfl) rfl ?_
      refine z_iload_n dX12_erase_29 rfl ?_
      refine z_if_eq (tgt := 35) dX12_erase_30 (by decide) (fun cc => ?_) (fun cc => ?_)
      · refine z_aload_n dX12_erase_35 rfl ?_
        have hR : o_erase (nI k) (nI j) w = (if seen w.1 k j = none then 0 else 1, wst w (setT w.1 k (tWr (tof w k) j none))) := by unfold o_erase; rw [cif_y cc, hT, hJ]
        have hop := (room_of hk hj cc).1
        refine z_callV0w dX12_erase_36 kX12_notes lX12_152 (by first | assumption | exact And.left (by assumption)) rfl (s_notes hm0 h0) (Nat.le_of_ble_eq_true rfl) (Nat.le_of_ble_eq_true rfl) ⟨Nat.le_of_ble_eq_true rfl, Nat.le_of_ble_eq_true rfl⟩ ?_
        intro V2 hV2
        obtain ⟨e2, f2, f3, h2⟩ := hV2
        obtain ⟨j1, j2, j3, j4, j5, j6, j7⟩ := id h2
        have j1 : MB (V2 (m + 1)) w.1 := j1
        have e3 := e0.trans e2
        obtain ⟨b1, b2, b3, ws2, bw⟩ := j1.2.2.1 k hk
        have hxv := j1.2.1 j hj
        have hat := AT_e (see_at j1 hj bw (hfs k hk hop j hj))
        have hsl := sap_lt (sn := (w.1.2.2.1 k).2.1) hk hj bw.2.1 hxv.2.1 hxv.2.2.1
        refine z_aload_n dX12_erase_39 rfl ?_
        refine z_getR dX12_erase_40 fX12_13 (by first | assumption | exact And.left (by assumption)) rfl ?_
        refine z_aload_n dX12_erase_43 rfl ?_
        refine z_iload_n dX12_erase_44 rfl ?_
        refine z_iload_n dX12_erase_45 rfl ?_
        refine z_callV2i dX12_erase_46 kX12_seenAt lX12_168 (by first | assumption | exact And.left (by assumption)) rfl (s_mSeen hm0 hk hj bw hxv b2 b3) (Nat.le_of_ble_eq_true rfl) (Nat.le_of_ble_eq_true rfl) ⟨Nat.le_of_ble_eq_true rfl, Nat.le_of_ble_eq_true rfl⟩ ?_
        refine z_iconst (v := nI 1) dX12_erase_49 rfl ?_
        refine z_addN dX12_erase_50 ?_
        refine z_ialdN dX12_erase_51 (by first | assumption | exact And.left (by assumption)) (by omega) (by decide) hat ?_
        refine z_istore dX12_erase_52 (Nat.le_of_ble_eq_true rfl) rfl ?_
        refine z_aload_n dX12_erase_54 rfl ?_
        refine z_iload_n dX12_erase_55 rfl ?_
        refine z_iload_n dX12_erase_56 rfl ?_
        refine z_iconst (v := nI 0) dX12_erase_57 rfl ?_
        refine z_iconst (v := nI 0) dX12_erase_58 rfl ?_
        refine z_iconst (v := nI 0) dX12_erase_59 rfl ?_
        refine z_iconst (v := nI 0) dX12_erase_60 rfl ?_
        refine z_callV6w dX12_erase_61 kX12_writes lX12_164 (by first | assumption | exact And.left (by assumption)) rfl (s_mWrites (v := none) hm0 j1 hk hj rfl (room_of hk hj cc).2) (Nat.le_of_ble_eq_true rfl) (Nat.le_of_ble_eq_true rfl) ⟨Nat.le_of_ble_eq_true rfl, Nat.le_of_ble_eq_true rfl⟩ ?_
        intro V3 hV3
        refine z_iload dX12_erase_64 rfl ?_
        refine z_ireturn dX12_erase_66 (Nat.le_of_ble_eq_true rfl) (Nat.le_of_ble_eq_true rfl) rfl ?_
        rw [hR]
        exact ⟨rfl, rfl, rfl, e3.trans hV3.1.zeq, MW_all h2 hV3.1 hV3.2⟩
      · refine z_iload_n dX12_erase_33 rfl ?_
        refine z_ireturn dX12_erase_34 (Nat.le_of_ble_eq_true rfl) (Nat.le_of_ble_eq_true rfl) rfl ?_
        rw [show o_erase (nI k) (nI j) w = (rfw (nI k) (nI j) w, w) from by unfold o_erase; rw [cif_n cc]]
        exact ⟨rfl, rfl, rfl, e0, h0⟩
    · refine z_bipush (v := (-2)) dX12_erase_19 rfl ?_
      refine z_ireturn dX12_erase_21 (Nat.le_of_ble_eq_true rfl) (Nat.le_of_ble_eq_true rfl) rfl ?_
      have e : rfw t r w = -2 := by unfold rfw; rw [cif_n (fun q => by first | exact c_9 q.1 | exact c_16 q.2)]
      rw [show o_erase t r w = (-2, w) from by unfold o_erase; rw [e, cif_n (by decide)]]
      exact ⟨rfl, rfl, rfl, e0, h0⟩

set_option maxHeartbeats 4000000 in
set_option maxRecDepth 100000 in
theorem m_roll {D : zD} {z0 nx : Nat} {L : zL} {V : zV} {m : Nat} {w : Wo} (hm : sM L m) (h : MW V m w) {t : Int32} : Sp D z0 4 0 0 mX12_roll [.ref m, .int t] L V nx (zq (some (.int (o_roll t w).1)) L nx (fun V' => zEq V V' m (m + 16) ∧ MW V' m (o_roll t w).2)) := by
  have hm0 := hm
  have h0 := h
  obtain ⟨a0, a1, a2, a3, a4, a5, a6, a7, a8, a9, a10, a11, a12, a13, a14, a15⟩ := hm
  refine Sp.of 1 (by decide) rfl rfl (Nat.le_of_ble_eq_true rfl) ?_
  refine z_aload_n dX12_roll_0 rfl ?_
  refine z_iconst (v := nI 0) dX12_roll_1 rfl ?_
  refine z_putI dX12_roll_2 fX12_1 (by first | assumption | exact And.left (by assumption)) rfl ?_
  have h9 := MW_thr (x := nI 0) h0
  have e0 : zEq V (zup V m 0 (nI 0)) m (m + 16) := zEq.rf.up (by omega) (by omega)
  generalize zup V m 0 (nI 0) = V1 at h9 e0 ⊢
  clear h0 h
  have h0 := h9
  obtain ⟨k1, k2, k3, k4, k5, k6, k7⟩ := h9
  refine z_iload_n dX12_roll_5 rfl ?_
  refine z_callS1i dX12_roll_6 kX12_isTransaction lX12_145 s_mT (Nat.le_of_ble_eq_true rfl) (Nat.le_of_ble_eq_true rfl) ⟨Nat.le_of_ble_eq_true rfl, Nat.le_of_ble_eq_true rfl⟩ ?_
  refine z_if_neB (tgt := 15) dX12_roll_9 (by decide) (fun c_9 => ?_) (fun c_9 => ?_)
  · obtain ⟨k, hk, rfl⟩ := c_9
    have hT := tn_k (k := k) (by omega)
    have hT0 := k1.2.2.1 k hk
    obtain ⟨x1, x2, x3, ws, xw⟩ := k1.2.2.1 k hk
    have xw0 := xw
    obtain ⟨w1, w2, w3, w4, w5, w6⟩ := xw
    refine z_aload_n dX12_roll_15 rfl ?_
    refine z_iload_n dX12_roll_16 rfl ?_
    refine z_callV1i dX12_roll_17 kX12_isOpen lX12_149 (by first | assumption | exact And.left (by assumption)) rfl (s_mOpen hm0 hk hT0) (Nat.le_of_ble_eq_true rfl) (Nat.le_of_ble_eq_true rfl) ⟨Nat.le_of_ble_eq_true rfl, Nat.le_of_ble_eq_true rfl⟩ ?_
    refine z_if_neB (tgt := 26) dX12_roll_20 (by decide) (fun c_20 => ?_) (fun c_20 => ?_)
    · refine z_aload_n dX12_roll_26 rfl ?_
      refine z_callV0w dX12_roll_27 kX12_notes lX12_152 (by first | assumption | exact And.left (by assumption)) rfl (s_notes hm0 h0) (Nat.le_of_ble_eq_true rfl) (Nat.le_of_ble_eq_true rfl) ⟨Nat.le_of_ble_eq_true rfl, Nat.le_of_ble_eq_true rfl⟩ ?_
      intro V2 hV2
      obtain ⟨e2, f2, f3, h2⟩ := hV2
      obtain ⟨j1, j2, j3, j4, j5, j6, j7⟩ := id h2
      have j1 : MB (V2 (m + 1)) w.1 := j1
      have e3 := e0.trans e2
      obtain ⟨b1, b2, b3, ws2, bw⟩ := j1.2.2.1 k hk
      refine z_aload_n dX12_roll_30 rfl ?_
      refine z_iload_n dX12_roll_31 rfl ?_
      refine z_iconst (v := nI 2) dX12_roll_32 rfl ?_
      refine z_callV2i dX12_roll_33 kX12_ofTransaction lX12_94 (by first | assumption | exact And.left (by assumption)) rfl (s_ofTr hm0 hk (by omega) bw.1) (Nat.le_of_ble_eq_true rfl) (Nat.le_of_ble_eq_true rfl) ⟨Nat.le_of_ble_eq_true rfl, Nat.le_of_ble_eq_true rfl⟩ ?_
      refine z_istore_n dX12_roll_36 (Nat.le_of_ble_eq_true rfl) rfl ?_
      refine z_aload_n dX12_roll_37 rfl ?_
      refine z_iload_n dX12_roll_38 rfl ?_
      refine z_callV1w dX12_roll_39 kX12_ends lX12_198 (by first | assumption | exact And.left (by assumption)) rfl (s_mEnds hm0 j1 hk) (Nat.le_of_ble_eq_true rfl) (Nat.le_of_ble_eq_true rfl) ⟨Nat.le_of_ble_eq_true rfl, Nat.le_of_ble_eq_true rfl⟩ ?_
      intro V3 hV3
      refine z_iload_n dX12_roll_42 rfl ?_
      refine z_ireturn dX12_roll_43 (Nat.le_of_ble_eq_true rfl) (Nat.le_of_ble_eq_true rfl) rfl ?_
      rw [show o_roll (nI k) w = (nI (nwr (tof w k)), wst w (setT w.1 k tEnd)) from by unfold o_roll; rw [cif_y (rng_k hk), cif_y ((opn_k hk).mpr c_20), hT]]
      exact ⟨by rw [show nwr (tof w k) = ws2.length from bw.2.2.1], rfl, rfl, e3.trans hV3.1.zeq, MW_all h2 hV3.1 hV3.2⟩
    · refine z_bipush (v := (-5)) dX12_roll_23 rfl ?_
      refine z_ireturn dX12_roll_25 (Nat.le_of_ble_eq_true rfl) (Nat.le_of_ble_eq_true rfl) rfl ?_
      rw [show o_roll (nI k) w = (-5, w) from by unfold o_roll; rw [cif_y (rng_k hk)]; rw [cif_n (fun q => c_20 ((opn_k hk).mp q))]]
      exact ⟨rfl, rfl, rfl, e0, h0⟩
  · refine z_bipush (v := (-2)) dX12_roll_12 rfl ?_
    refine z_ireturn dX12_roll_14 (Nat.le_of_ble_eq_true rfl) (Nat.le_of_ble_eq_true rfl) rfl ?_
    rw [show o_roll t w = (-2, w) from by unfold o_roll; rw [cif_n c_9]]
    exact ⟨rfl, rfl, rfl, e0, h0⟩

set_option maxHeartbeats 4000000 in
set_option maxRecDepth 100000 in
theorem m_why {D : zD} {z0 nx : Nat} {L : zL} {V : zV} {m : Nat} {w : Wo} (hm : sM L m) (h : MW V m w) : Sp D z0 1 0 0 mX12_why [.ref m] L V nx (zq (some (.int (o_why w).1)) L nx (fun V' => zEq V V' m (m + 16) ∧ MW V' m (o_why w).2)) := by
  have hm0 := hm
  have h0 := h
  obtain ⟨a0, a1, a2, a3, a4, a5, a6, a7, a8, a9, a10, a11, a12, a13, a14, a15⟩ := hm
  refine Sp.of 0 (by decide) rfl rfl (Nat.le_of_ble_eq_true rfl) ?_
  refine z_aload_n dX12_why_0 rfl ?_
  refine z_iconst (v := nI 0) dX12_why_1 rfl ?_
  refine z_putI dX12_why_2 fX12_1 (by first | assumption | exact And.left (by assumption)) rfl ?_
  have h9 := MW_thr (x := nI 0) h0
  have e0 : zEq V (zup V m 0 (nI 0)) m (m + 16) := zEq.rf.up (by omega) (by omega)
  generalize zup V m 0 (nI 0) = V1 at h9 e0 ⊢
  clear h0 h
  have h0 := h9
  obtain ⟨k1, k2, k3, k4, k5, k6, k7⟩ := h9
  refine z_aload_n dX12_why_5 rfl ?_
  refine z_getIe dX12_why_6 fX12_191 (by first | assumption | exact And.left (by assumption)) rfl k5.1 ?_
  refine z_ireturn dX12_why_9 (Nat.le_of_ble_eq_true rfl) (Nat.le_of_ble_eq_true rfl) rfl ?_
  exact ⟨rfl, rfl, rfl, e0, h0⟩

set_option maxHeartbeats 4000000 in
set_option maxRecDepth 100000 in
theorem lp_see78 {D : zD} {z0 nx : Nat} {L : zL} {V : zV} {m p x : Nat} {v : Option Nat} {t r : Int32} (hm : sM L m) (hat : AT (V (m + 1)) p v) (hp : p + 5 ≤ 5343) (hx : x < 4) : Z D z0 5 0 0 mX12_see 0 0 78 [some (.ref m), some (.int t), some (.int r), some (.int (nI x)), some (.int (nI p))] [] L V nx (zi (seev v x) L V nx) := by
  have hm0 := hm
  obtain ⟨a0, a1, a2, a3, a4, a5, a6, a7, a8, a9, a10, a11, a12, a13, a14, a15⟩ := hm
  have he := AT_e hat
  refine z_iload_n dX12_see_78 rfl ?_
  refine z_if_neN (tgt := 92) dX12_see_79 (by decide) (by omega) (fun c_79 => ?_) (fun c_79 => ?_)
  · refine z_aload_n dX12_see_92 rfl ?_
    refine z_getR dX12_see_93 fX12_13 (by first | assumption | exact And.left (by assumption)) rfl ?_
    refine z_iload dX12_see_96 rfl ?_
    refine z_iconst (v := nI 1) dX12_see_98 rfl ?_
    refine z_addN dX12_see_99 ?_
    refine z_ialdN dX12_see_100 (by first | assumption | exact And.left (by assumption)) (by omega) (by decide) he ?_
    refine z_iconst (v := nI 1) dX12_see_101 rfl ?_
    refine z_icmp_ne (tgt := 119) dX12_see_102 (by decide) (fun c_102 => ?_) (fun c_102 => ?_)
    · have hv : v = none := Classical.byContradiction (fun z => c_102 (if_neg z))
      subst hv
      refine z_iconst (v := (-1)) dX12_see_119 rfl ?_
      refine z_ireturn dX12_see_120 (Nat.le_of_ble_eq_true rfl) (Nat.le_of_ble_eq_true rfl) rfl ?_
      first
        | exact zi_r (by show nI (pt q (x - 1)) = seev (some q) x; rw [seev, if_neg c_79])
        | exact zi_r (by show (-1 : Int32) = seev none x; rw [seev, if_neg c_79])
    · have hv : ¬ v = none := fun z => by rw [if_pos z] at c_102; exact absurd c_102 (by decide)
      obtain ⟨q, hq⟩ := Option.ne_none_iff_exists'.mp hv
      subst hq
      have hxx := hat.2.2 (x - 1) (by omega)
      rw [show p + 2 + (x - 1) = p + 1 + x by omega] at hxx
      refine z_aload_n dX12_see_105 rfl ?_
      refine z_getR dX12_see_106 fX12_13 (by first | assumption | exact And.left (by assumption)) rfl ?_
      refine z_iload dX12_see_109 rfl ?_
      refine z_iconst (v := nI 1) dX12_see_111 rfl ?_
      refine z_addN dX12_see_112 ?_
      refine z_iload_n dX12_see_113 rfl ?_
      refine z_addN dX12_see_114 ?_
      refine z_ialdN dX12_see_115 (by first | assumption | exact And.left (by assumption)) (by omega) (by decide) hxx ?_
      refine z_goto (tgt := 120) dX12_see_116 (by decide) ?_
      refine z_ireturn dX12_see_120 (Nat.le_of_ble_eq_true rfl) (Nat.le_of_ble_eq_true rfl) rfl ?_
      first
        | exact zi_r (by show nI (pt q (x - 1)) = seev (some q) x; rw [seev, if_neg c_79])
        | exact zi_r (by show (-1 : Int32) = seev none x; rw [seev, if_neg c_79])
  · refine z_aload_n dX12_see_82 rfl ?_
    refine z_getR dX12_see_83 fX12_13 (by first | assumption | exact And.left (by assumption)) rfl ?_
    refine z_iload dX12_see_86 rfl ?_
    refine z_iconst (v := nI 1) dX12_see_88 rfl ?_
    refine z_addN dX12_see_89 ?_
    refine z_ialdN dX12_see_90 (by first | assumption | exact And.left (by assumption)) (by omega) (by decide) he ?_
    refine z_ireturn dX12_see_91 (Nat.le_of_ble_eq_true rfl) (Nat.le_of_ble_eq_true rfl) rfl ?_
    subst c_79
    exact zi_r (by cases v <;> rfl)

set_option maxHeartbeats 4000000 in
set_option maxRecDepth 100000 in
theorem m_seeN {D : zD} {z0 nx : Nat} {L : zL} {V : zV} {m : Nat} {w : Wo} (hm : sM L m) (h : MW V m w) {r x : Int32} (hfs : ∀ k, k < 4 → (w.1.2.2.1 k).1 = true → ∀ r, r < 48 → (vk (w.1.2.1 r) 0).1 ≤ (w.1.2.2.1 k).2.1) : Sp D z0 5 0 0 mX12_see [.ref m, .int (-1), .int r, .int x] L V nx (zq (some (.int (o_see (-1) r x w).1)) L nx (fun V' => zEq V V' m (m + 16) ∧ MW V' m (o_see (-1) r x w).2)) := by
  have hm0 := hm
  have h0 := h
  obtain ⟨a0, a1, a2, a3, a4, a5, a6, a7, a8, a9, a10, a11, a12, a13, a14, a15⟩ := hm
  refine Sp.of 1 (by decide) rfl rfl (Nat.le_of_ble_eq_true rfl) ?_
  refine z_aload_n dX12_see_0 rfl ?_
  refine z_iconst (v := nI 0) dX12_see_1 rfl ?_
  refine z_putI dX12_see_2 fX12_1 (by first | assumption | exact And.left (by assumption)) rfl ?_
  have h9 := MW_thr (x := nI 0) h0
  have e0 : zEq V (zup V m 0 (nI 0)) m (m + 16) := zEq.rf.up (by omega) (by omega)
  generalize zup V m 0 (nI 0) = V1 at h9 e0 ⊢
  clear h0 h
  have h0 := h9
  obtain ⟨k1, k2, k3, k4, k5, k6, k7⟩ := h9
  refine z_iload_n dX12_see_5 rfl ?_
  refine z_i2l dX12_see_6 ?_
  refine z_ldc2 dX12_see_7 qX12_205 ?_
  refine z_ldc2 dX12_see_10 qX12_84 ?_
  refine z_callS3i dX12_see_13 kX12_isIn lX12_86 (s_isIn (v := (-1 : Int32).toInt64)) (Nat.le_of_ble_eq_true rfl) (Nat.le_of_ble_eq_true rfl) ⟨Nat.le_of_ble_eq_true rfl, Nat.le_of_ble_eq_true rfl⟩ ?_
  refine z_if_eqB (tgt := 38) dX12_see_16 (by decide) (fun c_16 => ?_) (fun c_16 => ?_)
  · have c_v : ¬ vwr (-1) := fun z => c_16 (by rw [Int32.toInt_toInt64]; exact vwr_i.mpr z)
    refine z_bipush (v := (-2)) dX12_see_38 rfl ?_
    refine z_ireturn dX12_see_40 (Nat.le_of_ble_eq_true rfl) (Nat.le_of_ble_eq_true rfl) rfl ?_
    rw [show o_see (-1) r x w = (-2, w) from by unfold o_see; rw [cif_n (fun q => by first | exact c_v q.1 | exact c_23 q.2.1 | exact c_x q.2.2)]]
    exact ⟨rfl, rfl, rfl, e0, h0⟩
  · have c_v : vwr (-1) := vwr_i.mp (by rw [Int32.toInt_toInt64] at c_16; exact c_16)
    refine z_iload_n dX12_see_19 rfl ?_
    refine z_callS1i dX12_see_20 kX12_isRow lX12_155 s_mRow (Nat.le_of_ble_eq_true rfl) (Nat.le_of_ble_eq_true rfl) ⟨Nat.le_of_ble_eq_true rfl, Nat.le_of_ble_eq_true rfl⟩ ?_
    refine z_if_eqB (tgt := 38) dX12_see_23 (by decide) (fun c_23 => ?_) (fun c_23 => ?_)
    · refine z_bipush (v := (-2)) dX12_see_38 rfl ?_
      refine z_ireturn dX12_see_40 (Nat.le_of_ble_eq_true rfl) (Nat.le_of_ble_eq_true rfl) rfl ?_
      rw [show o_see (-1) r x w = (-2, w) from by unfold o_see; rw [cif_n (fun q => by first | exact c_v q.1 | exact c_23 q.2.1 | exact c_x q.2.2)]]
      exact ⟨rfl, rfl, rfl, e0, h0⟩
    · refine z_iload_n dX12_see_26 rfl ?_
      refine z_i2l dX12_see_27 ?_
      refine z_lconst dX12_see_28 rfl ?_
      refine z_ldc2 dX12_see_29 qX12_84 ?_
      refine z_callS3i dX12_see_32 kX12_isIn lX12_86 (s_isIn (v := x.toInt64)) (Nat.le_of_ble_eq_true rfl) (Nat.le_of_ble_eq_true rfl) ⟨Nat.le_of_ble_eq_true rfl, Nat.le_of_ble_eq_true rfl⟩ ?_
      refine z_if_neB (tgt := 41) dX12_see_35 (by decide) (fun c_35 => ?_) (fun c_35 => ?_)
      · have c_x : rng 4 x := (rng_i (n := 3) (by decide)).mp (by rw [Int32.toInt_toInt64] at c_35; exact c_35)
        refine z_iload_n dX12_see_41 rfl ?_
        refine z_iconst (v := (-1)) dX12_see_42 rfl ?_
        refine z_icmp_eq (tgt := 57) dX12_see_43 (by decide) (fun c_43 => ?_) (fun c_43 => ?_)
        · refine z_iload_n dX12_see_57 rfl ?_
          refine z_iconst (v := (-1)) dX12_see_58 rfl ?_
          refine z_icmp_ne (tgt := 70) dX12_see_59 (by decide) (fun c_59 => ?_) (fun c_59 => ?_)
          · exact absurd rfl c_59
          · refine z_aload_n dX12_see_62 rfl ?_
            refine z_iload_n dX12_see_63 rfl ?_
            obtain ⟨j, hj, rfl⟩ := c_23
            obtain ⟨x0, hx0, rfl⟩ := c_x
            have hJ := tn_k (k := j) (by omega)
            have hX := tn_k (k := x0) (by omega)
            obtain ⟨v1, v2, v3, v4⟩ := k1.2.1 j hj
            refine z_callV1i dX12_see_64 kX12_latest lX12_171 (by first | assumption | exact And.left (by assumption)) rfl (s_mLatest hm0 hj (k1.2.1 j hj)) (Nat.le_of_ble_eq_true rfl) (Nat.le_of_ble_eq_true rfl) ⟨Nat.le_of_ble_eq_true rfl, Nat.le_of_ble_eq_true rfl⟩ ?_
            refine z_goto (tgt := 76) dX12_see_67 (by decide) ?_
            refine z_istore dX12_see_76 (Nat.le_of_ble_eq_true rfl) rfl ?_
            have hat : AT (V1 (m + 1)) (40 * j + 5 * ((w.1.2.1 j).length - 1)) (lst w.1.2.1 j).2 := (v4 ((w.1.2.1 j).length - 1) (by omega)).2.2
            have hR : o_see (-1) (nI j) (nI x0) w = (seev (lst w.1.2.1 j).2 x0, w) := by unfold o_see; rw [cif_y ⟨c_v, rng_k hj, rng_k hx0⟩, cif_y (show cvw w (-1) from Or.inl rfl), hJ, hX]; unfold sv; rw [cif_y rfl]
            refine Z.mono (lp_see78 (D := D) (z0 := z0) (nx := nx) hm0 hat (by omega) hx0) ?_
            intro r2 L2 V3 n2 h3
            obtain ⟨g1, g2, g3, g4⟩ := h3
            rw [hR, g3]
            exact ⟨g1, g2, g4, e0, h0⟩
        · exact absurd rfl c_43
      · have c_x : ¬ rng 4 x := fun z => c_35 (by rw [Int32.toInt_toInt64]; exact (rng_i (n := 3) (by decide)).mpr z)
        refine z_bipush (v := (-2)) dX12_see_38 rfl ?_
        refine z_ireturn dX12_see_40 (Nat.le_of_ble_eq_true rfl) (Nat.le_of_ble_eq_true rfl) rfl ?_
        rw [show o_see (-1) r x w = (-2, w) from by unfold o_see; rw [cif_n (fun q => by first | exact c_v q.1 | exact c_23 q.2.1 | exact c_x q.2.2)]]
        exact ⟨rfl, rfl, rfl, e0, h0⟩

set_option maxHeartbeats 4000000 in
set_option maxRecDepth 100000 in
theorem m_seeT {D : zD} {z0 nx : Nat} {L : zL} {V : zV} {m : Nat} {w : Wo} (hm : sM L m) (h : MW V m w) {r x : Int32} {k : Nat} (hk : k < 4) (hfs : ∀ k, k < 4 → (w.1.2.2.1 k).1 = true → ∀ r, r < 48 → (vk (w.1.2.1 r) 0).1 ≤ (w.1.2.2.1 k).2.1) : Sp D z0 5 0 0 mX12_see [.ref m, .int (nI k), .int r, .int x] L V nx (zq (some (.int (o_see (nI k) r x w).1)) L nx (fun V' => zEq V V' m (m + 16) ∧ MW V' m (o_see (nI k) r x w).2)) := by
  have hm0 := hm
  have h0 := h
  obtain ⟨a0, a1, a2, a3, a4, a5, a6, a7, a8, a9, a10, a11, a12, a13, a14, a15⟩ := hm
  refine Sp.of 1 (by decide) rfl rfl (Nat.le_of_ble_eq_true rfl) ?_
  refine z_aload_n dX12_see_0 rfl ?_
  refine z_iconst (v := nI 0) dX12_see_1 rfl ?_
  refine z_putI dX12_see_2 fX12_1 (by first | assumption | exact And.left (by assumption)) rfl ?_
  have h9 := MW_thr (x := nI 0) h0
  have e0 : zEq V (zup V m 0 (nI 0)) m (m + 16) := zEq.rf.up (by omega) (by omega)
  generalize zup V m 0 (nI 0) = V1 at h9 e0 ⊢
  clear h0 h
  have h0 := h9
  obtain ⟨k1, k2, k3, k4, k5, k6, k7⟩ := h9
  refine z_iload_n dX12_see_5 rfl ?_
  refine z_i2l dX12_see_6 ?_
  refine z_ldc2 dX12_see_7 qX12_205 ?_
  refine z_ldc2 dX12_see_10 qX12_84 ?_
  refine z_callS3i dX12_see_13 kX12_isIn lX12_86 (s_isIn (v := (nI k : Int32).toInt64)) (Nat.le_of_ble_eq_true rfl) (Nat.le_of_ble_eq_true rfl) ⟨Nat.le_of_ble_eq_true rfl, Nat.le_of_ble_eq_true rfl⟩ ?_
  refine z_if_eqB (tgt := 38) dX12_see_16 (by decide) (fun c_16 => ?_) (fun c_16 => ?_)
  · have c_v : ¬ vwr (nI k) := fun z => c_16 (by rw [Int32.toInt_toInt64]; exact vwr_i.mpr z)
    refine z_bipush (v := (-2)) dX12_see_38 rfl ?_
    refine z_ireturn dX12_see_40 (Nat.le_of_ble_eq_true rfl) (Nat.le_of_ble_eq_true rfl) rfl ?_
    rw [show o_see (nI k) r x w = (-2, w) from by unfold o_see; rw [cif_n (fun q => by first | exact c_v q.1 | exact c_23 q.2.1 | exact c_x q.2.2)]]
    exact ⟨rfl, rfl, rfl, e0, h0⟩
  · have c_v : vwr (nI k) := vwr_i.mp (by rw [Int32.toInt_toInt64] at c_16; exact c_16)
    refine z_iload_n dX12_see_19 rfl ?_
    refine z_callS1i dX12_see_20 kX12_isRow lX12_155 s_mRow (Nat.le_of_ble_eq_true rfl) (Nat.le_of_ble_eq_true rfl) ⟨Nat.le_of_ble_eq_true rfl, Nat.le_of_ble_eq_true rfl⟩ ?_
    refine z_if_eqB (tgt := 38) dX12_see_23 (by decide) (fun c_23 => ?_) (fun c_23 => ?_)
    · refine z_bipush (v := (-2)) dX12_see_38 rfl ?_
      refine z_ireturn dX12_see_40 (Nat.le_of_ble_eq_true rfl) (Nat.le_of_ble_eq_true rfl) rfl ?_
      rw [show o_see (nI k) r x w = (-2, w) from by unfold o_see; rw [cif_n (fun q => by first | exact c_v q.1 | exact c_23 q.2.1 | exact c_x q.2.2)]]
      exact ⟨rfl, rfl, rfl, e0, h0⟩
    · refine z_iload_n dX12_see_26 rfl ?_
      refine z_i2l dX12_see_27 ?_
      refine z_lconst dX12_see_28 rfl ?_
      refine z_ldc2 dX12_see_29 qX12_84 ?_
      refine z_callS3i dX12_see_32 kX12_isIn lX12_86 (s_isIn (v := x.toInt64)) (Nat.le_of_ble_eq_true rfl) (Nat.le_of_ble_eq_true rfl) ⟨Nat.le_of_ble_eq_true rfl, Nat.le_of_ble_eq_true rfl⟩ ?_
      refine z_if_neB (tgt := 41) dX12_see_35 (by decide) (fun c_35 => ?_) (fun c_35 => ?_)
      · have c_x : rng 4 x := (rng_i (n := 3) (by decide)).mp (by rw [Int32.toInt_toInt64] at c_35; exact c_35)
        refine z_iload_n dX12_see_41 rfl ?_
        refine z_iconst (v := (-1)) dX12_see_42 rfl ?_
        refine z_icmp_eq (tgt := 57) dX12_see_43 (by decide) (fun c_43 => ?_) (fun c_43 => ?_)
        · exact absurd c_43 (nI_ne_m1 (by omega))
        · refine z_aload_n dX12_see_46 rfl ?_
          refine z_iload_n dX12_see_47 rfl ?_
          have hT0 := k1.2.2.1 k hk
          have hT := tn_k (k := k) (by omega)
          refine z_callV1i dX12_see_48 kX12_isOpen lX12_149 (by first | assumption | exact And.left (by assumption)) rfl (s_mOpen hm0 hk hT0) (Nat.le_of_ble_eq_true rfl) (Nat.le_of_ble_eq_true rfl) ⟨Nat.le_of_ble_eq_true rfl, Nat.le_of_ble_eq_true rfl⟩ ?_
          refine z_if_neB (tgt := 57) dX12_see_51 (by decide) (fun c_51 => ?_) (fun c_51 => ?_)
          · refine z_iload_n dX12_see_57 rfl ?_
            refine z_iconst (v := (-1)) dX12_see_58 rfl ?_
            refine z_icmp_ne (tgt := 70) dX12_see_59 (by decide) (fun c_59 => ?_) (fun c_59 => ?_)
            · refine z_aload_n dX12_see_70 rfl ?_
              refine z_iload_n dX12_see_71 rfl ?_
              refine z_iload_n dX12_see_72 rfl ?_
              obtain ⟨j, hj, rfl⟩ := c_23
              obtain ⟨x0, hx0, rfl⟩ := c_x
              have hJ := tn_k (k := j) (by omega)
              have hX := tn_k (k := x0) (by omega)
              obtain ⟨v1, v2, v3, v4⟩ := k1.2.1 j hj
              obtain ⟨x1, x2, x3, ws, xw⟩ := k1.2.2.1 k hk
              have hxv := k1.2.1 j hj
              have hsl := sap_lt (sn := (w.1.2.2.1 k).2.1) hk hj xw.2.1 hxv.2.1 hxv.2.2.1
              refine z_callV2i dX12_see_73 kX12_seenAt lX12_168 (by first | assumption | exact And.left (by assumption)) rfl (s_mSeen hm0 hk hj xw hxv x2 x3) (Nat.le_of_ble_eq_true rfl) (Nat.le_of_ble_eq_true rfl) ⟨Nat.le_of_ble_eq_true rfl, Nat.le_of_ble_eq_true rfl⟩ ?_
              refine z_istore dX12_see_76 (Nat.le_of_ble_eq_true rfl) rfl ?_
              have hat := see_at k1 hj xw (hfs k hk c_51 j hj)
              have hR : o_see (nI k) (nI j) (nI x0) w = (seev (seen w.1 k j) x0, w) := by unfold o_see; rw [cif_y ⟨c_v, rng_k hj, rng_k hx0⟩, cif_y (show cvw w (nI k) from Or.inr ⟨rng_k hk, (opn_k hk).mpr c_51⟩), hJ, hX]; unfold sv; rw [cif_n (nI_ne_m1 (by omega)), hT]
              refine Z.mono (lp_see78 (D := D) (z0 := z0) (nx := nx) hm0 hat (by omega) hx0) ?_
              intro r2 L2 V3 n2 h3
              obtain ⟨g1, g2, g3, g4⟩ := h3
              rw [hR, g3]
              exact ⟨g1, g2, g4, e0, h0⟩
            · exact absurd c_59 (nI_ne_m1 (by omega))
          · refine z_bipush (v := (-5)) dX12_see_54 rfl ?_
            refine z_ireturn dX12_see_56 (Nat.le_of_ble_eq_true rfl) (Nat.le_of_ble_eq_true rfl) rfl ?_
            rw [show o_see (nI k) r x w = (-5, w) from by unfold o_see; rw [cif_y ⟨c_v, c_23, c_x⟩]; rw [cif_n (fun q => q.elim (nI_ne_m1 (by omega)) (fun z => c_51 ((opn_k hk).mp z.2)))]]
            exact ⟨rfl, rfl, rfl, e0, h0⟩
      · have c_x : ¬ rng 4 x := fun z => c_35 (by rw [Int32.toInt_toInt64]; exact (rng_i (n := 3) (by decide)).mpr z)
        refine z_bipush (v := (-2)) dX12_see_38 rfl ?_
        refine z_ireturn dX12_see_40 (Nat.le_of_ble_eq_true rfl) (Nat.le_of_ble_eq_true rfl) rfl ?_
        rw [show o_see (nI k) r x w = (-2, w) from by unfold o_see; rw [cif_n (fun q => by first | exact c_v q.1 | exact c_23 q.2.1 | exact c_x q.2.2)]]
        exact ⟨rfl, rfl, rfl, e0, h0⟩

set_option maxHeartbeats 4000000 in
set_option maxRecDepth 100000 in
theorem m_seeX {D : zD} {z0 nx : Nat} {L : zL} {V : zV} {m : Nat} {w : Wo} (hm : sM L m) (h : MW V m w) {r x : Int32} {t : Int32} (hx : ¬ vwr t) (hfs : ∀ k, k < 4 → (w.1.2.2.1 k).1 = true → ∀ r, r < 48 → (vk (w.1.2.1 r) 0).1 ≤ (w.1.2.2.1 k).2.1) : Sp D z0 5 0 0 mX12_see [.ref m, .int (t), .int r, .int x] L V nx (zq (some (.int (o_see (t) r x w).1)) L nx (fun V' => zEq V V' m (m + 16) ∧ MW V' m (o_see (t) r x w).2)) := by
  have hm0 := hm
  have h0 := h
  obtain ⟨a0, a1, a2, a3, a4, a5, a6, a7, a8, a9, a10, a11, a12, a13, a14, a15⟩ := hm
  refine Sp.of 1 (by decide) rfl rfl (Nat.le_of_ble_eq_true rfl) ?_
  refine z_aload_n dX12_see_0 rfl ?_
  refine z_iconst (v := nI 0) dX12_see_1 rfl ?_
  refine z_putI dX12_see_2 fX12_1 (by first | assumption | exact And.left (by assumption)) rfl ?_
  have h9 := MW_thr (x := nI 0) h0
  have e0 : zEq V (zup V m 0 (nI 0)) m (m + 16) := zEq.rf.up (by omega) (by omega)
  generalize zup V m 0 (nI 0) = V1 at h9 e0 ⊢
  clear h0 h
  have h0 := h9
  obtain ⟨k1, k2, k3, k4, k5, k6, k7⟩ := h9
  refine z_iload_n dX12_see_5 rfl ?_
  refine z_i2l dX12_see_6 ?_
  refine z_ldc2 dX12_see_7 qX12_205 ?_
  refine z_ldc2 dX12_see_10 qX12_84 ?_
  refine z_callS3i dX12_see_13 kX12_isIn lX12_86 (s_isIn (v := (t : Int32).toInt64)) (Nat.le_of_ble_eq_true rfl) (Nat.le_of_ble_eq_true rfl) ⟨Nat.le_of_ble_eq_true rfl, Nat.le_of_ble_eq_true rfl⟩ ?_
  refine z_if_eqB (tgt := 38) dX12_see_16 (by decide) (fun c_16 => ?_) (fun c_16 => ?_)
  · have c_v := hx
    refine z_bipush (v := (-2)) dX12_see_38 rfl ?_
    refine z_ireturn dX12_see_40 (Nat.le_of_ble_eq_true rfl) (Nat.le_of_ble_eq_true rfl) rfl ?_
    rw [show o_see (t) r x w = (-2, w) from by unfold o_see; rw [cif_n (fun q => by first | exact c_v q.1 | exact c_23 q.2.1 | exact c_x q.2.2)]]
    exact ⟨rfl, rfl, rfl, e0, h0⟩
  · exact absurd (vwr_i.mp (by rw [Int32.toInt_toInt64] at c_16; exact c_16)) hx

theorem m_see {D : zD} {z0 nx : Nat} {L : zL} {V : zV} {m : Nat} {w : Wo} (hm : sM L m) (h : MW V m w) {t r x : Int32} (hfs : ∀ k, k < 4 → (w.1.2.2.1 k).1 = true → ∀ r, r < 48 → (vk (w.1.2.1 r) 0).1 ≤ (w.1.2.2.1 k).2.1) : Sp D z0 5 0 0 mX12_see [.ref m, .int t, .int r, .int x] L V nx (zq (some (.int (o_see t r x w).1)) L nx (fun V' => zEq V V' m (m + 16) ∧ MW V' m (o_see t r x w).2)) := by
  by_cases h1 : vwr t
  · rcases h1 with rfl | ⟨k, hk, rfl⟩
    · exact m_seeN hm h hfs
    · exact m_seeT hm h hk hfs
  · exact m_seeX hm h h1 hfs

