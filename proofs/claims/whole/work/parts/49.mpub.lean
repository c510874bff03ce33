/-! the reference: the calls about transactions -/
set_option maxHeartbeats 4000000 in
set_option maxRecDepth 100000 in
theorem m_begin {D : zD} {z0 nx : Nat} {L : zL} {V : zV} {m : Nat} {w : Wo} (hm : sM L m) (h : MW V m w) {t : Int32} (hcl : ∀ k, k < 4 → ¬ (w.1.2.2.1 k).1 = true → (tof w k).2.2 = fun _ => none) : Sp D z0 3 0 0 mX12_begin [.ref m, .int t] L V nx (zq (some (.int (o_begin t w).1)) L nx (fun V' => zEq V V' m (m + 16) ∧ MW V' m (o_begin t w).2)) := by
  have hm0 := hm
  have h0 := h
  obtain ⟨a0, a1, a2, a3, a4, a5, a6, a7, a8, a9, a10, a11, a12, a13, a14, a15⟩ := hm
  refine Sp.of 1 (by decide) rfl rfl (Nat.le_of_ble_eq_true rfl) ?_
  refine z_aload_n dX12_begin_0 rfl ?_
  refine z_iconst (v := nI 0) dX12_begin_1 rfl ?_
  refine z_putI dX12_begin_2 fX12_1 (by first | assumption | exact And.left (by assumption)) rfl ?_
  have h9 := MW_thr (x := nI 0) h0
  have e0 : zEq V (zup V m 0 (nI 0)) m (m + 16) := zEq.rf.up (by omega) (by omega)
  generalize zup V m 0 (nI 0) = V1 at h9 e0 ⊢
  clear h0 h
  have h0 := h9
  obtain ⟨k1, k2, k3, k4, k5, k6, k7⟩ := h9
  refine z_iload_n dX12_begin_5 rfl ?_
  refine z_callS1i dX12_begin_6 kX12_isTransaction lX12_145 s_mT (Nat.le_of_ble_eq_true rfl) (Nat.le_of_ble_eq_true rfl) ⟨Nat.le_of_ble_eq_true rfl, Nat.le_of_ble_eq_true rfl⟩ ?_
  refine z_if_neB (tgt := 15) dX12_begin_9 (by decide) (fun c_9 => ?_) (fun c_9 => ?_)
  · obtain ⟨k, hk, rfl⟩ := c_9
    have hT := tn_k (k := k) (by omega)
    have hT0 := k1.2.2.1 k hk
    obtain ⟨x1, x2, x3, ws, xw⟩ := k1.2.2.1 k hk
    have xw0 := xw
    obtain ⟨w1, w2, w3, w4, w5, w6⟩ := xw
    refine z_aload_n dX12_begin_15 rfl ?_
    refine z_iload_n dX12_begin_16 rfl ?_
    refine z_callV1i dX12_begin_17 kX12_isOpen lX12_149 (by first | assumption | exact And.left (by assumption)) rfl (s_mOpen hm0 hk hT0) (Nat.le_of_ble_eq_true rfl) (Nat.le_of_ble_eq_true rfl) ⟨Nat.le_of_ble_eq_true rfl, Nat.le_of_ble_eq_true rfl⟩ ?_
    refine z_if_eqB (tgt := 26) dX12_begin_20 (by decide) (fun c_20 => ?_) (fun c_20 => ?_)
    · refine z_aload_n dX12_begin_26 rfl ?_
      refine z_callV0w dX12_begin_27 kX12_notes lX12_152 (by first | assumption | exact And.left (by assumption)) rfl (s_notes hm0 h0) (Nat.le_of_ble_eq_true rfl) (Nat.le_of_ble_eq_true rfl) ⟨Nat.le_of_ble_eq_true rfl, Nat.le_of_ble_eq_true rfl⟩ ?_
      intro V2 hV2
      obtain ⟨e2, f2, f3, h2⟩ := hV2
      obtain ⟨j1, j2, j3, j4, j5, j6, j7⟩ := id h2
      have j1 : MB (V2 (m + 1)) w.1 := j1
      have e3 := e0.trans e2
      have g5 := j1.1.1
      refine z_sipush (v := nI 1968) dX12_begin_30 rfl ?_
      refine z_bipush (v := nI 43) dX12_begin_33 rfl ?_
      refine z_iload_n dX12_begin_35 rfl ?_
      refine z_mulN dX12_begin_36 ?_
      refine z_addN dX12_begin_37 ?_
      refine z_istore_n dX12_begin_38 (Nat.le_of_ble_eq_true rfl) rfl ?_
      refine z_aload_n dX12_begin_39 rfl ?_
      refine z_getR dX12_begin_40 fX12_13 (by first | assumption | exact And.left (by assumption)) rfl ?_
      refine z_iload_n dX12_begin_43 rfl ?_
      refine z_iconst (v := nI 0) dX12_begin_44 rfl ?_
      refine z_addN dX12_begin_45 ?_
      refine z_iconst (v := nI 1) dX12_begin_46 rfl ?_
      refine z_iastN dX12_begin_47 (by first | assumption | exact And.left (by assumption)) (by omega) (by decide) ?_
      refine z_aload_n dX12_begin_48 rfl ?_
      refine z_getR dX12_begin_49 fX12_13 (by first | assumption | exact And.left (by assumption)) rfl ?_
      refine z_iload_n dX12_begin_52 rfl ?_
      refine z_iconst (v := nI 1) dX12_begin_53 rfl ?_
      refine z_addN dX12_begin_54 ?_
      refine z_aload_n dX12_begin_55 rfl ?_
      refine z_getR dX12_begin_56 fX12_13 (by first | assumption | exact And.left (by assumption)) rfl ?_
      refine z_sipush (v := nI 5340) dX12_begin_59 rfl ?_
      refine z_ialdN dX12_begin_62 (by first | assumption | exact And.left (by assumption)) (by omega) (by decide) ((zup_k (by omega)).trans g5) ?_
      refine z_iastN dX12_begin_63 (by first | assumption | exact And.left (by assumption)) (by omega) (by decide) ?_
      refine z_aload_n dX12_begin_64 rfl ?_
      refine z_getR dX12_begin_65 fX12_13 (by first | assumption | exact And.left (by assumption)) rfl ?_
      refine z_iload_n dX12_begin_68 rfl ?_
      refine z_iconst (v := nI 2) dX12_begin_69 rfl ?_
      refine z_addN dX12_begin_70 ?_
      refine z_iconst (v := nI 0) dX12_begin_71 rfl ?_
      refine z_iastN dX12_begin_72 (by first | assumption | exact And.left (by assumption)) (by omega) (by decide) ?_
      refine z_aload_n dX12_begin_73 rfl ?_
      refine z_getR dX12_begin_74 fX12_13 (by first | assumption | exact And.left (by assumption)) rfl ?_
      refine z_sipush (v := nI 5340) dX12_begin_77 rfl ?_
      refine z_ialdN dX12_begin_80 (by first | assumption | exact And.left (by assumption)) (by omega) (by decide) ((zup_k (by omega)).trans ((zup_k (by omega)).trans ((zup_k (by omega)).trans g5))) ?_
      refine z_ireturn dX12_begin_81 (Nat.le_of_ble_eq_true rfl) (Nat.le_of_ble_eq_true rfl) rfl ?_
      rw [show o_begin (nI k) w = (nI w.1.1.1, wst w (setT w.1 k (true, w.1.1.1, fun _ => none))) from by unfold o_begin; rw [cif_y (rng_k hk), cif_n (fun q => c_20 ((opn_k hk).mp q)), hT, hcl k hk c_20]]
      refine ⟨rfl, rfl, rfl, ((e3.up (by omega) (by omega)).up (by omega) (by omega)).up (by omega) (by omega), MW_all h2 (((oA.rf.up (by omega)).up (by omega)).up (by omega)) (MB_tr j1 hk (fun j j1 j2 => ?_) (fun j j1 j2 => ?_) (MT_new ?_ ?_ (by have := j1.1.2.2.2.1; omega) ?_))⟩
      · repeat (rw [zup_k (by omega)])
      · repeat (rw [zup_k (by omega)])
      · rw [zb_t rfl]
        repeat (first | rw [zup_s] | rw [zup_k (by omega)])
        rfl
      · repeat (first | rw [zup_s] | rw [zup_k (by omega)])
      · repeat (first | rw [zup_s] | rw [zup_k (by omega)])
    · refine z_bipush (v := (-5)) dX12_begin_23 rfl ?_
      refine z_ireturn dX12_begin_25 (Nat.le_of_ble_eq_true rfl) (Nat.le_of_ble_eq_true rfl) rfl ?_
      rw [show o_begin (nI k) w = (-5, w) from by unfold o_begin; rw [cif_y (rng_k hk)]; rw [cif_y ((opn_k hk).mpr c_20)]]
      exact ⟨rfl, rfl, rfl, e0, h0⟩
  · refine z_bipush (v := (-2)) dX12_begin_12 rfl ?_
    refine z_ireturn dX12_begin_14 (Nat.le_of_ble_eq_true rfl) (Nat.le_of_ble_eq_true rfl) rfl ?_
    rw [show o_begin t w = (-2, w) from by unfold o_begin; rw [cif_n c_9]]
    exact ⟨rfl, rfl, rfl, e0, h0⟩

theorem vrg_3 {x y z : Nat} (hx : x < 100) (hy : y < 100) (hz : z < 100) : vrg (some ((x * 100 + y) * 100 + z)) (nI 1) (nI x) (nI y) (nI z) := by
  obtain ⟨p1, p2, p3⟩ := pt_cat hx hy hz
  exact ⟨rfl, by omega, by rw [p1], by rw [p2], by rw [p3]⟩
theorem room_of {w : Wo} {k j : Nat} (hk : k < 4) (hj : j < 48) (h : rfw (nI k) (nI j) w = 0) : (w.1.2.2.1 k).1 = true ∧ room w k j := by
  unfold rfw at h
  rw [cif_y ⟨rng_k hk, rng_k hj⟩] at h
  by_cases c1 : opn w (nI k)
  · rw [cif_y c1, tn_k (k := k) (by omega), tn_k (k := j) (by omega)] at h
    by_cases c2 : room w k j
    · exact ⟨(opn_k hk).mp c1, c2⟩
    · rw [cif_n c2] at h
      exact absurd h (by decide)
  · rw [cif_n c1] at h
    exact absurd h (by decide)

set_option maxHeartbeats 4000000 in
set_option maxRecDepth 100000 in
theorem m_put {D : zD} {z0 nx : Nat} {L : zL} {V : zV} {m : Nat} {w : Wo} (hm : sM L m) (h : MW V m w) {t : Int32} {r : Int32} {x : Int32} {y : Int32} {z : Int32} : Sp D z0 4 0 0 mX12_put [.ref m, .int t, .int r, .int x, .int y, .int z] L V nx (zq (some (.int (o_put t r x y z w).1)) L nx (fun V' => zEq V V' m (m + 16) ∧ MW V' m (o_put t r x y z w).2)) := by
  have hm0 := hm
  have h0 := h
  obtain ⟨a0, a1, a2, a3, a4, a5, a6, a7, a8, a9, a10, a11, a12, a13, a14, a15⟩ := hm
  refine Sp.of 1 (by decide) rfl rfl (Nat.le_of_ble_eq_true rfl) ?_
  refine z_aload_n dX12_put_0 rfl ?_
  refine z_iconst (v := nI 0) dX12_put_1 rfl ?_
  refine z_putI dX12_put_2 fX12_1 (by first | assumption | exact And.left (by assumption)) rfl ?_
  have h9 := MW_thr (x := nI 0) h0
  have e0 : zEq V (zup V m 0 (nI 0)) m (m + 16) := zEq.rf.up (by omega) (by omega)
  generalize zup V m 0 (nI 0) = V1 at h9 e0 ⊢
  clear h0 h
  have h0 := h9
  obtain ⟨k1, k2, k3, k4, k5, k6, k7⟩ := h9
  refine z_iload_n dX12_put_5 rfl ?_
  refine z_callS1i dX12_put_6 kX12_isTransaction lX12_145 s_mT (Nat.le_of_ble_eq_true rfl) (Nat.le_of_ble_eq_true rfl) ⟨Nat.le_of_ble_eq_true rfl, Nat.le_of_ble_eq_true rfl⟩ ?_
  refine z_if_eqB (tgt := 19) dX12_put_9 (by decide) (fun c_9 => ?_) (fun c_9 => ?_)
  · refine z_bipush (v := (-2)) dX12_put_19 rfl ?_
    refine z_ireturn dX12_put_21 (Nat.le_of_ble_eq_true rfl) (Nat.le_of_ble_eq_true rfl) rfl ?_
    rw [show o_put t r x y z w = (-2, w) from by unfold o_put; rw [cif_n (fun q => by first | exact c_9 q.1 | exact c_16 q.2)]]
    exact ⟨rfl, rfl, rfl, e0, h0⟩
  · refine z_iload_n dX12_put_12 rfl ?_
    refine z_callS1i dX12_put_13 kX12_isRow lX12_155 s_mRow (Nat.le_of_ble_eq_true rfl) (Nat.le_of_ble_eq_true rfl) ⟨Nat.le_of_ble_eq_true rfl, Nat.le_of_ble_eq_true rfl⟩ ?_
    refine z_if_neB (tgt := 22) dX12_put_16 (by decide) (fun c_16 => ?_) (fun c_16 => ?_)
    · refine z_iload_n dX12_put_22 rfl ?_
      refine z_callS1i dX12_put_23 kX12_isValue lX12_158 s_mVal (Nat.le_of_ble_eq_true rfl) (Nat.le_of_ble_eq_true rfl) ⟨Nat.le_of_ble_eq_true rfl, Nat.le_of_ble_eq_true rfl⟩ ?_
      refine z_if_eqB (tgt := 45) dX12_put_26 (by decide) (fun c_26 => ?_) (fun c_26 => ?_)
      · refine z_bipush (v := (-3)) dX12_put_45 rfl ?_
        refine z_ireturn dX12_put_47 (Nat.le_of_ble_eq_true rfl) (Nat.le_of_ble_eq_true rfl) rfl ?_
        rw [show o_put t r x y z w = (-3, w) from by unfold o_put; rw [cif_y ⟨c_9, c_16⟩]; rw [cif_n (fun q => by first | exact c_26 q.1 | exact c_34 q.2.1 | exact c_42 q.2.2)]]
        exact ⟨rfl, rfl, rfl, e0, h0⟩
      · refine z_iload dX12_put_29 rfl ?_
        refine z_callS1i dX12_put_31 kX12_isValue lX12_158 s_mVal (Nat.le_of_ble_eq_true rfl) (Nat.le_of_ble_eq_true rfl) ⟨Nat.le_of_ble_eq_true rfl, Nat.le_of_ble_eq_true rfl⟩ ?_
        refine z_if_eqB (tgt := 45) dX12_put_34 (by decide) (fun c_34 => ?_) (fun c_34 => ?_)
        · refine z_bipush (v := (-3)) dX12_put_45 rfl ?_
          refine z_ireturn dX12_put_47 (Nat.le_of_ble_eq_true rfl) (Nat.le_of_ble_eq_true rfl) rfl ?_
          rw [show o_put t r x y z w = (-3, w) from by unfold o_put; rw [cif_y ⟨c_9, c_16⟩]; rw [cif_n (fun q => by first | exact c_26 q.1 | exact c_34 q.2.1 | exact c_42 q.2.2)]]
          exact ⟨rfl, rfl, rfl, e0, h0⟩
        · refine z_iload dX12_put_37 rfl ?_
          refine z_callS1i dX12_put_39 kX12_isValue lX12_158 s_mVal (Nat.le_of_ble_eq_true rfl) (Nat.le_of_ble_eq_true rfl) ⟨Nat.le_of_ble_eq_true rfl, Nat.le_of_ble_eq_true rfl⟩ ?_
          refine z_if_neB (tgt := 48) dX12_put_42 (by decide) (fun c_42 => ?_) (fun c_42 => ?_)
          · 
            refine z_aload_n dX12_put_48 rfl ?_
            refine z_iload_n dX12_put_49 rfl ?_
            refine z_iload_n dX12_put_50 rfl ?_
            obtain ⟨j, hj, rfl⟩ := c_16
            obtain ⟨k, hk, rfl⟩ := c_9
            have hT := tn_k (k := k) (by omega)
            have hT0 := k1.2.2.1 k hk
            obtain ⟨x1, x2, x3, ws, xw⟩ := k1.2.2.1 k hk
            have xw0 := xw
            obtain ⟨w1, w2, w3, w4, w5, w6⟩ := xw
            have hJ := tn_k (k := j) (by omega)
            refine z_callV2i dX12_put_51 kX12_refuses lX12_161 (by first | assumption | exact And.left (by assumption)) rfl (s_mRef hm0 k1 hk hj) (Nat.le_of_ble_eq_true rfl) (Nat.le_of_ble_eq_true rfl) ⟨Nat.le_of_ble_eq_true rfl, Nat.le_of_ble_eq_true rfl⟩ ?_
            refine z_istore dX12_put_54 (Nat.le_of_ble_eq_true rfl) rfl ?_
            refine z_iload dX12_put_56 rfl ?_
            refine z_if_eq (tgt := 64) dX12_put_58 (by decide) (fun cc => ?_) (fun cc => ?_)
            · refine z_aload_n dX12_put_64 rfl ?_
              have hR : o_put (nI k) (nI j) x y z w = (nI (nwr (tWr (tof w k) j (some ((tn x * 100 + tn y) * 100 + tn z)))), wst w (setT w.1 k (tWr (tof w k) j (some ((tn x * 100 + tn y) * 100 + tn z))))) := by unfold o_put; rw [cif_y ⟨rng_k hk, rng_k hj⟩, cif_y ⟨c_26, c_34, c_42⟩, cif_y cc, hT, hJ]
              obtain ⟨x0, hx0, rfl⟩ := c_26
              obtain ⟨y0, hy0, rfl⟩ := c_34
              obtain ⟨z1, hz1, rfl⟩ := c_42
              rw [tn_k (k := x0) (by omega), tn_k (k := y0) (by omega), tn_k (k := z1) (by omega)] at hR
              refine z_callV0w dX12_put_65 kX12_notes lX12_152 (by first | assumption | exact And.left (by assumption)) rfl (s_notes hm0 h0) (Nat.le_of_ble_eq_true rfl) (Nat.le_of_ble_eq_true rfl) ⟨Nat.le_of_ble_eq_true rfl, Nat.le_of_ble_eq_true rfl⟩ ?_
              intro V2 hV2
              obtain ⟨e2, f2, f3, h2⟩ := hV2
              obtain ⟨j1, j2, j3, j4, j5, j6, j7⟩ := id h2
              have j1 : MB (V2 (m + 1)) w.1 := j1
              have e3 := e0.trans e2
              refine z_aload_n dX12_put_68 rfl ?_
              refine z_iload_n dX12_put_69 rfl ?_
              refine z_iload_n dX12_put_70 rfl ?_
              refine z_iconst (v := nI 1) dX12_put_71 rfl ?_
              refine z_iload_n dX12_put_72 rfl ?_
              refine z_iload dX12_put_73 rfl ?_
              refine z_iload dX12_put_75 rfl ?_
              refine z_callV6w dX12_put_77 kX12_writes lX12_164 (by first | assumption | exact And.left (by assumption)) rfl (s_mWrites (v := some ((x0 * 100 + y0) * 100 + z1)) hm0 j1 hk hj (vrg_3 hx0 hy0 hz1) (room_of hk hj cc).2) (Nat.le_of_ble_eq_true rfl) (Nat.le_of_ble_eq_true rfl) ⟨Nat.le_of_ble_eq_true rfl, Nat.le_of_ble_eq_true rfl⟩ ?_
              intro V3 hV3
              obtain ⟨b1, b2, b3, ws2, bw⟩ := hV3.2.2.2.1 k hk
              have b4 : nwr (tWr (tof w k) j (some ((x0 * 100 + y0) * 100 + z1))) = ws2.length := by
                have := bw.2.2.1
                rw [show (setT w.1 k (tWr (w.1.2.2.1 k) j (some ((x0 * 100 + y0) * 100 + z1)))).2.2.1 k = tWr (w.1.2.2.1 k) j (some ((x0 * 100 + y0) * 100 + z1)) from up1_s _ _ _] at this
                exact this
              refine z_aload_n dX12_put_80 rfl ?_
              refine z_iload_n dX12_put_81 rfl ?_
              refine z_iconst (v := nI 2) dX12_put_82 rfl ?_
              refine z_callV2i dX12_put_83 kX12_ofTransaction lX12_94 (by first | assumption | exact And.left (by assumption)) rfl (s_ofTr hm0 hk (by omega) bw.1) (Nat.le_of_ble_eq_true rfl) (Nat.le_of_ble_eq_true rfl) ⟨Nat.le_of_ble_eq_true rfl, Nat.le_of_ble_eq_true rfl⟩ ?_
              refine z_ireturn dX12_put_86 (Nat.le_of_ble_eq_true rfl) (Nat.le_of_ble_eq_true rfl) rfl ?_
              rw [hR, b4]
              exact ⟨rfl, rfl, rfl, e3.trans hV3.1.zeq, MW_all h2 hV3.1 hV3.2⟩
            · refine z_iload dX12_put_61 rfl ?_
              refine z_ireturn dX12_put_63 (Nat.le_of_ble_eq_true rfl) (Nat.le_of_ble_eq_true rfl) rfl ?_
              rw [show o_put (nI k) (nI j) x y z w = (rfw (nI k) (nI j) w, w) from by unfold o_put; rw [cif_y ⟨rng_k hk, rng_k hj⟩]; rw [cif_y ⟨c_26, c_34, c_42⟩]; rw [cif_n cc]]
              exact ⟨rfl, rfl, rfl, e0, h0⟩
          · refine z_bipush (v := (-3)) dX12_put_45 rfl ?_
            refine z_ireturn dX12_put_47 (Nat.le_of_ble_eq_true rfl) (Nat.le_of_ble_eq_true rfl) rfl ?_
            rw [show o_put t r x y z w = (-3, w) from by unfold o_put; rw [cif_y ⟨c_9, c_16⟩]; rw [cif_n (fun q => by first | exact c_26 q.1 | exact c_34 q.2.1 | exact c_42 q.2.2)]]
            exact ⟨rfl, rfl, rfl, e0, h0⟩
    · refine z_bipush (v := (-2)) dX12_put_19 rfl ?_
      refine z_ireturn dX12_put_21 (Nat.le_of_ble_eq_true rfl) (Nat.le_of_ble_eq_true rfl) rfl ?_
      rw [show o_put t r x y z w = (-2, w) from by unfold o_put; rw [cif_n (fun q => by first | exact c_9 q.1 | exact c_16 q.2)]]
      exact ⟨rfl, rfl, rfl, e0, h0⟩

