/-! the reference: what is told of indexes; terms; counts -/
set_option maxHeartbeats 4000000 in
set_option maxRecDepth 100000 in
theorem s_mPart {D : zD} {z0 nx : Nat} {L : zL} {V : zV} {m i p r x : Nat} {d : Df} (hm : sM L m) (hi : i < 2) (hd : MXd (V (m + 1)) (2140 + 1600 * i) d) (hb : Dfb d) (hp : p + 3 ≤ 5343) (hk : MK (V (m + 1)) p d r) (hx : x < 3) (hr : r < 1000000) : Sp D z0 2 0 0 mX12_partOf [.ref m, .int (nI i), .int (nI p), .int (nI x)] L V nx (zi (if x < d.1.length then nI (kr d r x) else -1) L V nx) := by
  have hm0 := hm
  obtain ⟨a0, a1, a2, a3, a4, a5, a6, a7, a8, a9, a10, a11, a12, a13, a14, a15⟩ := hm
  have d2 := hd.2.1
  have b1 := hb.1
  refine Sp.of 0 (by decide) rfl rfl (Nat.le_of_ble_eq_true rfl) ?_
  refine z_iload_n dX12_partOf_0 rfl ?_
  refine z_aload_n dX12_partOf_1 rfl ?_
  refine z_iload_n dX12_partOf_2 rfl ?_
  refine z_iconst (v := nI 5) dX12_partOf_3 rfl ?_
  refine z_callV2i dX12_partOf_4 kX12_ofIndex lX12_104 (by first | assumption | exact And.left (by assumption)) rfl (s_ofIx hm0 hi (by omega) d2) (Nat.le_of_ble_eq_true rfl) (Nat.le_of_ble_eq_true rfl) ⟨Nat.le_of_ble_eq_true rfl, Nat.le_of_ble_eq_true rfl⟩ ?_
  refine z_icmp_geN (tgt := 21) dX12_partOf_7 (by decide) (by omega) (by omega) (fun c_7 => ?_) (fun c_7 => ?_)
  · refine z_iconst (v := (-1)) dX12_partOf_21 rfl ?_
    refine z_ireturn dX12_partOf_22 (Nat.le_of_ble_eq_true rfl) (Nat.le_of_ble_eq_true rfl) rfl ?_
    first
      | exact zi_r (by rw [if_pos (by omega)])
      | exact zi_r (by rw [if_neg (by omega)])
  · refine z_aload_n dX12_partOf_10 rfl ?_
    refine z_getR dX12_partOf_11 fX12_13 (by first | assumption | exact And.left (by assumption)) rfl ?_
    refine z_iload_n dX12_partOf_14 rfl ?_
    refine z_iload_n dX12_partOf_15 rfl ?_
    refine z_addN dX12_partOf_16 ?_
    refine z_ialdN dX12_partOf_17 (by first | assumption | exact And.left (by assumption)) (by omega) (by decide) (hk x (by omega)) ?_
    refine z_goto (tgt := 22) dX12_partOf_18 (by decide) ?_
    refine z_ireturn dX12_partOf_22 (Nat.le_of_ble_eq_true rfl) (Nat.le_of_ble_eq_true rfl) rfl ?_
    first
      | exact zi_r (by rw [if_pos (by omega)])
      | exact zi_r (by rw [if_neg (by omega)])

theorem pe_kr {d : Df} {c w : Nat} (h : ¬ w = 0) : pe d c w = (if w - 1 < d.1.length then nI (kr d (c / 64) (w - 1)) else -1) := by
  unfold pe kr
  rw [if_neg h]
  by_cases e : w ≤ d.1.length
  · rw [if_pos e, if_pos (by omega)]
  · rw [if_neg e, if_neg (by omega)]

set_option maxHeartbeats 4000000 in
set_option maxRecDepth 100000 in
theorem m_entry {D : zD} {z0 nx : Nat} {L : zL} {V : zV} {m : Nat} {w : Wo} (hm : sM L m) (h : MW V m w) {i : Int32} {k : Int32} {x : Int32} : Sp D z0 4 0 0 mX12_entry [.ref m, .int i, .int k, .int x] L V nx (zq (some (.int (o_entry i k x w).1)) L nx (fun V' => zEq V V' m (m + 16) ∧ MW V' m (o_entry i k x w).2)) := by
  have hm0 := hm
  have h0 := h
  obtain ⟨a0, a1, a2, a3, a4, a5, a6, a7, a8, a9, a10, a11, a12, a13, a14, a15⟩ := hm
  refine Sp.of 0 (by decide) rfl rfl (Nat.le_of_ble_eq_true rfl) ?_
  refine z_aload_n dX12_entry_0 rfl ?_
  refine z_iconst (v := nI 0) dX12_entry_1 rfl ?_
  refine z_putI dX12_entry_2 fX12_1 (by first | assumption | exact And.left (by assumption)) rfl ?_
  have h9 := MW_thr (x := nI 0) h0
  have e0 : zEq V (zup V m 0 (nI 0)) m (m + 16) := zEq.rf.up (by omega) (by omega)
  generalize zup V m 0 (nI 0) = V1 at h9 e0 ⊢
  clear h0 h
  have h0 := h9
  obtain ⟨k1, k2, k3, k4, k5, k6, k7⟩ := h9
  refine z_iload_n dX12_entry_5 rfl ?_
  refine z_callS1i dX12_entry_6 kX12_isIndex lX12_346 s_mIx (Nat.le_of_ble_eq_true rfl) (Nat.le_of_ble_eq_true rfl) ⟨Nat.le_of_ble_eq_true rfl, Nat.le_of_ble_eq_true rfl⟩ ?_
  refine z_if_eqB (tgt := 24) dX12_entry_9 (by decide) (fun c_9 => ?_) (fun c_9 => ?_)
  · refine z_bipush (v := (-2)) dX12_entry_24 rfl ?_
    refine z_ireturn dX12_entry_26 (Nat.le_of_ble_eq_true rfl) (Nat.le_of_ble_eq_true rfl) rfl ?_
    rw [show o_entry i k x w = (-2, w) from by unfold o_entry; rw [cif_n (fun q => by first | exact c_9 q.1 | exact c_x q.2)]]
    exact ⟨rfl, rfl, rfl, e0, h0⟩
  · refine z_iload_n dX12_entry_12 rfl ?_
    refine z_i2l dX12_entry_13 ?_
    refine z_lconst dX12_entry_14 rfl ?_
    refine z_ldc2 dX12_entry_15 qX12_84 ?_
    refine z_callS3i dX12_entry_18 kX12_isIn lX12_86 (s_isIn (v := x.toInt64)) (Nat.le_of_ble_eq_true rfl) (Nat.le_of_ble_eq_true rfl) ⟨Nat.le_of_ble_eq_true rfl, Nat.le_of_ble_eq_true rfl⟩ ?_
    refine z_if_neB (tgt := 27) dX12_entry_21 (by decide) (fun c_21 => ?_) (fun c_21 => ?_)
    · have c_x : rng 4 x := (rng_i (n := 3) (by decide)).mp (by rw [Int32.toInt_toInt64] at c_21; exact c_21)
      refine z_iload_n dX12_entry_27 rfl ?_
      refine z_if_ge (tgt := 34) dX12_entry_28 (by decide) (fun c_28 => ?_) (fun c_28 => ?_)
      · have hge : ¬ k < 0 := Int32.not_lt.mpr c_28
        have hR : o_entry i k x w = cif (rng (xof w (tn i)).2.2.1.length k) (pe (xof w (tn i)).2.1 ((xof w (tn i)).2.2.1.getD (tn k) 0) (tn x), w) (-1, w) := by unfold o_entry; rw [cif_y ⟨c_9, c_x⟩, if_neg hge]
        obtain ⟨hk1, hk2⟩ := nn_k hge
        obtain ⟨i0, hi, rfl⟩ := c_9
        have hT := tn_k (k := i0) (by omega)
        have hX0 := k1.2.2.2 i0 hi
        obtain ⟨x1, x2, x3, x4, x5, x6⟩ := k1.2.2.2 i0 hi
        have hb := x6.2.2.2.2.2.1
        have xb := x6.2.2.2.2.2.2
        have hl48 := xb.1
        obtain ⟨x0i, hx0, rfl⟩ := c_x
        rw [hT, tn_k (k := x0i) (by omega)] at hR
        have g13 := x3.1
        generalize htk : tn k = kk at *
        subst hk1
        refine z_iload_n dX12_entry_34 rfl ?_
        refine z_aload_n dX12_entry_35 rfl ?_
        refine z_iload_n dX12_entry_36 rfl ?_
        refine z_bipush (v := nI 13) dX12_entry_37 rfl ?_
        refine z_callV2i dX12_entry_39 kX12_ofIndex lX12_104 (by first | assumption | exact And.left (by assumption)) rfl (s_ofIx hm0 hi (by omega) g13) (Nat.le_of_ble_eq_true rfl) (Nat.le_of_ble_eq_true rfl) ⟨Nat.le_of_ble_eq_true rfl, Nat.le_of_ble_eq_true rfl⟩ ?_
        refine z_icmp_ltN (tgt := 47) dX12_entry_42 (by decide) (by omega) (by omega) (fun c_42 => ?_) (fun c_42 => ?_)
        · have hRy := cif_y (x := (pe (xof w i0).2.1 ((xof w i0).2.2.1.getD kk 0) x0i, w)) (y := (-1, w)) (show rng (xof w i0).2.2.1.length (nI kk) from ⟨kk, by unfold xof; omega, rfl⟩)
          obtain ⟨e1, e2⟩ := x3.2 kk (by omega)
          have hrv := xb.2.2.2.2.1 _ (mem_getD (l := (w.1.2.2.2 i0).2.2.1) (k := kk) (by omega))
          refine z_iload_n dX12_entry_47 rfl ?_
          refine z_if_neN (tgt := 65) dX12_entry_48 (by decide) (by omega) (fun c_48 => ?_) (fun c_48 => ?_)
          · refine z_aload_n dX12_entry_65 rfl ?_
            refine z_iload_n dX12_entry_66 rfl ?_
            refine z_aload_n dX12_entry_67 rfl ?_
            refine z_iload_n dX12_entry_68 rfl ?_
            refine z_iload_n dX12_entry_69 rfl ?_
            refine z_callV2i dX12_entry_70 kX12_entryAt lX12_118 (by first | assumption | exact And.left (by assumption)) rfl (s_entAt hi (by omega)) (Nat.le_of_ble_eq_true rfl) (Nat.le_of_ble_eq_true rfl) ⟨Nat.le_of_ble_eq_true rfl, Nat.le_of_ble_eq_true rfl⟩ ?_
            refine z_iconst (v := nI 1) dX12_entry_73 rfl ?_
            refine z_addN dX12_entry_74 ?_
            refine z_iload_n dX12_entry_75 rfl ?_
            refine z_iconst (v := nI 1) dX12_entry_76 rfl ?_
            refine z_subN dX12_entry_77 (by omega) ?_
            refine z_callV3i dX12_entry_78 kX12_partOf lX12_379 (by first | assumption | exact And.left (by assumption)) rfl (s_mPart hm0 hi x2 hb (by omega) e2 (by omega) hrv.1) (Nat.le_of_ble_eq_true rfl) (Nat.le_of_ble_eq_true rfl) ⟨Nat.le_of_ble_eq_true rfl, Nat.le_of_ble_eq_true rfl⟩ ?_
            refine z_ireturn dX12_entry_81 (Nat.le_of_ble_eq_true rfl) (Nat.le_of_ble_eq_true rfl) rfl ?_
            rw [hR, hRy]
            first
              | (rw [show pe (xof w i0).2.1 ((xof w i0).2.2.1.getD kk 0) x0i = nI ((w.1.2.2.2 i0).2.2.1.getD kk 0 % 64) from if_pos c_48]; exact ⟨rfl, rfl, rfl, e0, h0⟩)
              | (rw [show pe (xof w i0).2.1 ((xof w i0).2.2.1.getD kk 0) x0i = (if x0i - 1 < (w.1.2.2.2 i0).2.1.1.length then nI (kr (w.1.2.2.2 i0).2.1 ((w.1.2.2.2 i0).2.2.1.getD kk 0 / 64) (x0i - 1)) else -1) from pe_kr c_48]; exact ⟨rfl, rfl, rfl, e0, h0⟩)
          · refine z_aload_n dX12_entry_51 rfl ?_
            refine z_getR dX12_entry_52 fX12_13 (by first | assumption | exact And.left (by assumption)) rfl ?_
            refine z_aload_n dX12_entry_55 rfl ?_
            refine z_iload_n dX12_entry_56 rfl ?_
            refine z_iload_n dX12_entry_57 rfl ?_
            refine z_callV2i dX12_entry_58 kX12_entryAt lX12_118 (by first | assumption | exact And.left (by assumption)) rfl (s_entAt hi (by omega)) (Nat.le_of_ble_eq_true rfl) (Nat.le_of_ble_eq_true rfl) ⟨Nat.le_of_ble_eq_true rfl, Nat.le_of_ble_eq_true rfl⟩ ?_
            refine z_ialdN dX12_entry_61 (by first | assumption | exact And.left (by assumption)) (by omega) (by decide) e1 ?_
            refine z_goto (tgt := 81) dX12_entry_62 (by decide) ?_
            refine z_ireturn dX12_entry_81 (Nat.le_of_ble_eq_true rfl) (Nat.le_of_ble_eq_true rfl) rfl ?_
            rw [hR, hRy]
            first
              | (rw [show pe (xof w i0).2.1 ((xof w i0).2.2.1.getD kk 0) x0i = nI ((w.1.2.2.2 i0).2.2.1.getD kk 0 % 64) from if_pos c_48]; exact ⟨rfl, rfl, rfl, e0, h0⟩)
              | (rw [show pe (xof w i0).2.1 ((xof w i0).2.2.1.getD kk 0) x0i = (if x0i - 1 < (w.1.2.2.2 i0).2.1.1.length then nI (kr (w.1.2.2.2 i0).2.1 ((w.1.2.2.2 i0).2.2.1.getD kk 0 / 64) (x0i - 1)) else -1) from pe_kr c_48]; exact ⟨rfl, rfl, rfl, e0, h0⟩)
        · refine z_iconst (v := (-1)) dX12_entry_45 rfl ?_
          refine z_ireturn dX12_entry_46 (Nat.le_of_ble_eq_true rfl) (Nat.le_of_ble_eq_true rfl) rfl ?_
          rw [hR, cif_n (show ¬ rng (xof w i0).2.2.1.length (nI kk) from fun q => by obtain ⟨q1, q2, q3⟩ := q; have q4 := nI_inj (by omega) (by unfold xof at q2; omega) q3; unfold xof at q2; omega)]
          exact ⟨rfl, rfl, rfl, e0, h0⟩
      · have hlt : k < 0 := Int32.not_le.mp c_28
        refine z_bipush (v := (-3)) dX12_entry_31 rfl ?_
        refine z_ireturn dX12_entry_33 (Nat.le_of_ble_eq_true rfl) (Nat.le_of_ble_eq_true rfl) rfl ?_
        rw [show o_entry i k x w = (-3, w) from by unfold o_entry; rw [cif_y ⟨c_9, c_x⟩]; rw [if_pos hlt]]
        exact ⟨rfl, rfl, rfl, e0, h0⟩
    · have c_x : ¬ rng 4 x := fun z => c_21 (by rw [Int32.toInt_toInt64]; exact (rng_i (n := 3) (by decide)).mpr z)
      refine z_bipush (v := (-2)) dX12_entry_24 rfl ?_
      refine z_ireturn dX12_entry_26 (Nat.le_of_ble_eq_true rfl) (Nat.le_of_ble_eq_true rfl) rfl ?_
      rw [show o_entry i k x w = (-2, w) from by unfold o_entry; rw [cif_n (fun q => by first | exact c_9 q.1 | exact c_x q.2)]]
      exact ⟨rfl, rfl, rfl, e0, h0⟩

theorem lgo_m {f : Nat → Int32} {b h k : Nat} {x : Ix} (hX : MX f b x) (hh : h < 2) : f (b + (14 + h)) = nI (lgo x h).length ∧ (lgo x h).length ≤ 120 ∧ (∀ k, k < (lgo x h).length → f (b + (if h = 0 then 400 else 1000) + 5 * k) = nI ((lgo x h).getD k 0 % 2) ∧ f (b + (if h = 0 then 400 else 1000) + 5 * k + 1) = nI ((lgo x h).getD k 0 / 2 % 64) ∧ MK f (b + (if h = 0 then 400 else 1000) + 5 * k + 2) x.2.1 ((lgo x h).getD k 0 / 2 / 64) ∧ RV x.2.1 ((lgo x h).getD k 0 / 2 / 64)) := by
  obtain ⟨x1, x2, x3, x4, x5, x6⟩ := hX
  have xb := x6.2.2.2.2.2.2
  rcases (show h = 0 ∨ h = 1 by omega) with rfl | rfl
  · exact ⟨x4.1, xb.2.1, fun k hk => ⟨(x4.2 k hk).1, (x4.2 k hk).2.1, (x4.2 k hk).2.2, xb.2.2.2.2.2.1 _ (mem_getD hk)⟩⟩
  · exact ⟨x5.1, xb.2.2.1, fun k hk => ⟨(x5.2 k hk).1, (x5.2 k hk).2.1, (x5.2 k hk).2.2, xb.2.2.2.2.2.2 _ (mem_getD hk)⟩⟩

theorem lgv_01 {d : Df} {it x : Nat} (h : x = 0 ∨ x = 1) : lgv d it x = nI (if x = 0 then it % 2 else it / 2 % 64) := by
  rcases h with rfl | rfl
  · unfold lgv
    rw [if_pos rfl, if_pos rfl]
    split
    · rename_i q; rw [q] <;> rfl
    · rw [show it % 2 = 0 by omega] <;> rfl
  · rfl
theorem lgv_2 {d : Df} {it x : Nat} (h : 2 ≤ x) : lgv d it x = (if x - 2 < d.1.length then nI (kr d (it / 2 / 64) (x - 2)) else -1) := by
  unfold lgv
  rw [if_neg (by omega), pe_kr (by omega), show x - 1 - 1 = x - 2 by omega]

set_option maxHeartbeats 4000000 in
set_option maxRecDepth 100000 in
theorem m_logged {D : zD} {z0 nx : Nat} {L : zL} {V : zV} {m : Nat} {w : Wo} (hm : sM L m) (h : MW V m w) {i : Int32} {g : Int32} {k : Int32} {x : Int32} : Sp D z0 4 0 0 mX12_logged [.ref m, .int i, .int g, .int k, .int x] L V nx (zq (some (.int (o_logged i g k x w).1)) L nx (fun V' => zEq V V' m (m + 16) ∧ MW V' m (o_logged i g k x w).2)) := by
  have hm0 := hm
  have h0 := h
  obtain ⟨a0, a1, a2, a3, a4, a5, a6, a7, a8, a9, a10, a11, a12, a13, a14, a15⟩ := hm
  refine Sp.of 1 (by decide) rfl rfl (Nat.le_of_ble_eq_true rfl) ?_
  refine z_aload_n dX12_logged_0 rfl ?_
  refine z_iconst (v := nI 0) dX12_logged_1 rfl ?_
  refine z_putI dX12_logged_2 fX12_1 (by first | assumption | exact And.left (by assumption)) rfl ?_
  have h9 := MW_thr (x := nI 0) h0
  have e0 : zEq V (zup V m 0 (nI 0)) m (m + 16) := zEq.rf.up (by omega) (by omega)
  generalize zup V m 0 (nI 0) = V1 at h9 e0 ⊢
  clear h0 h
  have h0 := h9
  obtain ⟨k1, k2, k3, k4, k5, k6, k7⟩ := h9
  refine z_iload_n dX12_logged_5 rfl ?_
  refine z_callS1i dX12_logged_6 kX12_isIndex lX12_346 s_mIx (Nat.le_of_ble_eq_true rfl) (Nat.le_of_ble_eq_true rfl) ⟨Nat.le_of_ble_eq_true rfl, Nat.le_of_ble_eq_true rfl⟩ ?_
  refine z_if_eqB (tgt := 35) dX12_logged_9 (by decide) (fun c_9 => ?_) (fun c_9 => ?_)
  · refine z_bipush (v := (-2)) dX12_logged_35 rfl ?_
    refine z_ireturn dX12_logged_37 (Nat.le_of_ble_eq_true rfl) (Nat.le_of_ble_eq_true rfl) rfl ?_
    rw [show o_logged i g k x w = (-2, w) from by unfold o_logged; rw [cif_n (fun q => by first | exact c_9 q.1 | exact c_g q.2.1 | exact c_x q.2.2)]]
    exact ⟨rfl, rfl, rfl, e0, h0⟩
  · refine z_iload_n dX12_logged_12 rfl ?_
    refine z_i2l dX12_logged_13 ?_
    refine z_lconst dX12_logged_14 rfl ?_
    refine z_lconst dX12_logged_15 rfl ?_
    refine z_callS3i dX12_logged_16 kX12_isIn lX12_86 (s_isIn (v := g.toInt64)) (Nat.le_of_ble_eq_true rfl) (Nat.le_of_ble_eq_true rfl) ⟨Nat.le_of_ble_eq_true rfl, Nat.le_of_ble_eq_true rfl⟩ ?_
    refine z_if_eqB (tgt := 35) dX12_logged_19 (by decide) (fun c_19 => ?_) (fun c_19 => ?_)
    · have c_g : ¬ rng 2 g := fun z => c_19 (by rw [Int32.toInt_toInt64]; exact (rng_i (n := 1) (by decide)).mpr z)
      refine z_bipush (v := (-2)) dX12_logged_35 rfl ?_
      refine z_ireturn dX12_logged_37 (Nat.le_of_ble_eq_true rfl) (Nat.le_of_ble_eq_true rfl) rfl ?_
      rw [show o_logged i g k x w = (-2, w) from by unfold o_logged; rw [cif_n (fun q => by first | exact c_9 q.1 | exact c_g q.2.1 | exact c_x q.2.2)]]
      exact ⟨rfl, rfl, rfl, e0, h0⟩
    · have c_g : rng 2 g := (rng_i (n := 1) (by decide)).mp (by rw [Int32.toInt_toInt64] at c_19; exact c_19)
      refine z_iload dX12_logged_22 rfl ?_
      refine z_i2l dX12_logged_24 ?_
      refine z_lconst dX12_logged_25 rfl ?_
      refine z_ldc2 dX12_logged_26 qX12_285 ?_
      refine z_callS3i dX12_logged_29 kX12_isIn lX12_86 (s_isIn (v := x.toInt64)) (Nat.le_of_ble_eq_true rfl) (Nat.le_of_ble_eq_true rfl) ⟨Nat.le_of_ble_eq_true rfl, Nat.le_of_ble_eq_true rfl⟩ ?_
      refine z_if_neB (tgt := 38) dX12_logged_32 (by decide) (fun c_32 => ?_) (fun c_32 => ?_)
      · have c_x : rng 5 x := (rng_i (n := 4) (by decide)).mp (by rw [Int32.toInt_toInt64] at c_32; exact c_32)
        refine z_iload_n dX12_logged_38 rfl ?_
        refine z_if_ge (tgt := 45) dX12_logged_39 (by decide) (fun c_39 => ?_) (fun c_39 => ?_)
        · have hge : ¬ k < 0 := Int32.not_lt.mpr c_39
          have hR : o_logged i g k x w = cif (rng (lgo (xof w (tn i)) (tn g)).length k) (lgv (xof w (tn i)).2.1 ((lgo (xof w (tn i)) (tn g)).getD (tn k) 0) (tn x), w) (-1, w) := by unfold o_logged; rw [cif_y ⟨c_9, c_g, c_x⟩, if_neg hge]
          obtain ⟨hk1, hk2⟩ := nn_k hge
          obtain ⟨i0, hi, rfl⟩ := c_9
          have hT := tn_k (k := i0) (by omega)
          have hX0 := k1.2.2.2 i0 hi
          obtain ⟨x1, x2, x3, x4, x5, x6⟩ := k1.2.2.2 i0 hi
          have hb := x6.2.2.2.2.2.1
          obtain ⟨x0i, hx0, rfl⟩ := c_x
          obtain ⟨g0i, hg0, rfl⟩ := c_g
          rw [hT, tn_k (k := x0i) (by omega), tn_k (k := g0i) (by omega)] at hR
          obtain ⟨lg1, lg2, lg3⟩ := lgo_m (k := 0) hX0 hg0
          generalize htk : tn k = kk at *
          subst hk1
          refine z_iload_n dX12_logged_45 rfl ?_
          refine z_aload_n dX12_logged_46 rfl ?_
          refine z_iload_n dX12_logged_47 rfl ?_
          refine z_bipush (v := nI 14) dX12_logged_48 rfl ?_
          refine z_iload_n dX12_logged_50 rfl ?_
          refine z_addN dX12_logged_51 ?_
          refine z_callV2i dX12_logged_52 kX12_ofIndex lX12_104 (by first | assumption | exact And.left (by assumption)) rfl (s_ofIx hm0 hi (by omega) lg1) (Nat.le_of_ble_eq_true rfl) (Nat.le_of_ble_eq_true rfl) ⟨Nat.le_of_ble_eq_true rfl, Nat.le_of_ble_eq_true rfl⟩ ?_
          refine z_icmp_ltN (tgt := 60) dX12_logged_55 (by decide) (by omega) (by omega) (fun c_55 => ?_) (fun c_55 => ?_)
          · have hkl : kk < (lgo (w.1.2.2.2 i0) g0i).length := c_55
            have hRy := cif_y (x := (lgv (xof w i0).2.1 ((lgo (xof w i0) g0i).getD kk 0) x0i, w)) (y := (-1, w)) (show rng (lgo (xof w i0) g0i).length (nI kk) from ⟨kk, hkl, rfl⟩)
            obtain ⟨e1, e2, e4, e5⟩ := lg3 kk hkl
            refine z_sipush (v := nI 2140) dX12_logged_60 rfl ?_
            refine z_sipush (v := nI 1600) dX12_logged_63 rfl ?_
            refine z_iload_n dX12_logged_66 rfl ?_
            refine z_mulN dX12_logged_67 ?_
            refine z_addN dX12_logged_68 ?_
            refine z_iload_n dX12_logged_69 rfl ?_
            refine z_if_neN (tgt := 79) dX12_logged_70 (by decide) (by omega) (fun c_70 => ?_) (fun c_70 => ?_)
            · rw [if_neg c_70] at e1 e2 e4
              refine z_sipush (v := nI 1000) dX12_logged_79 rfl ?_
              refine z_addN dX12_logged_82 ?_
              refine z_iconst (v := nI 5) dX12_logged_83 rfl ?_
              refine z_iload_n dX12_logged_84 rfl ?_
              refine z_mulN dX12_logged_85 ?_
              refine z_addN dX12_logged_86 ?_
              refine z_istore dX12_logged_87 (Nat.le_of_ble_eq_true rfl) rfl ?_
              refine z_iload dX12_logged_89 rfl ?_
              refine z_iconst (v := nI 2) dX12_logged_91 rfl ?_
              refine z_icmp_geN (tgt := 108) dX12_logged_92 (by decide) (by omega) (by omega) (fun c_92 => ?_) (fun c_92 => ?_)
              · refine z_aload_n dX12_logged_108 rfl ?_
                refine z_iload_n dX12_logged_109 rfl ?_
                refine z_iload dX12_logged_110 rfl ?_
                refine z_iconst (v := nI 2) dX12_logged_112 rfl ?_
                refine z_addN dX12_logged_113 ?_
                refine z_iload dX12_logged_114 rfl ?_
                refine z_iconst (v := nI 2) dX12_logged_116 rfl ?_
                refine z_subN dX12_logged_117 (by omega) ?_
                refine z_callV3i dX12_logged_118 kX12_partOf lX12_379 (by first | assumption | exact And.left (by assumption)) rfl (s_mPart hm0 hi x2 hb (by omega) e4 (by omega) e5.1) (Nat.le_of_ble_eq_true rfl) (Nat.le_of_ble_eq_true rfl) ⟨Nat.le_of_ble_eq_true rfl, Nat.le_of_ble_eq_true rfl⟩ ?_
                refine z_ireturn dX12_logged_121 (Nat.le_of_ble_eq_true rfl) (Nat.le_of_ble_eq_true rfl) rfl ?_
                rw [hR, hRy]
                first
                  | (rw [show lgv (xof w i0).2.1 ((lgo (xof w i0) g0i).getD kk 0) x0i = nI (if x0i = 0 then (lgo (w.1.2.2.2 i0) g0i).getD kk 0 % 2 else (lgo (w.1.2.2.2 i0) g0i).getD kk 0 / 2 % 64) from lgv_01 hx01]; exact ⟨rfl, rfl, rfl, e0, h0⟩)
                  | (rw [show lgv (xof w i0).2.1 ((lgo (xof w i0) g0i).getD kk 0) x0i = (if x0i - 2 < (w.1.2.2.2 i0).2.1.1.length then nI (kr (w.1.2.2.2 i0).2.1 ((lgo (w.1.2.2.2 i0) g0i).getD kk 0 / 2 / 64) (x0i - 2)) else -1) from lgv_2 (by omega)]; exact ⟨rfl, rfl, rfl, e0, h0⟩)
              · refine z_aload_n dX12_logged_95 rfl ?_
                refine z_getR dX12_logged_96 fX12_13 (by first | assumption | exact And.left (by assumption)) rfl ?_
                refine z_iload dX12_logged_99 rfl ?_
                refine z_iload dX12_logged_101 rfl ?_
                refine z_addN dX12_logged_103 ?_
                have hx01 : x0i = 0 ∨ x0i = 1 := by omega
                have hval : V1 (m + 1) (2140 + 1600 * i0 + 1000 + 5 * kk + x0i) = nI (if x0i = 0 then (lgo (w.1.2.2.2 i0) g0i).getD kk 0 % 2 else (lgo (w.1.2.2.2 i0) g0i).getD kk 0 / 2 % 64) := by
                  rcases hx01 with rfl | rfl
                  · exact e1
                  · exact e2
                refine z_ialdN dX12_logged_104 (by first | assumption | exact And.left (by assumption)) (by omega) (by decide) hval ?_
                refine z_goto (tgt := 121) dX12_logged_105 (by decide) ?_
                refine z_ireturn dX12_logged_121 (Nat.le_of_ble_eq_true rfl) (Nat.le_of_ble_eq_true rfl) rfl ?_
                rw [hR, hRy]
                first
                  | (rw [show lgv (xof w i0).2.1 ((lgo (xof w i0) g0i).getD kk 0) x0i = nI (if x0i = 0 then (lgo (w.1.2.2.2 i0) g0i).getD kk 0 % 2 else (lgo (w.1.2.2.2 i0) g0i).getD kk 0 / 2 % 64) from lgv_01 hx01]; exact ⟨rfl, rfl, rfl, e0, h0⟩)
                  | (rw [show lgv (xof w i0).2.1 ((lgo (xof w i0) g0i).getD kk 0) x0i = (if x0i - 2 < (w.1.2.2.2 i0).2.1.1.length then nI (kr (w.1.2.2.2 i0).2.1 ((lgo (w.1.2.2.2 i0) g0i).getD kk 0 / 2 / 64) (x0i - 2)) else -1) from lgv_2 (by omega)]; exact ⟨rfl, rfl, rfl, e0, h0⟩)
            · rw [if_pos c_70] at e1 e2 e4
              refine z_sipush (v := nI 400) dX12_logged_73 rfl ?_
              refine z_goto (tgt := 82) dX12_logged_76 (by decide) ?_
              refine z_addN dX12_logged_82 ?_
              refine z_iconst (v := nI 5) dX12_logged_83 rfl ?_
              refine z_iload_n dX12_logged_84 rfl ?_
              refine z_mulN dX12_logged_85 ?_
              refine z_addN dX12_logged_86 ?_
              refine z_istore dX12_logged_87 (Nat.le_of_ble_eq_true rfl) rfl ?_
              refine z_iload dX12_logged_89 rfl ?_
              refine z_iconst (v := nI 2) dX12_logged_91 rfl ?_
              refine z_icmp_geN (tgt := 108) dX12_logged_92 (by decide) (by omega) (by omega) (fun c_92 => ?_) (fun c_92 => ?_)
              · refine z_aload_n dX12_logged_108 rfl ?_
                refine z_iload_n dX12_logged_109 rfl ?_
                refine z_iload dX12_logged_110 rfl ?_
                refine z_iconst (v := nI 2) dX12_logged_112 rfl ?_
                refine z_addN dX12_logged_113 ?_
                refine z_iload dX12_logged_114 rfl ?_
                refine z_iconst (v := nI 2) dX12_logged_116 rfl ?_
                refine z_subN dX12_logged_117 (by omega) ?_
                refine z_callV3i dX12_logged_118 kX12_partOf lX12_379 (by first | assumption | exact And.left (by assumption)) rfl (s_mPart hm0 hi x2 hb (by omega) e4 (by omega) e5.1) (Nat.le_of_ble_eq_true rfl) (Nat.le_of_ble_eq_true rfl) ⟨Nat.le_of_ble_eq_true rfl, Nat.le_of_ble_eq_true rfl⟩ ?_
                refine z_ireturn dX12_logged_121 (Nat.le_of_ble_eq_true rfl) (Nat.le_of_ble_eq_true rfl) rfl ?_
                rw [hR, hRy]
                first
                  | (rw [show lgv (xof w i0).2.1 ((lgo (xof w i0) g0i).getD kk 0) x0i = nI (if x0i = 0 then (lgo (w.1.2.2.2 i0) g0i).getD kk 0 % 2 else (lgo (w.1.2.2.2 i0) g0i).getD kk 0 / 2 % 64) from lgv_01 hx01]; exact ⟨rfl, rfl, rfl, e0, h0⟩)
                  | (rw [show lgv (xof w i0).2.1 ((lgo (xof w i0) g0i).getD kk 0) x0i = (if x0i - 2 < (w.1.2.2.2 i0).2.1.1.length then nI (kr (w.1.2.2.2 i0).2.1 ((lgo (w.1.2.2.2 i0) g0i).getD kk 0 / 2 / 64) (x0i - 2)) else -1) from lgv_2 (by omega)]; exact ⟨rfl, rfl, rfl, e0, h0⟩)
              · refine z_aload_n dX12_logged_95 rfl ?_
                refine z_getR dX12_logged_96 fX12_13 (by first | assumption | exact And.left (by assumption)) rfl ?_
                refine z_iload dX12_logged_99 rfl ?_
                refine z_iload dX12_logged_101 rfl ?_
                refine z_addN dX12_logged_103 ?_
                have hx01 : x0i = 0 ∨ x0i = 1 := by omega
                have hval : V1 (m + 1) (2140 + 1600 * i0 + 400 + 5 * kk + x0i) = nI (if x0i = 0 then (lgo (w.1.2.2.2 i0) g0i).getD kk 0 % 2 else (lgo (w.1.2.2.2 i0) g0i).getD kk 0 / 2 % 64) := by
                  rcases hx01 with rfl | rfl
                  · exact e1
                  · exact e2
                refine z_ialdN dX12_logged_104 (by first | assumption | exact And.left (by assumption)) (by omega) (by decide) hval ?_
                refine z_goto (tgt := 121) dX12_logged_105 (by decide) ?_
                refine z_ireturn dX12_logged_121 (Nat.le_of_ble_eq_true rfl) (Nat.le_of_ble_eq_true rfl) rfl ?_
                rw [hR, hRy]
                first
                  | (rw [show lgv (xof w i0).2.1 ((lgo (xof w i0) g0i).getD kk 0) x0i = nI (if x0i = 0 then (lgo (w.1.2.2.2 i0) g0i).getD kk 0 % 2 else (lgo (w.1.2.2.2 i0) g0i).getD kk 0 / 2 % 64) from lgv_01 hx01]; exact ⟨rfl, rfl, rfl, e0, h0⟩)
                  | (rw [show lgv (xof w i0).2.1 ((lgo (xof w i0) g0i).getD kk 0) x0i = (if x0i - 2 < (w.1.2.2.2 i0).2.1.1.length then nI (kr (w.1.2.2.2 i0).2.1 ((lgo (w.1.2.2.2 i0) g0i).getD kk 0 / 2 / 64) (x0i - 2)) else -1) from lgv_2 (by omega)]; exact ⟨rfl, rfl, rfl, e0, h0⟩)
          · refine z_iconst (v := (-1)) dX12_logged_58 rfl ?_
            refine z_ireturn dX12_logged_59 (Nat.le_of_ble_eq_true rfl) (Nat.le_of_ble_eq_true rfl) rfl ?_
            rw [hR, cif_n (show ¬ rng (lgo (xof w i0) g0i).length (nI kk) from fun q => by obtain ⟨q1, q2, q3⟩ := q; have q4 := nI_inj (by omega) (by unfold xof at q2; omega) q3; unfold xof at q2; omega)]
            exact ⟨rfl, rfl, rfl, e0, h0⟩
        · have hlt : k < 0 := Int32.not_le.mp c_39
          refine z_bipush (v := (-3)) dX12_logged_42 rfl ?_
          refine z_ireturn dX12_logged_44 (Nat.le_of_ble_eq_true rfl) (Nat.le_of_ble_eq_true rfl) rfl ?_
          rw [show o_logged i g k x w = (-3, w) from by unfold o_logged; rw [cif_y ⟨c_9, c_g, c_x⟩]; rw [if_pos hlt]]
          exact ⟨rfl, rfl, rfl, e0, h0⟩
      · have c_x : ¬ rng 5 x := fun z => c_32 (by rw [Int32.toInt_toInt64]; exact (rng_i (n := 4) (by decide)).mpr z)
        refine z_bipush (v := (-2)) dX12_logged_35 rfl ?_
        refine z_ireturn dX12_logged_37 (Nat.le_of_ble_eq_true rfl) (Nat.le_of_ble_eq_true rfl) rfl ?_
        rw [show o_logged i g k x w = (-2, w) from by unfold o_logged; rw [cif_n (fun q => by first | exact c_9 q.1 | exact c_g q.2.1 | exact c_x q.2.2)]]
        exact ⟨rfl, rfl, rfl, e0, h0⟩

