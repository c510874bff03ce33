/-! LateIndex, on: what is told of indexes -/
theorem rng_lt0 {x : Int32} {n : Nat} (hn : n < 900) (h : x < nI 1) : ¬ (rng n x ∧ ¬ x = 0) := fun ⟨⟨k, hk, e⟩, h0⟩ => by
  have h1 : ¬ k = 0 := fun q => h0 (by rw [e, q]; rfl)
  rw [e] at h
  exact absurd h (Int32.not_lt.mpr (nI_le (by omega) (by omega)))
theorem rng_1n {x : Int32} {n : Nat} (hn : n < 900) (h1 : ¬ x < nI 1) (h2 : x ≤ nI n) : rng (n + 1) x ∧ ¬ x = 0 := by
  have h0 : ¬ x < 0 := fun q => h1 (Int32.lt_trans q (by decide))
  refine ⟨rng_le hn h0 h2, fun q => h1 (by rw [q]; decide)⟩
theorem nn_k {x : Int32} (h : ¬ x < 0) : x = nI (tn x) ∧ tn x < 2147483648 := by
  have e1 : (0 : Int) ≤ x.toInt := by
    have := Int32.not_lt.mp h
    simpa using Int32.le_iff_toInt_le.mp this
  have e3 : tn x = x.toInt.toNat := rfl
  have e4 : x.toInt < 2147483648 := Int32.toInt_lt x
  constructor
  · apply Int32.toInt_inj.mp
    rw [e3, nI_toInt (by omega)]
    omega
  · rw [e3]
    omega
theorem rng_tn {x : Int32} {n : Nat} (h : ¬ x < 0) (hl : tn x < n) : rng n x := ⟨tn x, hl, (nn_k h).1⟩
theorem rng_tn' {x : Int32} {n : Nat} (hn : n < 1000000) (h : ¬ x < 0) (hl : n ≤ tn x) : ¬ rng n x := fun ⟨k, hk, e⟩ => by
  rw [e, tn_k (by omega)] at hl
  omega
noncomputable def rfk (i x y z : Int32) (w : Wo) : Int32 := cif (rng 2 i) (cif (nums x y z) (if (xof w (tn i)).1.1 = 4 then 0 else -5) (-3)) (-2)
def kyr (w : Wo) (i x y z : Int32) : Nat := rk (xof w (tn i)).2.1.1 ((tn x * 100 + tn y) * 100 + tn z) 3
noncomputable def o_ahead (i x y z : Int32) (w : Wo) : Int32 × Wo := cif (rfk i x y z w = 0) (nI (pl (kyr w i x y z * 64) (xof w (tn i)).2.2.1), w) (rfk i x y z w, w)
noncomputable def o_same (i x y z : Int32) (w : Wo) : Int32 × Wo := cif (rfk i x y z w = 0) (nI (pl ((kyr w i x y z + 1) * 64) (xof w (tn i)).2.2.1 - pl (kyr w i x y z * 64) (xof w (tn i)).2.2.1), w) (rfk i x y z w, w)
def led (w : Wo) (c i : Nat) : Prop := (xof w i).1.1 = 4 ∧ ¬ (xof w i).2.1.2.2.1 = true ∧ ((xof w i).2.1.1.getD 0 (0, false)).1 = c
noncomputable def ixf (w : Wo) (c : Nat) : Nat := fs (led w c) 2
def i2n (k : Nat) : Int32 := if k < 2 then nI k else -1
noncomputable def rth (w : Wo) : Nat := cn (fun r => (lst w.1.2.1 r).2 ≠ none) 48
noncomputable def o_reads (c v : Int32) (w : Wo) : Int32 × Wo := cif (rng 3 c) (cif (rng 100 v) (if ixf w (tn c) < 2 then nI (cn (fun k => pe (xof w (ixf w (tn c))).2.1 ((xof w (ixf w (tn c))).2.2.1.getD k 0) 1 = nI (tn v)) (xof w (ixf w (tn c))).2.2.1.length + 1) else nI (rth w), w) (-3, w)) (-2, w)
noncomputable def o_by (c : Int32) (w : Wo) : Int32 × Wo := cif (rng 3 c) (i2n (ixf w (tn c)), w) (-2, w)
theorem z_dummy : True := trivial
theorem pl_mono {x y : Nat} (h : x ≤ y) : ∀ l : List Nat, pl x l ≤ pl y l
  | [] => Nat.le_refl _
  | c :: cs => by
    have := pl_mono h cs
    unfold pl
    split
    · rw [if_pos (by omega)]; omega
    · omega

set_option maxHeartbeats 4000000 in
set_option maxRecDepth 100000 in
theorem c_termsA {D : zD} {z0 nx : Nat} {L : zL} {V : zV} {a : Nat} {sw : Bool} {w : Wo} (hs : sLI L a sw) (h : LI V a sw w) {x v : Int32} (hx : x = 0) : Sp D z0 7 0 0 mX11_terms [.ref a, .int x, .int v] L V nx (zq (some (.int (o_terms x v w).1)) L nx (fun V' => zEq V V' a (a + 471) ∧ LI V' a sw (o_terms x v w).2)) := by
  have hs0 := hs
  have h0 := h
  obtain ⟨l1, l2, l3, l4, l5, l6, l7, l8, l9, l10, l11, l12⟩ := hs
  obtain ⟨k1, k2, k3, k4, k5, k6, k7, k8⟩ := h
  have l20 := l2
  obtain ⟨s1, s2, s3, s4, s5, s6, s7⟩ := l2
  have k10 := k1
  obtain ⟨v1, v2, v3, v4⟩ := k1
  refine Sp.of 3 (by decide) rfl rfl (Nat.le_of_ble_eq_true rfl) ?_
  refine z_iload_n dX11_terms_0 rfl ?_
  refine z_if_eq (tgt := 12) dX11_terms_1 (by decide) (fun c_1 => ?_) (fun c_1 => ?_)
  · refine z_iload_n dX11_terms_12 rfl ?_
    refine z_if_ne (tgt := 20) dX11_terms_13 (by decide) (fun c_13 => ?_) (fun c_13 => ?_)
    · exact absurd hx c_13
    · refine z_iconst (v := nI 0) dX11_terms_16 rfl ?_
      refine z_goto (tgt := 21) dX11_terms_17 (by decide) ?_
      refine z_istore_n dX11_terms_21 (Nat.le_of_ble_eq_true rfl) rfl ?_
      refine z_iload_n dX11_terms_22 rfl ?_
      refine z_if_ne (tgt := 31) dX11_terms_23 (by decide) (fun c_23 => ?_) (fun c_23 => ?_)
      · exact absurd hx c_23
      · refine z_bipush (v := nI 20) dX11_terms_26 rfl ?_
        refine z_goto (tgt := 33) dX11_terms_28 (by decide) ?_
        refine z_istore dX11_terms_33 (Nat.le_of_ble_eq_true rfl) rfl ?_
        refine z_iload_n dX11_terms_35 rfl ?_
        refine z_iload_n dX11_terms_36 rfl ?_
        refine z_icmp_lt (tgt := 46) dX11_terms_37 (by decide) (fun c_37 => ?_) (fun c_37 => ?_)
        · refine z_bipush (v := (-3)) dX11_terms_46 rfl ?_
          refine z_ireturn dX11_terms_48 (Nat.le_of_ble_eq_true rfl) (Nat.le_of_ble_eq_true rfl) rfl ?_
          rw [show o_terms x v w = (-3, w) from by unfold o_terms; rw [if_pos hx, cif_n (fun q => by first | exact rng_n1 (by decide) c_37 q | exact rng_gt (by decide) c_43 q)]]
          exact ⟨rfl, rfl, rfl, zEq.rf, h0⟩
        · refine z_iload_n dX11_terms_40 rfl ?_
          refine z_iload dX11_terms_41 rfl ?_
          refine z_icmp_le (tgt := 49) dX11_terms_43 (by decide) (fun c_43 => ?_) (fun c_43 => ?_)
          · have hR : o_terms x v w = (nI w.1.1.2.1, wst w ((w.1.1.1, tn v, w.1.1.2.2), w.1.2)) := by unfold o_terms; rw [if_pos hx, cif_y (rng_le (n := 20) (by decide) c_37 c_43)]
            obtain ⟨k, hk, rfl⟩ := rng_le (n := 20) (by decide) c_37 c_43
            rw [tn_k (k := k) (by omega)] at hR
            refine z_aload_n dX11_terms_49 rfl ?_
            refine z_callV0w dX11_terms_50 kX11_remember lX11_72 (by first | assumption | exact And.left (by assumption)) rfl (s_rem hs0 h0) (Nat.le_of_ble_eq_true rfl) (Nat.le_of_ble_eq_true rfl) ⟨Nat.le_of_ble_eq_true rfl, Nat.le_of_ble_eq_true rfl⟩ ?_
            intro V1 hV1
            obtain ⟨e1, h0⟩ := hV1
            have k10 : ST V1 (a + 1) w.1 := h0.1
            have k11 := k10
            obtain ⟨v1, v2, v3, v4⟩ := k11
            obtain ⟨v11, v12, v13, v14, v15, v16, v17⟩ := v1
            refine z_iload_n dX11_terms_53 rfl ?_
            refine z_if_ne (tgt := 67) dX11_terms_54 (by decide) (fun c_54 => ?_) (fun c_54 => ?_)
            · exact absurd hx c_54
            · refine z_aload_n dX11_terms_57 rfl ?_
              refine z_getR dX11_terms_58 fX11_10 (by first | assumption | exact And.left (by assumption)) rfl ?_
              refine z_getIe dX11_terms_61 fX11_178 (by first | assumption | exact And.left (by assumption)) rfl v12 ?_
              refine z_goto (tgt := 74) dX11_terms_64 (by decide) ?_
              refine z_istore dX11_terms_74 (Nat.le_of_ble_eq_true rfl) rfl ?_
              refine z_iload_n dX11_terms_76 rfl ?_
              refine z_if_ne (tgt := 91) dX11_terms_77 (by decide) (fun c_77 => ?_) (fun c_77 => ?_)
              · exact absurd hx c_77
              · refine z_aload_n dX11_terms_80 rfl ?_
                refine z_getR dX11_terms_81 fX11_10 (by first | assumption | exact And.left (by assumption)) rfl ?_
                refine z_iload_n dX11_terms_84 rfl ?_
                refine z_putI dX11_terms_85 fX11_178 (by first | assumption | exact And.left (by assumption)) rfl ?_
                refine z_goto (tgt := 99) dX11_terms_88 (by decide) ?_
                refine z_iload dX11_terms_99 rfl ?_
                
                refine z_ireturn dX11_terms_101 (Nat.le_of_ble_eq_true rfl) (Nat.le_of_ble_eq_true rfl) rfl ?_
                rw [hR]
                exact ⟨rfl, rfl, rfl, e1.trans ((zEq.rf.up (lo := a) (hi := a + 471) (by omega) (by omega))), LI_st h0 (zEq.rf.up (by omega) (by omega)) (ST_n (n := (w.1.1.1, k, w.1.1.2.2)) k10 (zEq.rf.up (by omega) (by omega)) ⟨by simp [zup]; exact v11, by simp [zup], by simp [zup]; exact v13, v14, by show k ≤ 20; omega, v16, v17⟩)⟩
          · refine z_bipush (v := (-3)) dX11_terms_46 rfl ?_
            refine z_ireturn dX11_terms_48 (Nat.le_of_ble_eq_true rfl) (Nat.le_of_ble_eq_true rfl) rfl ?_
            rw [show o_terms x v w = (-3, w) from by unfold o_terms; rw [if_pos hx, cif_n (fun q => by first | exact rng_n1 (by decide) c_37 q | exact rng_gt (by decide) c_43 q)]]
            exact ⟨rfl, rfl, rfl, zEq.rf, h0⟩
  · exact absurd hx c_1

set_option maxHeartbeats 4000000 in
set_option maxRecDepth 100000 in
theorem c_termsB {D : zD} {z0 nx : Nat} {L : zL} {V : zV} {a : Nat} {sw : Bool} {w : Wo} (hs : sLI L a sw) (h : LI V a sw w) {x v : Int32} (hx : x = nI 1) : Sp D z0 7 0 0 mX11_terms [.ref a, .int x, .int v] L V nx (zq (some (.int (o_terms x v w).1)) L nx (fun V' => zEq V V' a (a + 471) ∧ LI V' a sw (o_terms x v w).2)) := by
  have hs0 := hs
  have h0 := h
  obtain ⟨l1, l2, l3, l4, l5, l6, l7, l8, l9, l10, l11, l12⟩ := hs
  obtain ⟨k1, k2, k3, k4, k5, k6, k7, k8⟩ := h
  have l20 := l2
  obtain ⟨s1, s2, s3, s4, s5, s6, s7⟩ := l2
  have k10 := k1
  obtain ⟨v1, v2, v3, v4⟩ := k1
  refine Sp.of 3 (by decide) rfl rfl (Nat.le_of_ble_eq_true rfl) ?_
  refine z_iload_n dX11_terms_0 rfl ?_
  refine z_if_eq (tgt := 12) dX11_terms_1 (by decide) (fun c_1 => ?_) (fun c_1 => ?_)
  · exact absurd (hx.symm.trans c_1) (by decide)
  · refine z_iload_n dX11_terms_4 rfl ?_
    refine z_iconst (v := nI 1) dX11_terms_5 rfl ?_
    refine z_icmp_eq (tgt := 12) dX11_terms_6 (by decide) (fun c_6 => ?_) (fun c_6 => ?_)
    · refine z_iload_n dX11_terms_12 rfl ?_
      refine z_if_ne (tgt := 20) dX11_terms_13 (by decide) (fun c_13 => ?_) (fun c_13 => ?_)
      · refine z_iconst (v := nI 1) dX11_terms_20 rfl ?_
        refine z_istore_n dX11_terms_21 (Nat.le_of_ble_eq_true rfl) rfl ?_
        refine z_iload_n dX11_terms_22 rfl ?_
        refine z_if_ne (tgt := 31) dX11_terms_23 (by decide) (fun c_23 => ?_) (fun c_23 => ?_)
        · refine z_bipush (v := nI 9) dX11_terms_31 rfl ?_
          refine z_istore dX11_terms_33 (Nat.le_of_ble_eq_true rfl) rfl ?_
          refine z_iload_n dX11_terms_35 rfl ?_
          refine z_iload_n dX11_terms_36 rfl ?_
          refine z_icmp_lt (tgt := 46) dX11_terms_37 (by decide) (fun c_37 => ?_) (fun c_37 => ?_)
          · refine z_bipush (v := (-3)) dX11_terms_46 rfl ?_
            refine z_ireturn dX11_terms_48 (Nat.le_of_ble_eq_true rfl) (Nat.le_of_ble_eq_true rfl) rfl ?_
            rw [show o_terms x v w = (-3, w) from by unfold o_terms; rw [if_neg (fun q => absurd (hx.symm.trans q) (by decide)), if_pos hx, cif_n (fun q => by first | exact rng_lt0 (by decide) c_37 q | exact rng_gt (by decide) c_43 q.1)]]
            exact ⟨rfl, rfl, rfl, zEq.rf, h0⟩
          · refine z_iload_n dX11_terms_40 rfl ?_
            refine z_iload dX11_terms_41 rfl ?_
            refine z_icmp_le (tgt := 49) dX11_terms_43 (by decide) (fun c_43 => ?_) (fun c_43 => ?_)
            · have hR : o_terms x v w = (nI w.1.1.2.2, wst w ((w.1.1.1, w.1.1.2.1, tn v), w.1.2)) := by unfold o_terms; rw [if_neg (fun q => absurd (hx.symm.trans q) (by decide)), if_pos hx, cif_y (rng_1n (n := 9) (by decide) c_37 c_43)]
              obtain ⟨⟨k, hk, rfl⟩, hk0⟩ := rng_1n (n := 9) (by decide) c_37 c_43
              have hk1 : ¬ k = 0 := fun q => hk0 (by rw [q]; rfl)
              rw [tn_k (k := k) (by omega)] at hR
              refine z_aload_n dX11_terms_49 rfl ?_
              refine z_callV0w dX11_terms_50 kX11_remember lX11_72 (by first | assumption | exact And.left (by assumption)) rfl (s_rem hs0 h0) (Nat.le_of_ble_eq_true rfl) (Nat.le_of_ble_eq_true rfl) ⟨Nat.le_of_ble_eq_true rfl, Nat.le_of_ble_eq_true rfl⟩ ?_
              intro V1 hV1
              obtain ⟨e1, h0⟩ := hV1
              have k10 : ST V1 (a + 1) w.1 := h0.1
              have k11 := k10
              obtain ⟨v1, v2, v3, v4⟩ := k11
              obtain ⟨v11, v12, v13, v14, v15, v16, v17⟩ := v1
              refine z_iload_n dX11_terms_53 rfl ?_
              refine z_if_ne (tgt := 67) dX11_terms_54 (by decide) (fun c_54 => ?_) (fun c_54 => ?_)
              · refine z_aload_n dX11_terms_67 rfl ?_
                refine z_getR dX11_terms_68 fX11_10 (by first | assumption | exact And.left (by assumption)) rfl ?_
                refine z_getIe dX11_terms_71 fX11_181 (by first | assumption | exact And.left (by assumption)) rfl v13 ?_
                refine z_istore dX11_terms_74 (Nat.le_of_ble_eq_true rfl) rfl ?_
                refine z_iload_n dX11_terms_76 rfl ?_
                refine z_if_ne (tgt := 91) dX11_terms_77 (by decide) (fun c_77 => ?_) (fun c_77 => ?_)
                · refine z_aload_n dX11_terms_91 rfl ?_
                  refine z_getR dX11_terms_92 fX11_10 (by first | assumption | exact And.left (by assumption)) rfl ?_
                  refine z_iload_n dX11_terms_95 rfl ?_
                  refine z_putI dX11_terms_96 fX11_181 (by first | assumption | exact And.left (by assumption)) rfl ?_
                  refine z_iload dX11_terms_99 rfl ?_
                  refine z_ireturn dX11_terms_101 (Nat.le_of_ble_eq_true rfl) (Nat.le_of_ble_eq_true rfl) rfl ?_
                  rw [hR]
                  exact ⟨rfl, rfl, rfl, e1.trans ((zEq.rf.up (lo := a) (hi := a + 471) (by omega) (by omega))), LI_st h0 (zEq.rf.up (by omega) (by omega)) (ST_n (n := (w.1.1.1, w.1.1.2.1, k)) k10 (zEq.rf.up (by omega) (by omega)) ⟨by simp [zup]; exact v11, by simp [zup]; exact v12, by simp [zup], v14, v15, by show 1 ≤ k; omega, by show k ≤ 9; omega⟩)⟩
                · exact absurd (hx.symm.trans c_77) (by decide)
              · exact absurd (hx.symm.trans c_54) (by decide)
            · refine z_bipush (v := (-3)) dX11_terms_46 rfl ?_
              refine z_ireturn dX11_terms_48 (Nat.le_of_ble_eq_true rfl) (Nat.le_of_ble_eq_true rfl) rfl ?_
              rw [show o_terms x v w = (-3, w) from by unfold o_terms; rw [if_neg (fun q => absurd (hx.symm.trans q) (by decide)), if_pos hx, cif_n (fun q => by first | exact rng_lt0 (by decide) c_37 q | exact rng_gt (by decide) c_43 q.1)]]
              exact ⟨rfl, rfl, rfl, zEq.rf, h0⟩
        · exact absurd (hx.symm.trans c_23) (by decide)
      · exact absurd (hx.symm.trans c_13) (by decide)
    · exact absurd hx c_6

set_option maxHeartbeats 4000000 in
set_option maxRecDepth 100000 in
theorem c_termsC {D : zD} {z0 nx : Nat} {L : zL} {V : zV} {a : Nat} {sw : Bool} {w : Wo} (hs : sLI L a sw) (h : LI V a sw w) {x v : Int32} (hx : ¬ x = 0) (hx1 : ¬ x = nI 1) : Sp D z0 7 0 0 mX11_terms [.ref a, .int x, .int v] L V nx (zq (some (.int (o_terms x v w).1)) L nx (fun V' => zEq V V' a (a + 471) ∧ LI V' a sw (o_terms x v w).2)) := by
  have hs0 := hs
  have h0 := h
  obtain ⟨l1, l2, l3, l4, l5, l6, l7, l8, l9, l10, l11, l12⟩ := hs
  obtain ⟨k1, k2, k3, k4, k5, k6, k7, k8⟩ := h
  have l20 := l2
  obtain ⟨s1, s2, s3, s4, s5, s6, s7⟩ := l2
  have k10 := k1
  obtain ⟨v1, v2, v3, v4⟩ := k1
  refine Sp.of 3 (by decide) rfl rfl (Nat.le_of_ble_eq_true rfl) ?_
  refine z_iload_n dX11_terms_0 rfl ?_
  refine z_if_eq (tgt := 12) dX11_terms_1 (by decide) (fun c_1 => ?_) (fun c_1 => ?_)
  · exact absurd c_1 hx
  · refine z_iload_n dX11_terms_4 rfl ?_
    refine z_iconst (v := nI 1) dX11_terms_5 rfl ?_
    refine z_icmp_eq (tgt := 12) dX11_terms_6 (by decide) (fun c_6 => ?_) (fun c_6 => ?_)
    · exact absurd c_6 hx1
    · refine z_bipush (v := (-2)) dX11_terms_9 rfl ?_
      refine z_ireturn dX11_terms_11 (Nat.le_of_ble_eq_true rfl) (Nat.le_of_ble_eq_true rfl) rfl ?_
      rw [show o_terms x v w = (-2, w) from by unfold o_terms; rw [if_neg hx, if_neg hx1]]
      exact ⟨rfl, rfl, rfl, zEq.rf, h0⟩

theorem c_terms {D : zD} {z0 nx : Nat} {L : zL} {V : zV} {a : Nat} {sw : Bool} {w : Wo} (hs : sLI L a sw) (h : LI V a sw w) {x v : Int32} : Sp D z0 7 0 0 mX11_terms [.ref a, .int x, .int v] L V nx (zq (some (.int (o_terms x v w).1)) L nx (fun V' => zEq V V' a (a + 471) ∧ LI V' a sw (o_terms x v w).2)) := by
  by_cases h1 : x = 0
  · exact c_termsA hs h h1
  · by_cases h2 : x = nI 1
    · exact c_termsB hs h h2
    · exact c_termsC hs h h1 h2

set_option maxHeartbeats 4000000 in
set_option maxRecDepth 100000 in
theorem c_index2 {D : zD} {z0 nx : Nat} {L : zL} {V : zV} {a : Nat} {sw : Bool} {w : Wo} (hs : sLI L a sw) (h : LI V a sw w) {k j : Nat} (hk : k < 2) (hj : j < 16) (hR : o_index (nI k) (nI j) w = (idx (xof w k) j, w)) : Z D z0 3 0 0 mX11_index 0 0 31 [some (.ref a), some (.int (nI k)), some (.int (nI j)), some (.ref (a + 1 + 16 + 12 * k))] [.int (nI j)] L V nx (zq (some (.int (o_index (nI k) (nI j) w).1)) L nx (fun V' => zEq V V' a (a + 471) ∧ LI V' a sw (o_index (nI k) (nI j) w).2)) := by
  have hs0 := hs
  have h0 := h
  obtain ⟨l1, l2, l3, l4, l5, l6, l7, l8, l9, l10, l11, l12⟩ := hs
  obtain ⟨k1, k2, k3, k4, k5, k6, k7, k8⟩ := h
  have l20 := l2
  obtain ⟨s1, s2, s3, s4, s5, s6, s7⟩ := l2
  have k10 := k1
  obtain ⟨v1, v2, v3, v4⟩ := k1
  have q1 := i2_at (a + 1) k (by omega)
  have p1 := s7 k (by omega)
  have p2 := p1.1
  have x0 := v4 k (by omega)
  obtain ⟨⟨⟨x1, x2, x3, x4, x5⟩, x6, x7, x8, x9, x10⟩, xd, xe, xn, xl⟩ := v4 k (by omega)
  obtain ⟨f, xn1⟩ := xn
  have n1 := xe.1
  have n2 := xn1.2.1
  have n3 := xl.2.1
  rcases (show j = 0 ∨ j = 1 ∨ j = 2 ∨ j = 3 ∨ j = 4 ∨ j = 5 ∨ j = 6 ∨ j = 7 ∨ j = 8 ∨ j = 9 ∨ j = 10 ∨ j = 11 ∨ j = 12 ∨ j = 13 ∨ j = 14 ∨ j = 15 by omega) with rfl | rfl | rfl | rfl | rfl | rfl | rfl | rfl | rfl | rfl | rfl | rfl | rfl | rfl | rfl | rfl
  · refine z_tableIn (tgt := 108) dX11_index_31 (by decide) (by decide) rfl (by decide) ?_
    refine z_aload_n dX11_index_108 rfl ?_
    refine z_getIe dX11_index_109 fX11_151 (by first | assumption | exact And.left (by assumption)) rfl (by first | assumption | exact zup_s _ _ _ _ | rfl) ?_
    refine z_ireturn dX11_index_112 (Nat.le_of_ble_eq_true rfl) (Nat.le_of_ble_eq_true rfl) rfl ?_
    rw [hR]
    exact ⟨rfl, rfl, rfl, zEq.rf, h0⟩
  · refine z_tableIn (tgt := 113) dX11_index_31 (by decide) (by decide) rfl (by decide) ?_
    refine z_aload_n dX11_index_113 rfl ?_
    refine z_getR dX11_index_114 fX11_197 (by first | assumption | exact And.left (by assumption)) rfl ?_
    refine z_getIe dX11_index_117 fX11_200 (And.left p1.2.2.1) rfl n1 ?_
    refine z_ireturn dX11_index_120 (Nat.le_of_ble_eq_true rfl) (Nat.le_of_ble_eq_true rfl) rfl ?_
    rw [hR]
    exact ⟨rfl, rfl, rfl, zEq.rf, h0⟩
  · refine z_tableIn (tgt := 121) dX11_index_31 (by decide) (by decide) rfl (by decide) ?_
    refine z_aload_n dX11_index_121 rfl ?_
    refine z_getIe dX11_index_122 fX11_151 (by first | assumption | exact And.left (by assumption)) rfl (by first | assumption | exact zup_s _ _ _ _ | rfl) ?_
    refine z_iconst (v := nI 1) dX11_index_125 rfl ?_
    refine z_icmp_neN (tgt := 136) dX11_index_126 (by decide) (by omega) (by omega) (fun c_126 => ?_) (fun c_126 => ?_)
    · refine z_iconst (v := (-1)) dX11_index_136 rfl ?_
      refine z_ireturn dX11_index_137 (Nat.le_of_ble_eq_true rfl) (Nat.le_of_ble_eq_true rfl) rfl ?_
      rw [hR]
      exact ⟨by first | rw [idx, if_neg (by decide), if_neg (by decide), if_pos rfl, if_pos (show (xof w k).1.1 = 1 from c_126)] <;> rfl | (rw [idx, if_neg (by decide), if_neg (by decide), if_pos rfl, if_neg (show ¬ (xof w k).1.1 = 1 from c_126)] <;> rfl), rfl, rfl, zEq.rf, h0⟩
    · refine z_aload_n dX11_index_129 rfl ?_
      refine z_getIe dX11_index_130 fX11_203 (by first | assumption | exact And.left (by assumption)) rfl (by first | assumption | exact zup_s _ _ _ _ | rfl) ?_
      refine z_goto (tgt := 137) dX11_index_133 (by decide) ?_
      refine z_ireturn dX11_index_137 (Nat.le_of_ble_eq_true rfl) (Nat.le_of_ble_eq_true rfl) rfl ?_
      rw [hR]
      exact ⟨by first | rw [idx, if_neg (by decide), if_neg (by decide), if_pos rfl, if_pos (show (xof w k).1.1 = 1 from c_126)] <;> rfl | (rw [idx, if_neg (by decide), if_neg (by decide), if_pos rfl, if_neg (show ¬ (xof w k).1.1 = 1 from c_126)] <;> rfl), rfl, rfl, zEq.rf, h0⟩
  · refine z_tableIn (tgt := 138) dX11_index_31 (by decide) (by decide) rfl (by decide) ?_
    refine z_aload_n dX11_index_138 rfl ?_
    refine z_getR dX11_index_139 fX11_206 (by first | assumption | exact And.left (by assumption)) rfl ?_
    refine z_getIe dX11_index_142 fX11_210 (And.left p1.2.2.2.1) rfl n2 ?_
    refine z_ireturn dX11_index_145 (Nat.le_of_ble_eq_true rfl) (Nat.le_of_ble_eq_true rfl) rfl ?_
    rw [hR]
    exact ⟨rfl, rfl, rfl, zEq.rf, h0⟩
  · refine z_tableIn (tgt := 146) dX11_index_31 (by decide) (by decide) rfl (by decide) ?_
    refine z_aload_n dX11_index_146 rfl ?_
    refine z_getR dX11_index_147 fX11_213 (by first | assumption | exact And.left (by assumption)) rfl ?_
    refine z_getIe dX11_index_150 fX11_210 (And.left p1.2.2.2.2) rfl n3 ?_
    refine z_ireturn dX11_index_153 (Nat.le_of_ble_eq_true rfl) (Nat.le_of_ble_eq_true rfl) rfl ?_
    rw [hR]
    exact ⟨rfl, rfl, rfl, zEq.rf, h0⟩
  · refine z_tableIn (tgt := 154) dX11_index_31 (by decide) (by decide) rfl (by decide) ?_
    refine z_aload_n dX11_index_154 rfl ?_
    refine z_getIe dX11_index_155 fX11_191 (by first | assumption | exact And.left (by assumption)) rfl (by first | assumption | exact zup_s _ _ _ _ | rfl) ?_
    refine z_ireturn dX11_index_158 (Nat.le_of_ble_eq_true rfl) (Nat.le_of_ble_eq_true rfl) rfl ?_
    rw [hR]
    exact ⟨rfl, rfl, rfl, zEq.rf, h0⟩
  · refine z_tableIn (tgt := 159) dX11_index_31 (by decide) (by decide) rfl (by decide) ?_
    refine z_aload_n dX11_index_159 rfl ?_
    refine z_getIe dX11_index_160 fX11_151 (by first | assumption | exact And.left (by assumption)) rfl (by first | assumption | exact zup_s _ _ _ _ | rfl) ?_
    refine z_iconst (v := nI 1) dX11_index_163 rfl ?_
    refine z_icmp_neN (tgt := 174) dX11_index_164 (by decide) (by omega) (by omega) (fun c_164 => ?_) (fun c_164 => ?_)
    · refine z_iconst (v := (-1)) dX11_index_174 rfl ?_
      refine z_ireturn dX11_index_175 (Nat.le_of_ble_eq_true rfl) (Nat.le_of_ble_eq_true rfl) rfl ?_
      rw [hR]
      exact ⟨by first | rw [idx, if_neg (by decide), if_neg (by decide), if_neg (by decide), if_neg (by decide), if_neg (by decide), if_neg (by decide), if_pos rfl, if_pos (show (xof w k).1.1 = 1 from c_164)] <;> rfl | (rw [idx, if_neg (by decide), if_neg (by decide), if_neg (by decide), if_neg (by decide), if_neg (by decide), if_neg (by decide), if_pos rfl, if_neg (show ¬ (xof w k).1.1 = 1 from c_164)] <;> rfl), rfl, rfl, zEq.rf, h0⟩
    · refine z_aload_n dX11_index_167 rfl ?_
      refine z_getIe dX11_index_168 fX11_166 (by first | assumption | exact And.left (by assumption)) rfl (by first | assumption | exact zup_s _ _ _ _ | rfl) ?_
      refine z_goto (tgt := 175) dX11_index_171 (by decide) ?_
      refine z_ireturn dX11_index_175 (Nat.le_of_ble_eq_true rfl) (Nat.le_of_ble_eq_true rfl) rfl ?_
      rw [hR]
      exact ⟨by first | rw [idx, if_neg (by decide), if_neg (by decide), if_neg (by decide), if_neg (by decide), if_neg (by decide), if_neg (by decide), if_pos rfl, if_pos (show (xof w k).1.1 = 1 from c_164)] <;> rfl | (rw [idx, if_neg (by decide), if_neg (by decide), if_neg (by decide), if_neg (by decide), if_neg (by decide), if_neg (by decide), if_pos rfl, if_neg (show ¬ (xof w k).1.1 = 1 from c_164)] <;> rfl), rfl, rfl, zEq.rf, h0⟩
  · refine z_tableIn (tgt := 181) dX11_index_31 (by decide) (by decide) rfl (by decide) ?_
    refine z_aload_n dX11_index_181 rfl ?_
    refine z_getR dX11_index_182 fX11_219 (by first | assumption | exact And.left (by assumption)) rfl ?_
    refine z_iload_n dX11_index_185 rfl ?_
    refine z_callV1i dX11_index_186 kX1_told lX11_222 (And.left p1.2.1) rfl (s_told p1.2.1 xd (by omega) (by omega)) (Nat.le_of_ble_eq_true rfl) (Nat.le_of_ble_eq_true rfl) ⟨Nat.le_of_ble_eq_true rfl, Nat.le_of_ble_eq_true rfl⟩ ?_
    refine z_ireturn dX11_index_189 (Nat.le_of_ble_eq_true rfl) (Nat.le_of_ble_eq_true rfl) rfl ?_
    rw [hR]
    exact ⟨rfl, rfl, rfl, zEq.rf, h0⟩
  · refine z_tableIn (tgt := 181) dX11_index_31 (by decide) (by decide) rfl (by decide) ?_
    refine z_aload_n dX11_index_181 rfl ?_
    refine z_getR dX11_index_182 fX11_219 (by first | assumption | exact And.left (by assumption)) rfl ?_
    refine z_iload_n dX11_index_185 rfl ?_
    refine z_callV1i dX11_index_186 kX1_told lX11_222 (And.left p1.2.1) rfl (s_told p1.2.1 xd (by omega) (by omega)) (Nat.le_of_ble_eq_true rfl) (Nat.le_of_ble_eq_true rfl) ⟨Nat.le_of_ble_eq_true rfl, Nat.le_of_ble_eq_true rfl⟩ ?_
    refine z_ireturn dX11_index_189 (Nat.le_of_ble_eq_true rfl) (Nat.le_of_ble_eq_true rfl) rfl ?_
    rw [hR]
    exact ⟨rfl, rfl, rfl, zEq.rf, h0⟩
  · refine z_tableIn (tgt := 181) dX11_index_31 (by decide) (by decide) rfl (by decide) ?_
    refine z_aload_n dX11_index_181 rfl ?_
    refine z_getR dX11_index_182 fX11_219 (by first | assumption | exact And.left (by assumption)) rfl ?_
    refine z_iload_n dX11_index_185 rfl ?_
    refine z_callV1i dX11_index_186 kX1_told lX11_222 (And.left p1.2.1) rfl (s_told p1.2.1 xd (by omega) (by omega)) (Nat.le_of_ble_eq_true rfl) (Nat.le_of_ble_eq_true rfl) ⟨Nat.le_of_ble_eq_true rfl, Nat.le_of_ble_eq_true rfl⟩ ?_
    refine z_ireturn dX11_index_189 (Nat.le_of_ble_eq_true rfl) (Nat.le_of_ble_eq_true rfl) rfl ?_
    rw [hR]
    exact ⟨rfl, rfl, rfl, zEq.rf, h0⟩
  · refine z_tableIn (tgt := 181) dX11_index_31 (by decide) (by decide) rfl (by decide) ?_
    refine z_aload_n dX11_index_181 rfl ?_
    refine z_getR dX11_index_182 fX11_219 (by first | assumption | exact And.left (by assumption)) rfl ?_
    refine z_iload_n dX11_index_185 rfl ?_
    refine z_callV1i dX11_index_186 kX1_told lX11_222 (And.left p1.2.1) rfl (s_told p1.2.1 xd (by omega) (by omega)) (Nat.le_of_ble_eq_true rfl) (Nat.le_of_ble_eq_true rfl) ⟨Nat.le_of_ble_eq_true rfl, Nat.le_of_ble_eq_true rfl⟩ ?_
    refine z_ireturn dX11_index_189 (Nat.le_of_ble_eq_true rfl) (Nat.le_of_ble_eq_true rfl) rfl ?_
    rw [hR]
    exact ⟨rfl, rfl, rfl, zEq.rf, h0⟩
  · refine z_tableIn (tgt := 181) dX11_index_31 (by decide) (by decide) rfl (by decide) ?_
    refine z_aload_n dX11_index_181 rfl ?_
    refine z_getR dX11_index_182 fX11_219 (by first | assumption | exact And.left (by assumption)) rfl ?_
    refine z_iload_n dX11_index_185 rfl ?_
    refine z_callV1i dX11_index_186 kX1_told lX11_222 (And.left p1.2.1) rfl (s_told p1.2.1 xd (by omega) (by omega)) (Nat.le_of_ble_eq_true rfl) (Nat.le_of_ble_eq_true rfl) ⟨Nat.le_of_ble_eq_true rfl, Nat.le_of_ble_eq_true rfl⟩ ?_
    refine z_ireturn dX11_index_189 (Nat.le_of_ble_eq_true rfl) (Nat.le_of_ble_eq_true rfl) rfl ?_
    rw [hR]
    exact ⟨rfl, rfl, rfl, zEq.rf, h0⟩
  · refine z_tableIn (tgt := 181) dX11_index_31 (by decide) (by decide) rfl (by decide) ?_
    refine z_aload_n dX11_index_181 rfl ?_
    refine z_getR dX11_index_182 fX11_219 (by first | assumption | exact And.left (by assumption)) rfl ?_
    refine z_iload_n dX11_index_185 rfl ?_
    refine z_callV1i dX11_index_186 kX1_told lX11_222 (And.left p1.2.1) rfl (s_told p1.2.1 xd (by omega) (by omega)) (Nat.le_of_ble_eq_true rfl) (Nat.le_of_ble_eq_true rfl) ⟨Nat.le_of_ble_eq_true rfl, Nat.le_of_ble_eq_true rfl⟩ ?_
    refine z_ireturn dX11_index_189 (Nat.le_of_ble_eq_true rfl) (Nat.le_of_ble_eq_true rfl) rfl ?_
    rw [hR]
    exact ⟨rfl, rfl, rfl, zEq.rf, h0⟩
  · refine z_tableIn (tgt := 181) dX11_index_31 (by decide) (by decide) rfl (by decide) ?_
    refine z_aload_n dX11_index_181 rfl ?_
    refine z_getR dX11_index_182 fX11_219 (by first | assumption | exact And.left (by assumption)) rfl ?_
    refine z_iload_n dX11_index_185 rfl ?_
    refine z_callV1i dX11_index_186 kX1_told lX11_222 (And.left p1.2.1) rfl (s_told p1.2.1 xd (by omega) (by omega)) (Nat.le_of_ble_eq_true rfl) (Nat.le_of_ble_eq_true rfl) ⟨Nat.le_of_ble_eq_true rfl, Nat.le_of_ble_eq_true rfl⟩ ?_
    refine z_ireturn dX11_index_189 (Nat.le_of_ble_eq_true rfl) (Nat.le_of_ble_eq_true rfl) rfl ?_
    rw [hR]
    exact ⟨rfl, rfl, rfl, zEq.rf, h0⟩
  · refine z_tableIn (tgt := 181) dX11_index_31 (by decide) (by decide) rfl (by decide) ?_
    refine z_aload_n dX11_index_181 rfl ?_
    refine z_getR dX11_index_182 fX11_219 (by first | assumption | exact And.left (by assumption)) rfl ?_
    refine z_iload_n dX11_index_185 rfl ?_
    refine z_callV1i dX11_index_186 kX1_told lX11_222 (And.left p1.2.1) rfl (s_told p1.2.1 xd (by omega) (by omega)) (Nat.le_of_ble_eq_true rfl) (Nat.le_of_ble_eq_true rfl) ⟨Nat.le_of_ble_eq_true rfl, Nat.le_of_ble_eq_true rfl⟩ ?_
    refine z_ireturn dX11_index_189 (Nat.le_of_ble_eq_true rfl) (Nat.le_of_ble_eq_true rfl) rfl ?_
    rw [hR]
    exact ⟨rfl, rfl, rfl, zEq.rf, h0⟩
  · refine z_tableIn (tgt := 176) dX11_index_31 (by decide) (by decide) rfl (by decide) ?_
    refine z_aload_n dX11_index_176 rfl ?_
    refine z_getIe dX11_index_177 fX11_216 (by first | assumption | exact And.left (by assumption)) rfl (by first | assumption | exact zup_s _ _ _ _ | rfl) ?_
    refine z_ireturn dX11_index_180 (Nat.le_of_ble_eq_true rfl) (Nat.le_of_ble_eq_true rfl) rfl ?_
    rw [hR]
    exact ⟨rfl, rfl, rfl, zEq.rf, h0⟩

set_option maxHeartbeats 4000000 in
set_option maxRecDepth 100000 in
theorem c_index {D : zD} {z0 nx : Nat} {L : zL} {V : zV} {a : Nat} {sw : Bool} {w : Wo} (hs : sLI L a sw) (h : LI V a sw w) {i : Int32} {x : Int32} : Sp D z0 3 0 0 mX11_index [.ref a, .int i, .int x] L V nx (zq (some (.int (o_index i x w).1)) L nx (fun V' => zEq V V' a (a + 471) ∧ LI V' a sw (o_index i x w).2)) := by
  have hs0 := hs
  have h0 := h
  obtain ⟨l1, l2, l3, l4, l5, l6, l7, l8, l9, l10, l11, l12⟩ := hs
  obtain ⟨k1, k2, k3, k4, k5, k6, k7, k8⟩ := h
  have l20 := l2
  obtain ⟨s1, s2, s3, s4, s5, s6, s7⟩ := l2
  have k10 := k1
  obtain ⟨v1, v2, v3, v4⟩ := k1
  refine Sp.of 1 (by decide) rfl rfl (Nat.le_of_ble_eq_true rfl) ?_
  refine z_iload_n dX11_index_0 rfl ?_
  refine z_callS1i dX11_index_1 kX11_isIndex lX11_144 s_isIx (Nat.le_of_ble_eq_true rfl) (Nat.le_of_ble_eq_true rfl) ⟨Nat.le_of_ble_eq_true rfl, Nat.le_of_ble_eq_true rfl⟩ ?_
  refine z_if_eqB (tgt := 17) dX11_index_4 (by decide) (fun c_4 => ?_) (fun c_4 => ?_)
  · refine z_bipush (v := (-2)) dX11_index_17 rfl ?_
    refine z_ireturn dX11_index_19 (Nat.le_of_ble_eq_true rfl) (Nat.le_of_ble_eq_true rfl) rfl ?_
    rw [show o_index i x w = (-2, w) from by unfold o_index; rw [cif_n (fun q => by first | exact c_4 q.1 | exact rng_n1 (by decide) c_8 q.2 | exact rng_gt (by decide) c_14 q.2)]]
    exact ⟨rfl, rfl, rfl, zEq.rf, h0⟩
  · refine z_iload_n dX11_index_7 rfl ?_
    refine z_if_lt (tgt := 17) dX11_index_8 (by decide) (fun c_8 => ?_) (fun c_8 => ?_)
    · refine z_bipush (v := (-2)) dX11_index_17 rfl ?_
      refine z_ireturn dX11_index_19 (Nat.le_of_ble_eq_true rfl) (Nat.le_of_ble_eq_true rfl) rfl ?_
      rw [show o_index i x w = (-2, w) from by unfold o_index; rw [cif_n (fun q => by first | exact c_4 q.1 | exact rng_n1 (by decide) c_8 q.2 | exact rng_gt (by decide) c_14 q.2)]]
      exact ⟨rfl, rfl, rfl, zEq.rf, h0⟩
    · refine z_iload_n dX11_index_11 rfl ?_
      refine z_bipush (v := nI 15) dX11_index_12 rfl ?_
      refine z_icmp_le (tgt := 20) dX11_index_14 (by decide) (fun c_14 => ?_) (fun c_14 => ?_)
      · have c_x : rng 16 x := rng_le (n := 15) (by decide) c_8 c_14
        obtain ⟨k, hk, rfl⟩ := c_4
        have hT := tn_k (k := k) (by omega)
        have q1 := i2_at (a + 1) k (by omega)
        have p1 := s7 k (by omega)
        have p2 := p1.1
        have x0 := v4 k (by omega)
        obtain ⟨⟨⟨x1, x2, x3, x4, x5⟩, x6, x7, x8, x9, x10⟩, xd, xe, xn, xl⟩ := v4 k (by omega)
        obtain ⟨j, hj, rfl⟩ := c_x
        have hJ := tn_k (k := j) (by omega)
        have hR : o_index (nI k) (nI j) w = (idx (xof w k) j, w) := by unfold o_index; rw [cif_y ⟨rng_k hk, rng_k hj⟩, hT, hJ]
        obtain ⟨f, xn1⟩ := xn
        have n1 := xe.1
        have n2 := xn1.2.1
        have n3 := xl.2.1
        refine z_aload_n dX11_index_20 rfl ?_
        refine z_getR dX11_index_21 fX11_10 (by first | assumption | exact And.left (by assumption)) rfl ?_
        refine z_getR dX11_index_24 fX11_147 (by first | assumption | exact And.left (by assumption)) rfl ?_
        refine z_iload_n dX11_index_27 rfl ?_
        refine z_aaldN dX11_index_28 (by first | assumption | exact And.left (by assumption)) (fun _ => rfl) (by exact Nat.le_of_ble_eq_true rfl) (by assumption) ?_
        refine z_astore_n dX11_index_29 (Nat.le_of_ble_eq_true rfl) rfl ?_
        refine z_iload_n dX11_index_30 rfl ?_
        exact c_index2 hs0 h0 hk hj hR
      · refine z_bipush (v := (-2)) dX11_index_17 rfl ?_
        refine z_ireturn dX11_index_19 (Nat.le_of_ble_eq_true rfl) (Nat.le_of_ble_eq_true rfl) rfl ?_
        rw [show o_index i x w = (-2, w) from by unfold o_index; rw [cif_n (fun q => by first | exact c_4 q.1 | exact rng_n1 (by decide) c_8 q.2 | exact rng_gt (by decide) c_14 q.2)]]
        exact ⟨rfl, rfl, rfl, zEq.rf, h0⟩

set_option maxHeartbeats 4000000 in
set_option maxRecDepth 100000 in
theorem c_entry {D : zD} {z0 nx : Nat} {L : zL} {V : zV} {a : Nat} {sw : Bool} {w : Wo} (hs : sLI L a sw) (h : LI V a sw w) {i : Int32} {k : Int32} {x : Int32} (hcd : ∀ i, i < 2 → cdb (xof w i)) : Sp D z0 5 0 0 mX11_entry [.ref a, .int i, .int k, .int x] L V nx (zq (some (.int (o_entry i k x w).1)) L nx (fun V' => zEq V V' a (a + 471) ∧ LI V' a sw (o_entry i k x w).2)) := by
  have hs0 := hs
  have h0 := h
  obtain ⟨l1, l2, l3, l4, l5, l6, l7, l8, l9, l10, l11, l12⟩ := hs
  obtain ⟨k1, k2, k3, k4, k5, k6, k7, k8⟩ := h
  have l20 := l2
  obtain ⟨s1, s2, s3, s4, s5, s6, s7⟩ := l2
  have k10 := k1
  obtain ⟨v1, v2, v3, v4⟩ := k1
  refine Sp.of 1 (by decide) rfl rfl (Nat.le_of_ble_eq_true rfl) ?_
  refine z_iload_n dX11_entry_0 rfl ?_
  refine z_callS1i dX11_entry_1 kX11_isIndex lX11_144 s_isIx (Nat.le_of_ble_eq_true rfl) (Nat.le_of_ble_eq_true rfl) ⟨Nat.le_of_ble_eq_true rfl, Nat.le_of_ble_eq_true rfl⟩ ?_
  refine z_if_eqB (tgt := 16) dX11_entry_4 (by decide) (fun c_4 => ?_) (fun c_4 => ?_)
  · refine z_bipush (v := (-2)) dX11_entry_16 rfl ?_
    refine z_ireturn dX11_entry_18 (Nat.le_of_ble_eq_true rfl) (Nat.le_of_ble_eq_true rfl) rfl ?_
    rw [show o_entry i k x w = (-2, w) from by unfold o_entry; rw [cif_n (fun q => by first | exact c_4 q.1 | exact rng_n1 (by decide) c_8 q.2 | exact rng_gt (by decide) c_13 q.2)]]
    exact ⟨rfl, rfl, rfl, zEq.rf, h0⟩
  · refine z_iload_n dX11_entry_7 rfl ?_
    refine z_if_lt (tgt := 16) dX11_entry_8 (by decide) (fun c_8 => ?_) (fun c_8 => ?_)
    · refine z_bipush (v := (-2)) dX11_entry_16 rfl ?_
      refine z_ireturn dX11_entry_18 (Nat.le_of_ble_eq_true rfl) (Nat.le_of_ble_eq_true rfl) rfl ?_
      rw [show o_entry i k x w = (-2, w) from by unfold o_entry; rw [cif_n (fun q => by first | exact c_4 q.1 | exact rng_n1 (by decide) c_8 q.2 | exact rng_gt (by decide) c_13 q.2)]]
      exact ⟨rfl, rfl, rfl, zEq.rf, h0⟩
    · refine z_iload_n dX11_entry_11 rfl ?_
      refine z_iconst (v := nI 3) dX11_entry_12 rfl ?_
      refine z_icmp_le (tgt := 19) dX11_entry_13 (by decide) (fun c_13 => ?_) (fun c_13 => ?_)
      · have c_x : rng 4 x := rng_le (n := 3) (by decide) c_8 c_13
        refine z_iload_n dX11_entry_19 rfl ?_
        refine z_if_ge (tgt := 26) dX11_entry_20 (by decide) (fun c_20 => ?_) (fun c_20 => ?_)
        · have hge : ¬ k < 0 := Int32.not_lt.mpr c_20
          have hR : o_entry i k x w = cif (rng (xof w (tn i)).2.2.1.length k) (pe (xof w (tn i)).2.1 ((xof w (tn i)).2.2.1.getD (tn k) 0) (tn x), w) (-1, w) := by unfold o_entry; rw [cif_y ⟨c_4, c_x⟩, if_neg hge]
          obtain ⟨hk1, hk2⟩ := nn_k hge
          obtain ⟨i0, hi, rfl⟩ := c_4
          have hT := tn_k (k := i0) (by omega)
          obtain ⟨x0i, hx0, rfl⟩ := c_x
          rw [hT, tn_k (k := x0i) (by omega)] at hR
          have q1 := i2_at (a + 1) i0 (by omega)
          have p1 := s7 i0 (by omega)
          have p2 := p1.1
          have x0 := v4 i0 (by omega)
          obtain ⟨⟨⟨x1, x2, x3, x4, x5⟩, x6, x7, x8, x9, x10⟩, xd, xe, xn, xl⟩ := v4 i0 (by omega)
          have n1 := xe.1
          have n48 := xe.2.2.1
          generalize htk : tn k = kk at *
          subst hk1
          refine z_aload_n dX11_entry_26 rfl ?_
          refine z_getR dX11_entry_27 fX11_10 (by first | assumption | exact And.left (by assumption)) rfl ?_
          refine z_getR dX11_entry_30 fX11_147 (by first | assumption | exact And.left (by assumption)) rfl ?_
          refine z_iload_n dX11_entry_33 rfl ?_
          refine z_aaldN dX11_entry_34 (by first | assumption | exact And.left (by assumption)) (fun _ => rfl) (by exact Nat.le_of_ble_eq_true rfl) (by assumption) ?_
          refine z_astore dX11_entry_35 (Nat.le_of_ble_eq_true rfl) rfl ?_
          refine z_iload_n dX11_entry_37 rfl ?_
          refine z_aload dX11_entry_38 rfl ?_
          refine z_getR dX11_entry_40 fX11_197 (by first | assumption | exact And.left (by assumption)) rfl ?_
          refine z_getIe dX11_entry_43 fX11_200 (And.left p1.2.2.1) rfl n1 ?_
          refine z_icmp_ltN (tgt := 51) dX11_entry_46 (by decide) (by omega) (by omega) (fun c_46 => ?_) (fun c_46 => ?_)
          · refine z_aload dX11_entry_51 rfl ?_
            refine z_getR dX11_entry_53 fX11_219 (by first | assumption | exact And.left (by assumption)) rfl ?_
            refine z_aload dX11_entry_56 rfl ?_
            refine z_getR dX11_entry_58 fX11_197 (by first | assumption | exact And.left (by assumption)) rfl ?_
            refine z_getR dX11_entry_61 fX11_226 (And.left p1.2.2.1) rfl ?_
            refine z_iload_n dX11_entry_64 rfl ?_
            refine z_ialdN dX11_entry_65 (And.right p1.2.2.1) (by omega) (by decide) (xe.2.1 kk (by omega)) ?_
            have hcc := (hcd i0 hi).1 _ (mem_getD (l := (w.1.2.2.2 i0).2.2.1) (k := kk) (by omega))
            refine z_iload_n dX11_entry_66 rfl ?_
            refine z_callV2i dX11_entry_67 kX1_partOfEntry lX11_230 (And.left p1.2.1) rfl (s_partOfEntry p1.2.1 xd hcc (by omega)) (Nat.le_of_ble_eq_true rfl) (Nat.le_of_ble_eq_true rfl) ⟨Nat.le_of_ble_eq_true rfl, Nat.le_of_ble_eq_true rfl⟩ ?_
            refine z_ireturn dX11_entry_70 (Nat.le_of_ble_eq_true rfl) (Nat.le_of_ble_eq_true rfl) rfl ?_
            rw [hR, cif_y (show rng (xof w i0).2.2.1.length (nI kk) from ⟨kk, by unfold xof; omega, rfl⟩)]
            exact ⟨rfl, rfl, rfl, zEq.rf, h0⟩
          · refine z_iconst (v := (-1)) dX11_entry_49 rfl ?_
            refine z_ireturn dX11_entry_50 (Nat.le_of_ble_eq_true rfl) (Nat.le_of_ble_eq_true rfl) rfl ?_
            rw [hR, cif_n (show ¬ rng (xof w i0).2.2.1.length (nI kk) from fun q => by obtain ⟨q1, q2, q3⟩ := q; have q4 := nI_inj (by omega) (by unfold xof at q2; omega) q3; unfold xof at q2; omega)]
            exact ⟨rfl, rfl, rfl, zEq.rf, h0⟩
        · have hlt : k < 0 := Int32.not_le.mp c_20
          refine z_bipush (v := (-3)) dX11_entry_23 rfl ?_
          refine z_ireturn dX11_entry_25 (Nat.le_of_ble_eq_true rfl) (Nat.le_of_ble_eq_true rfl) rfl ?_
          rw [show o_entry i k x w = (-3, w) from by unfold o_entry; rw [cif_y ⟨c_4, c_x⟩]; rw [if_pos hlt]]
          exact ⟨rfl, rfl, rfl, zEq.rf, h0⟩
      · refine z_bipush (v := (-2)) dX11_entry_16 rfl ?_
        refine z_ireturn dX11_entry_18 (Nat.le_of_ble_eq_true rfl) (Nat.le_of_ble_eq_true rfl) rfl ?_
        rw [show o_entry i k x w = (-2, w) from by unfold o_entry; rw [cif_n (fun q => by first | exact c_4 q.1 | exact rng_n1 (by decide) c_8 q.2 | exact rng_gt (by decide) c_13 q.2)]]
        exact ⟨rfl, rfl, rfl, zEq.rf, h0⟩

