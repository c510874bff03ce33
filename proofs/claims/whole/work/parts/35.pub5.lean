/-! LateIndex, on: far, alike, units, free; back; counts -/
theorem nn_k1 {x : Int32} (h : ¬ x < -1) (h1 : ¬ x = -1) : x = nI (tn x) ∧ tn x < 2147483648 := by
  refine nn_k (fun q => ?_)
  have e1 : (-1 : Int) ≤ x.toInt := by
    have := Int32.not_lt.mp h
    simpa using Int32.le_iff_toInt_le.mp this
  have e2 : x.toInt < 0 := by simpa using Int32.lt_iff_toInt_lt.mp q
  refine h1 (Int32.toInt_inj.mp ?_)
  have e3 : x.toInt = -1 := by omega
  rw [e3] <;> rfl
theorem rng_o {x : Int32} {n : Nat} (hn : n < 1000) (h : ¬ rng (n + 1) x) : x.toInt < 0 ∨ (n : Int) < x.toInt := by
  by_cases h1 : x.toInt < 0
  · exact Or.inl h1
  · by_cases h2 : (n : Int) < x.toInt
    · exact Or.inr h2
    · refine absurd ⟨x.toInt.toNat, by omega, ?_⟩ h
      apply Int32.toInt_inj.mp
      rw [nI_toInt (by omega)]
      omega
theorem LI_un {V : zV} {a n : Nat} {sw : Bool} {w : Wo} (h : LI V a sw w) (hn : n ≤ w.2.1.length) : LI (zup V a 3 (nI n)) a sw (w.1, w.2.1.take n, w.2.2) := by
  have he : zEq V (zup V a 3 (nI n)) a (a + 1) := zEq.rf.up (by omega) (by omega)
  obtain ⟨h1, ⟨u1, u2, el, u3, u4, u5, u6⟩, h3, ⟨h4, h40⟩, ⟨h5, h6⟩, ⟨q1, ⟨x, q2⟩, ⟨y, q3⟩, q4⟩, ⟨d, h8⟩, ⟨l, h9⟩⟩ := h
  have hq := qa_or a sw
  have ht : (w.2.1.take n).length = n := by simp; omega
  refine ⟨h1.eq he (by omega), ⟨by show (w.2.1.take n).length ≤ 8; omega, by show _ = nI (w.2.1.take n).length; rw [ht]; simp [zup], el, u3, by simp [zup]; exact u4, fun k hk => ?_, fun k hk => ?_⟩, h3.eq he (by omega) (by omega), ⟨h4.eq he (by omega), h40⟩, ⟨by simp [zup]; exact h5, h6⟩, ⟨by simp [zup]; exact q1, ⟨x, q2.eq he (by omega)⟩, ⟨y, q3.eq he (by omega)⟩, fun z hz => (q4 z hz).eq he (by omega)⟩, ⟨d, h8.eq he (by omega)⟩, ⟨l, h9.eq he (by omega)⟩⟩
  · obtain ⟨s, hs⟩ := u5 k hk
    exact ⟨s, hs.eq he (by omega)⟩
  · have hk2 : k < (w.2.1.take n).length := hk
    show ST _ _ ((w.2.1.take n).getD k st0)
    rw [getD_take (by omega)]
    exact (u6 k (by omega)).eq he (by omega)
theorem LI_im {V V1 : zV} {a k : Nat} {sw : Bool} {w : Wo} (h : LI V a sw w) (hk : k < 2) (he : zEq V V1 (a + 391 + 40 * k) (a + 391 + 40 * k + 40)) (hs : ST V1 (a + 391 + 40 * k) w.1) : zEq V (zup V1 (a + 43) k (nI 1)) a (a + 471) ∧ LI (zup V1 (a + 43) k (nI 1)) a sw (w.1, w.2.1, up1 w.2.2.1 k (some w.1), w.2.2.2) := by
  obtain ⟨h1, h2, h3, ⟨h4, h40⟩, ⟨h5, h6⟩, h7, ⟨d, h8⟩, ⟨l, h9⟩⟩ := h
  have e2 : zEq V1 (zup V1 (a + 43) k (nI 1)) (a + 43) (a + 44) := zEq.rf.up (by omega) (by omega)
  refine ⟨(he.wide (by omega) (by omega)).trans (e2.wide (by omega) (by omega)), (h1.eq he (by omega)).eq e2 (by omega), (h2.eq he (by omega) (by omega)).eq e2 (by omega) (by omega), fun i hi => ?_, ⟨(h4.eq he (by omega)).eq e2 (by omega), h40⟩, ⟨by rw [e2 a (by omega), he a (by omega)]; exact h5, h6⟩, (h7.eq he (by omega) (by omega)).eq e2 (by omega) (by omega), ⟨d, (h8.eq he (by omega)).eq e2 (by omega)⟩, ⟨l, (h9.eq he (by omega)).eq e2 (by omega)⟩⟩
  obtain ⟨g1, ⟨s, g2⟩, g3⟩ := h3 i hi
  by_cases e : i = k
  · subst e
    have e4 : up1 w.2.2.1 i (some w.1) i = some w.1 := up1_s _ _ _
    refine ⟨?_, ⟨_, hs.eq e2 (by omega)⟩, fun s2 hs2 => ?_⟩
    · show zup V1 (a + 43) i (nI 1) (a + 43) i = zb (up1 w.2.2.1 i (some w.1) i ≠ none)
      rw [zup_s, e4, zb_t (by simp)] <;> rfl
    · have hs3 : up1 w.2.2.1 i (some w.1) i = some s2 := hs2
      rw [e4] at hs3
      cases hs3
      exact hs.eq e2 (by omega)
  · have e4 : up1 w.2.2.1 k (some w.1) i = w.2.2.1 i := up1_o e
    refine ⟨?_, ⟨s, (g2.eq he (by omega)).eq e2 (by omega)⟩, fun s2 hs2 => ?_⟩
    · show zup V1 (a + 43) k (nI 1) (a + 43) i = zb (up1 w.2.2.1 k (some w.1) i ≠ none)
      rw [zup_k e, e4, he (a + 43) (by omega)]
      exact g1
    · have hs3 : up1 w.2.2.1 k (some w.1) i = some s2 := hs2
      rw [e4] at hs3
      exact ((g3 s2 hs3).eq he (by omega)).eq e2 (by omega)

set_option maxHeartbeats 4000000 in
set_option maxRecDepth 100000 in
theorem c_far {D : zD} {z0 nx : Nat} {L : zL} {V : zV} {a : Nat} {sw : Bool} {w : Wo} (hs : sLI L a sw) (h : LI V a sw w) {i : Int32} (hfr : ∀ i, i < 2 → 2 * cn (sh2 (xof w i).2.2.1 (tbl w i)) (xof w i).2.2.1.length ≤ (xof w i).2.2.1.length + (tbl w i).length) : Sp D z0 6 0 0 mX11_far [.ref a, .int i] L V nx (zq (some (.int (o_far i w).1)) L nx (fun V' => zEq V V' a (a + 471) ∧ LI V' a sw (o_far i w).2)) := by
  have hs0 := hs
  have h0 := h
  obtain ⟨l1, l2, l3, l4, l5, l6, l7, l8, l9, l10, l11, l12⟩ := hs
  obtain ⟨k1, k2, k3, k4, k5, k6, k7, k8⟩ := h
  have l20 := l2
  obtain ⟨s1, s2, s3, s4, s5, s6, s7⟩ := l2
  have k10 := k1
  obtain ⟨v1, v2, v3, v4⟩ := k1
  refine Sp.of 1 (by decide) rfl rfl (Nat.le_of_ble_eq_true rfl) ?_
  refine z_iload_n dX11_far_0 rfl ?_
  refine z_callS1i dX11_far_1 kX11_isIndex lX11_144 s_isIx (Nat.le_of_ble_eq_true rfl) (Nat.le_of_ble_eq_true rfl) ⟨Nat.le_of_ble_eq_true rfl, Nat.le_of_ble_eq_true rfl⟩ ?_
  refine z_if_neB (tgt := 10) dX11_far_4 (by decide) (fun c_4 => ?_) (fun c_4 => ?_)
  · obtain ⟨k, hk, rfl⟩ := c_4
    have hT := tn_k (k := k) (by omega)
    have q1 := i2_at (a + 1) k (by omega)
    have p1 := s7 k (by omega)
    have p2 := p1.1
    have x0 := v4 k (by omega)
    obtain ⟨⟨⟨x1, x2, x3, x4, x5⟩, x6, x7, x8, x9, x10⟩, xd, xe, xn, xl⟩ := v4 k (by omega)
    refine z_aload_n dX11_far_10 rfl ?_
    refine z_getR dX11_far_11 fX11_10 (by first | assumption | exact And.left (by assumption)) rfl ?_
    refine z_getR dX11_far_14 fX11_147 (by first | assumption | exact And.left (by assumption)) rfl ?_
    refine z_iload_n dX11_far_17 rfl ?_
    refine z_aaldN dX11_far_18 (by first | assumption | exact And.left (by assumption)) (fun _ => rfl) (by exact Nat.le_of_ble_eq_true rfl) (by assumption) ?_
    refine z_astore_n dX11_far_19 (Nat.le_of_ble_eq_true rfl) rfl ?_
    refine z_aload_n dX11_far_20 rfl ?_
    refine z_getIe dX11_far_21 fX11_151 (by first | assumption | exact And.left (by assumption)) rfl (by first | assumption | exact zup_s _ _ _ _ | rfl) ?_
    refine z_if_neN (tgt := 30) dX11_far_24 (by decide) (by omega) (fun c_24 => ?_) (fun c_24 => ?_)
    · refine z_aload_n dX11_far_30 rfl ?_
      refine z_getR dX11_far_31 fX11_10 (by first | assumption | exact And.left (by assumption)) rfl ?_
      refine z_aload_n dX11_far_34 rfl ?_
      refine z_getR dX11_far_35 fX11_219 (by first | assumption | exact And.left (by assumption)) rfl ?_
      refine z_null dX11_far_38 ?_
      refine z_aload_n dX11_far_39 rfl ?_
      refine z_getR dX11_far_40 fX11_54 (by first | assumption | exact And.left (by assumption)) rfl ?_
      refine z_callV3w dX11_far_43 kX7_gatherEntries lX11_305 (by first | assumption | exact And.left (by assumption)) rfl (s_gathN l20 k10 p1.2.1 xd l10 (by omega) (by omega)) (Nat.le_of_ble_eq_true rfl) (Nat.le_of_ble_eq_true rfl) ⟨Nat.le_of_ble_eq_true rfl, Nat.le_of_ble_eq_true rfl⟩ ?_
      intro V2 hV2
      obtain ⟨e2, t2⟩ := hV2
      have j1 := xe.eq e2 (by omega)
      refine z_aload_n dX11_far_46 rfl ?_
      refine z_getR dX11_far_47 fX11_197 (by first | assumption | exact And.left (by assumption)) rfl ?_
      refine z_aload_n dX11_far_50 rfl ?_
      refine z_getR dX11_far_51 fX11_54 (by first | assumption | exact And.left (by assumption)) rfl ?_
      refine z_callV1i dX11_far_54 kX6_differenceFrom lX11_309 (And.left p1.2.2.1) rfl (s_diff p1.2.2.1 j1 l10 t2 (hfr k hk)) (Nat.le_of_ble_eq_true rfl) (Nat.le_of_ble_eq_true rfl) ⟨Nat.le_of_ble_eq_true rfl, Nat.le_of_ble_eq_true rfl⟩ ?_
      refine z_ireturn dX11_far_57 (Nat.le_of_ble_eq_true rfl) (Nat.le_of_ble_eq_true rfl) rfl ?_
      rw [show o_far (nI k) w = (nI ((xof w k).2.2.1.length + (tbl w k).length - 2 * cn (sh2 (xof w k).2.2.1 (tbl w k)) (xof w k).2.2.1.length), w) from by unfold o_far; rw [cif_y (rng_k hk), hT, if_neg (show ¬ (xof w k).1.1 = 0 from c_24)]]
      exact ⟨rfl, rfl, rfl, e2.wide (by omega) (by omega), LI_sc h0 e2 ⟨_, t2⟩⟩
    · refine z_bipush (v := (-5)) dX11_far_27 rfl ?_
      refine z_ireturn dX11_far_29 (Nat.le_of_ble_eq_true rfl) (Nat.le_of_ble_eq_true rfl) rfl ?_
      rw [show o_far (nI k) w = (-5, w) from by unfold o_far; rw [cif_y (rng_k hk)]; rw [hT]; rw [if_pos (show (xof w k).1.1 = 0 from c_24)]]
      exact ⟨rfl, rfl, rfl, zEq.rf, h0⟩
  · refine z_bipush (v := (-2)) dX11_far_7 rfl ?_
    refine z_ireturn dX11_far_9 (Nat.le_of_ble_eq_true rfl) (Nat.le_of_ble_eq_true rfl) rfl ?_
    rw [show o_far i w = (-2, w) from by unfold o_far; rw [cif_n c_4]]
    exact ⟨rfl, rfl, rfl, zEq.rf, h0⟩

set_option maxHeartbeats 4000000 in
set_option maxRecDepth 100000 in
theorem c_alike {D : zD} {z0 nx : Nat} {L : zL} {V : zV} {a : Nat} {sw : Bool} {w : Wo} (hs : sLI L a sw) (h : LI V a sw w) {i : Int32} {g : Int32} {j : Int32} : Sp D z0 6 0 0 mX11_alike [.ref a, .int i, .int g, .int j] L V nx (zq (some (.int (o_alike i g j w).1)) L nx (fun V' => zEq V V' a (a + 471) ∧ LI V' a sw (o_alike i g j w).2)) := by
  have hs0 := hs
  have h0 := h
  obtain ⟨l1, l2, l3, l4, l5, l6, l7, l8, l9, l10, l11, l12⟩ := hs
  obtain ⟨k1, k2, k3, k4, k5, k6, k7, k8⟩ := h
  have l20 := l2
  obtain ⟨s1, s2, s3, s4, s5, s6, s7⟩ := l2
  have k10 := k1
  obtain ⟨v1, v2, v3, v4⟩ := k1
  refine Sp.of 1 (by decide) rfl rfl (Nat.le_of_ble_eq_true rfl) ?_
  refine z_iload_n dX11_alike_0 rfl ?_
  refine z_callS1i dX11_alike_1 kX11_isIndex lX11_144 s_isIx (Nat.le_of_ble_eq_true rfl) (Nat.le_of_ble_eq_true rfl) ⟨Nat.le_of_ble_eq_true rfl, Nat.le_of_ble_eq_true rfl⟩ ?_
  refine z_if_neB (tgt := 10) dX11_alike_4 (by decide) (fun c_4 => ?_) (fun c_4 => ?_)
  · refine z_iload_n dX11_alike_10 rfl ?_
    refine z_iconst (v := (-1)) dX11_alike_11 rfl ?_
    refine z_icmp_lt (tgt := 19) dX11_alike_12 (by decide) (fun c_12 => ?_) (fun c_12 => ?_)
    · refine z_bipush (v := (-3)) dX11_alike_19 rfl ?_
      refine z_ireturn dX11_alike_21 (Nat.le_of_ble_eq_true rfl) (Nat.le_of_ble_eq_true rfl) rfl ?_
      rw [show o_alike i g j w = (-3, w) from by unfold o_alike; rw [cif_y c_4]; rw [cif_y (by first | exact Or.inl c_12 | exact Or.inr (Int32.not_le.mp c_16))]]
      exact ⟨rfl, rfl, rfl, zEq.rf, h0⟩
    · refine z_iload_n dX11_alike_15 rfl ?_
      refine z_if_ge (tgt := 22) dX11_alike_16 (by decide) (fun c_16 => ?_) (fun c_16 => ?_)
      · have hge : ¬ (g < -1 ∨ j < 0) := fun q => q.elim c_12 (Int32.not_lt.mpr c_16)
        have hR : o_alike i g j w = (if (xof w (tn i)).1.1 = 0 then (-5, w) else (if g = -1 then nI (cn (ot (tbl w (tn i))) (tbl w (tn i)).length) else rt (tbl w (tn i)) (tn g) (tn j), w)) := by unfold o_alike; rw [cif_y c_4, cif_n hge]
        obtain ⟨k, hk, rfl⟩ := c_4
        have hT := tn_k (k := k) (by omega)
        have q1 := i2_at (a + 1) k (by omega)
        have p1 := s7 k (by omega)
        have p2 := p1.1
        have x0 := v4 k (by omega)
        obtain ⟨⟨⟨x1, x2, x3, x4, x5⟩, x6, x7, x8, x9, x10⟩, xd, xe, xn, xl⟩ := v4 k (by omega)
        rw [hT] at hR
        refine z_aload_n dX11_alike_22 rfl ?_
        refine z_getR dX11_alike_23 fX11_10 (by first | assumption | exact And.left (by assumption)) rfl ?_
        refine z_getR dX11_alike_26 fX11_147 (by first | assumption | exact And.left (by assumption)) rfl ?_
        refine z_iload_n dX11_alike_29 rfl ?_
        refine z_aaldN dX11_alike_30 (by first | assumption | exact And.left (by assumption)) (fun _ => rfl) (by exact Nat.le_of_ble_eq_true rfl) (by assumption) ?_
        refine z_astore dX11_alike_31 (Nat.le_of_ble_eq_true rfl) rfl ?_
        refine z_aload dX11_alike_33 rfl ?_
        refine z_getIe dX11_alike_35 fX11_151 (by first | assumption | exact And.left (by assumption)) rfl (by first | assumption | exact zup_s _ _ _ _ | rfl) ?_
        refine z_if_neN (tgt := 44) dX11_alike_38 (by decide) (by omega) (fun c_38 => ?_) (fun c_38 => ?_)
        · refine z_aload_n dX11_alike_44 rfl ?_
          refine z_getR dX11_alike_45 fX11_10 (by first | assumption | exact And.left (by assumption)) rfl ?_
          refine z_aload dX11_alike_48 rfl ?_
          refine z_getR dX11_alike_50 fX11_219 (by first | assumption | exact And.left (by assumption)) rfl ?_
          refine z_null dX11_alike_53 ?_
          refine z_aload_n dX11_alike_54 rfl ?_
          refine z_getR dX11_alike_55 fX11_54 (by first | assumption | exact And.left (by assumption)) rfl ?_
          refine z_callV3w dX11_alike_58 kX7_gatherEntries lX11_305 (by first | assumption | exact And.left (by assumption)) rfl (s_gathN l20 k10 p1.2.1 xd l10 (by omega) (by omega)) (Nat.le_of_ble_eq_true rfl) (Nat.le_of_ble_eq_true rfl) ⟨Nat.le_of_ble_eq_true rfl, Nat.le_of_ble_eq_true rfl⟩ ?_
          intro V2 hV2
          obtain ⟨e2, t2⟩ := hV2
          rw [if_neg (show ¬ (xof w k).1.1 = 0 from c_38)] at hR
          refine z_iload_n dX11_alike_61 rfl ?_
          refine z_iconst (v := (-1)) dX11_alike_62 rfl ?_
          refine z_icmp_ne (tgt := 76) dX11_alike_63 (by decide) (fun c_63 => ?_) (fun c_63 => ?_)
          · obtain ⟨g1, g2⟩ := nn_k1 (fun q => hge (Or.inl q)) c_63
            obtain ⟨j1, j2⟩ := nn_k (fun q => hge (Or.inr q))
            rw [if_neg c_63] at hR
            refine z_aload_n dX11_alike_76 rfl ?_
            refine z_getR dX11_alike_77 fX11_54 (by first | assumption | exact And.left (by assumption)) rfl ?_
            refine z_iload_n dX11_alike_80 rfl ?_
            refine z_iload_n dX11_alike_81 rfl ?_
            rw [g1, j1]
            refine z_callV2i dX11_alike_82 kX6_rowOfTwins lX11_316 (And.left l10) rfl (s_rowOf l10 t2 g2 j2) (Nat.le_of_ble_eq_true rfl) (Nat.le_of_ble_eq_true rfl) ⟨Nat.le_of_ble_eq_true rfl, Nat.le_of_ble_eq_true rfl⟩ ?_
            refine z_ireturn dX11_alike_85 (Nat.le_of_ble_eq_true rfl) (Nat.le_of_ble_eq_true rfl) rfl ?_
            first
              | (rw [hR]; exact ⟨rfl, rfl, rfl, e2.wide (by omega) (by omega), LI_sc h0 e2 ⟨_, t2⟩⟩)
              | (rw [← g1, ← j1, hR]; exact ⟨rfl, rfl, rfl, e2.wide (by omega) (by omega), LI_sc h0 e2 ⟨_, t2⟩⟩)
          · rw [if_pos c_63] at hR
            refine z_aload_n dX11_alike_66 rfl ?_
            refine z_getR dX11_alike_67 fX11_54 (by first | assumption | exact And.left (by assumption)) rfl ?_
            refine z_callV0i dX11_alike_70 kX6_twinGroups lX11_313 (And.left l10) rfl (s_groups l10 t2) (Nat.le_of_ble_eq_true rfl) (Nat.le_of_ble_eq_true rfl) ⟨Nat.le_of_ble_eq_true rfl, Nat.le_of_ble_eq_true rfl⟩ ?_
            refine z_goto (tgt := 85) dX11_alike_73 (by decide) ?_
            refine z_ireturn dX11_alike_85 (Nat.le_of_ble_eq_true rfl) (Nat.le_of_ble_eq_true rfl) rfl ?_
            first
              | (rw [hR]; exact ⟨rfl, rfl, rfl, e2.wide (by omega) (by omega), LI_sc h0 e2 ⟨_, t2⟩⟩)
              | (rw [← g1, ← j1, hR]; exact ⟨rfl, rfl, rfl, e2.wide (by omega) (by omega), LI_sc h0 e2 ⟨_, t2⟩⟩)
        · refine z_bipush (v := (-5)) dX11_alike_41 rfl ?_
          refine z_ireturn dX11_alike_43 (Nat.le_of_ble_eq_true rfl) (Nat.le_of_ble_eq_true rfl) rfl ?_
          rw [hR, if_pos (show (xof w k).1.1 = 0 from c_38)]
          exact ⟨rfl, rfl, rfl, zEq.rf, h0⟩
      · refine z_bipush (v := (-3)) dX11_alike_19 rfl ?_
        refine z_ireturn dX11_alike_21 (Nat.le_of_ble_eq_true rfl) (Nat.le_of_ble_eq_true rfl) rfl ?_
        rw [show o_alike i g j w = (-3, w) from by unfold o_alike; rw [cif_y c_4]; rw [cif_y (by first | exact Or.inl c_12 | exact Or.inr (Int32.not_le.mp c_16))]]
        exact ⟨rfl, rfl, rfl, zEq.rf, h0⟩
  · refine z_bipush (v := (-2)) dX11_alike_7 rfl ?_
    refine z_ireturn dX11_alike_9 (Nat.le_of_ble_eq_true rfl) (Nat.le_of_ble_eq_true rfl) rfl ?_
    rw [show o_alike i g j w = (-2, w) from by unfold o_alike; rw [cif_n c_4]]
    exact ⟨rfl, rfl, rfl, zEq.rf, h0⟩

set_option maxHeartbeats 4000000 in
set_option maxRecDepth 100000 in
theorem c_units {D : zD} {z0 nx : Nat} {L : zL} {V : zV} {a : Nat} {sw : Bool} {w : Wo} (hs : sLI L a sw) (h : LI V a sw w) {i : Int32} {x : Int32} (hrd : ∀ i, i < 2 → (xof w i).1.2.2.2.1 < 900000) : Sp D z0 4 0 0 mX11_units [.ref a, .int i, .int x] L V nx (zq (some (.int (o_units i x w).1)) L nx (fun V' => zEq V V' a (a + 471) ∧ LI V' a sw (o_units i x w).2)) := by
  have hs0 := hs
  have h0 := h
  obtain ⟨l1, l2, l3, l4, l5, l6, l7, l8, l9, l10, l11, l12⟩ := hs
  obtain ⟨k1, k2, k3, k4, k5, k6, k7, k8⟩ := h
  have l20 := l2
  obtain ⟨s1, s2, s3, s4, s5, s6, s7⟩ := l2
  have k10 := k1
  obtain ⟨v1, v2, v3, v4⟩ := k1
  refine Sp.of 1 (by decide) rfl rfl (Nat.le_of_ble_eq_true rfl) ?_
  refine z_iload_n dX11_units_0 rfl ?_
  refine z_callS1i dX11_units_1 kX11_isIndex lX11_144 s_isIx (Nat.le_of_ble_eq_true rfl) (Nat.le_of_ble_eq_true rfl) ⟨Nat.le_of_ble_eq_true rfl, Nat.le_of_ble_eq_true rfl⟩ ?_
  refine z_if_neB (tgt := 10) dX11_units_4 (by decide) (fun c_4 => ?_) (fun c_4 => ?_)
  · refine z_iload_n dX11_units_10 rfl ?_
    refine z_if_lt (tgt := 19) dX11_units_11 (by decide) (fun c_11 => ?_) (fun c_11 => ?_)
    · refine z_bipush (v := (-3)) dX11_units_19 rfl ?_
      refine z_ireturn dX11_units_21 (Nat.le_of_ble_eq_true rfl) (Nat.le_of_ble_eq_true rfl) rfl ?_
      rw [show o_units i x w = (-3, w) from by unfold o_units; rw [cif_y c_4]; rw [cif_n (by first | exact rng_n1 (by decide) c_11 | exact rng_gt (by decide) c_16)]]
      exact ⟨rfl, rfl, rfl, zEq.rf, h0⟩
    · refine z_iload_n dX11_units_14 rfl ?_
      refine z_iconst (v := nI 5) dX11_units_15 rfl ?_
      refine z_icmp_le (tgt := 22) dX11_units_16 (by decide) (fun c_16 => ?_) (fun c_16 => ?_)
      · have c_x : rng 6 x := rng_le (n := 5) (by decide) c_11 c_16
        have hR : o_units i x w = (cif (und (xof w (tn i))) (ua (tn x) w.1.1.2.1 w.1.1.2.2 999 1 ((xof w (tn i)).1.1, (xof w (tn i)).1.2.2.1, (xof w (tn i)).1.2.2.2.1, (xof w (tn i)).2.2.2.1.length, (xof w (tn i)).2.2.2.2.length), w) (-5, w)) := by unfold o_units; rw [cif_y c_4, cif_y c_x]
        obtain ⟨j, hj, rfl⟩ := c_x
        obtain ⟨k, hk, rfl⟩ := c_4
        have hT := tn_k (k := k) (by omega)
        have q1 := i2_at (a + 1) k (by omega)
        have p1 := s7 k (by omega)
        have p2 := p1.1
        have x0 := v4 k (by omega)
        obtain ⟨⟨⟨x1, x2, x3, x4, x5⟩, x6, x7, x8, x9, x10⟩, xd, xe, xn, xl⟩ := v4 k (by omega)
        rw [hT, tn_k (k := j) (by omega)] at hR
        have w2 := v1.2.1
        have w3 := v1.2.2.1
        have w4 := v1.2.2.2.2
        refine z_aload_n dX11_units_22 rfl ?_
        refine z_getR dX11_units_23 fX11_10 (by first | assumption | exact And.left (by assumption)) rfl ?_
        refine z_getR dX11_units_26 fX11_147 (by first | assumption | exact And.left (by assumption)) rfl ?_
        refine z_iload_n dX11_units_29 rfl ?_
        refine z_aaldN dX11_units_30 (by first | assumption | exact And.left (by assumption)) (fun _ => rfl) (by exact Nat.le_of_ble_eq_true rfl) (by assumption) ?_
        refine z_astore_n dX11_units_31 (Nat.le_of_ble_eq_true rfl) rfl ?_
        refine z_aload_n dX11_units_32 rfl ?_
        refine z_callV0i dX11_units_33 kX3_isUnderWay lX11_170 p1.1 rfl (s_under p1 x0) (Nat.le_of_ble_eq_true rfl) (Nat.le_of_ble_eq_true rfl) ⟨Nat.le_of_ble_eq_true rfl, Nat.le_of_ble_eq_true rfl⟩ ?_
        refine z_if_neB (tgt := 42) dX11_units_36 (by decide) (fun c_36 => ?_) (fun c_36 => ?_)
        · refine z_aload_n dX11_units_42 rfl ?_
          refine z_iload_n dX11_units_43 rfl ?_
          refine z_aload_n dX11_units_44 rfl ?_
          refine z_getR dX11_units_45 fX11_10 (by first | assumption | exact And.left (by assumption)) rfl ?_
          refine z_getIe dX11_units_48 fX11_178 (by first | assumption | exact And.left (by assumption)) rfl w2 ?_
          refine z_aload_n dX11_units_51 rfl ?_
          refine z_getR dX11_units_52 fX11_10 (by first | assumption | exact And.left (by assumption)) rfl ?_
          refine z_getIe dX11_units_55 fX11_181 (by first | assumption | exact And.left (by assumption)) rfl w3 ?_
          refine z_callV3i dX11_units_58 kX3_unitsAhead lX11_319 p1.1 rfl (s_units p1 x0 (by omega) (by omega) (by omega) (hrd k hk)) (Nat.le_of_ble_eq_true rfl) (Nat.le_of_ble_eq_true rfl) ⟨Nat.le_of_ble_eq_true rfl, Nat.le_of_ble_eq_true rfl⟩ ?_
          refine z_ireturn dX11_units_61 (Nat.le_of_ble_eq_true rfl) (Nat.le_of_ble_eq_true rfl) rfl ?_
          rw [hR, cif_y (show und (xof w k) from c_36)]
          exact ⟨rfl, rfl, rfl, zEq.rf, h0⟩
        · refine z_bipush (v := (-5)) dX11_units_39 rfl ?_
          refine z_ireturn dX11_units_41 (Nat.le_of_ble_eq_true rfl) (Nat.le_of_ble_eq_true rfl) rfl ?_
          rw [hR, cif_n (show ¬ und (xof w k) from c_36)]
          exact ⟨rfl, rfl, rfl, zEq.rf, h0⟩
      · refine z_bipush (v := (-3)) dX11_units_19 rfl ?_
        refine z_ireturn dX11_units_21 (Nat.le_of_ble_eq_true rfl) (Nat.le_of_ble_eq_true rfl) rfl ?_
        rw [show o_units i x w = (-3, w) from by unfold o_units; rw [cif_y c_4]; rw [cif_n (by first | exact rng_n1 (by decide) c_11 | exact rng_gt (by decide) c_16)]]
        exact ⟨rfl, rfl, rfl, zEq.rf, h0⟩
  · refine z_bipush (v := (-2)) dX11_units_7 rfl ?_
    refine z_ireturn dX11_units_9 (Nat.le_of_ble_eq_true rfl) (Nat.le_of_ble_eq_true rfl) rfl ?_
    rw [show o_units i x w = (-2, w) from by unfold o_units; rw [cif_n c_4]]
    exact ⟨rfl, rfl, rfl, zEq.rf, h0⟩

set_option maxHeartbeats 4000000 in
set_option maxRecDepth 100000 in
theorem lp_free {D : zD} {z0 nx : Nat} {L : zL} {V : zV} {a : Nat} {sw : Bool} {w : Wo} (hs : sLI L a sw) (h : LI V a sw w) : ∀ (fu : Nat) (r : Nat), 48 - r = fu → r ≤ 48 → (∀ k, k < r → ¬ fre w k) → Z D z0 4 0 0 mX11_free 0 0 2 [some (.ref a), some (.int (nI r))] [] L V nx (zq (some (.int (o_free w).1)) L nx (fun V' => zEq V V' a (a + 471) ∧ LI V' a sw (o_free w).2)) := by
  intro fu
  induction fu using Nat.strongRecOn with
  | ind fu ih =>
    intro r h_fu h_0 h_1
    have hs0 := hs
    have h0 := h
    obtain ⟨l1, l2, l3, l4, l5, l6, l7, l8, l9, l10, l11, l12⟩ := hs
    obtain ⟨k1, k2, k3, k4, k5, k6, k7, k8⟩ := h
    have l20 := l2
    obtain ⟨s1, s2, s3, s4, s5, s6, s7⟩ := l2
    have k10 := k1
    obtain ⟨v1, v2, v3, v4⟩ := k1
    refine z_iload_n dX11_free_2 rfl ?_
    refine z_bipush (v := nI 48) dX11_free_3 rfl ?_
    refine z_icmp_geN (tgt := 42) dX11_free_5 (by decide) (by omega) (by omega) (fun c_5 => ?_) (fun c_5 => ?_)
    · refine z_iconst (v := (-1)) dX11_free_42 rfl ?_
      refine z_ireturn dX11_free_43 (Nat.le_of_ble_eq_true rfl) (Nat.le_of_ble_eq_true rfl) rfl ?_
      have e : fs (fre w) 48 = 48 := fs_eq (fun k hk => h_1 k (by omega)) (by omega) (fun q => absurd q (by omega))
      rw [show o_free w = (-1, w) from by unfold o_free; rw [e, if_neg (by omega)]]
      exact ⟨rfl, rfl, rfl, zEq.rf, h0⟩
    · refine z_aload_n dX11_free_8 rfl ?_
      refine z_getR dX11_free_9 fX11_10 (by first | assumption | exact And.left (by assumption)) rfl ?_
      refine z_getR dX11_free_12 fX11_174 (by first | assumption | exact And.left (by assumption)) rfl ?_
      refine z_iload_n dX11_free_15 rfl ?_
      have hl := (k10.2.1.lst (r := r) (by omega)).2
      refine z_callV1i dX11_free_16 kX10_latest lX11_322 (by first | assumption | exact And.left (by assumption)) rfl (s_latest s2 v2 (by omega)) (Nat.le_of_ble_eq_true rfl) (Nat.le_of_ble_eq_true rfl) ⟨Nat.le_of_ble_eq_true rfl, Nat.le_of_ble_eq_true rfl⟩ ?_
      refine z_iconst (v := (-1)) dX11_free_19 rfl ?_
      refine z_icmp_ne (tgt := 36) dX11_free_20 (by decide) (fun c_20 => ?_) (fun c_20 => ?_)
      · have hno : ¬ fre w r := fun q => c_20 (by rw [q.1] <;> rfl)
        refine z_incN dX11_free_36 rfl rfl ?_
        refine z_goto (tgt := 2) dX11_free_39 (by decide) ?_
        exact ih _ (by omega) (r + 1) rfl (by omega) (lt_s h_1 hno)
      · have hsn : (lst w.1.2.1 r).2 = none := (vv_m1' (fun p hp => by have := hl p hp; omega)).mp c_20
        refine z_aload_n dX11_free_23 rfl ?_
        refine z_getR dX11_free_24 fX11_10 (by first | assumption | exact And.left (by assumption)) rfl ?_
        refine z_iload_n dX11_free_27 rfl ?_
        refine z_callV1i dX11_free_28 kX7_isBeingWritten lX11_325 (by first | assumption | exact And.left (by assumption)) rfl (s_beingWritten l20 k10 (by omega)) (Nat.le_of_ble_eq_true rfl) (Nat.le_of_ble_eq_true rfl) ⟨Nat.le_of_ble_eq_true rfl, Nat.le_of_ble_eq_true rfl⟩ ?_
        refine z_if_neB (tgt := 36) dX11_free_31 (by decide) (fun c_31 => ?_) (fun c_31 => ?_)
        · have hno : ¬ fre w r := fun q => q.2 c_31
          refine z_incN dX11_free_36 rfl rfl ?_
          refine z_goto (tgt := 2) dX11_free_39 (by decide) ?_
          exact ih _ (by omega) (r + 1) rfl (by omega) (lt_s h_1 hno)
        · refine z_iload_n dX11_free_34 rfl ?_
          refine z_ireturn dX11_free_35 (Nat.le_of_ble_eq_true rfl) (Nat.le_of_ble_eq_true rfl) rfl ?_
          have e : fs (fre w) 48 = r := fs_eq h_1 (by omega) (fun _ => ⟨hsn, c_31⟩)
          rw [show o_free w = (nI r, w) from by unfold o_free; rw [e, if_pos (by omega)]]
          exact ⟨rfl, rfl, rfl, zEq.rf, h0⟩

set_option maxHeartbeats 4000000 in
set_option maxRecDepth 100000 in
theorem c_free {D : zD} {z0 nx : Nat} {L : zL} {V : zV} {a : Nat} {sw : Bool} {w : Wo} (hs : sLI L a sw) (h : LI V a sw w) : Sp D z0 4 0 0 mX11_free [.ref a] L V nx (zq (some (.int (o_free w).1)) L nx (fun V' => zEq V V' a (a + 471) ∧ LI V' a sw (o_free w).2)) := by
  have hs0 := hs
  have h0 := h
  obtain ⟨l1, l2, l3, l4, l5, l6, l7, l8, l9, l10, l11, l12⟩ := hs
  obtain ⟨k1, k2, k3, k4, k5, k6, k7, k8⟩ := h
  have l20 := l2
  obtain ⟨s1, s2, s3, s4, s5, s6, s7⟩ := l2
  have k10 := k1
  obtain ⟨v1, v2, v3, v4⟩ := k1
  refine Sp.of 1 (by decide) rfl rfl (Nat.le_of_ble_eq_true rfl) ?_
  refine z_iconst (v := nI 0) dX11_free_0 rfl ?_
  refine z_istore_n dX11_free_1 (Nat.le_of_ble_eq_true rfl) rfl ?_
  exact lp_free hs0 h0 _ 0 rfl (by omega) (fun k hk => absurd hk (by omega))

set_option maxHeartbeats 4000000 in
set_option maxRecDepth 100000 in
theorem c_undo {D : zD} {z0 nx : Nat} {L : zL} {V : zV} {a : Nat} {sw : Bool} {w : Wo} (hs : sLI L a sw) (h : LI V a sw w) {n : Int32} : Sp D z0 6 0 0 mX11_undo [.ref a, .int n] L V nx (zq (some (.int (o_undo n w).1)) L nx (fun V' => zEq V V' a (a + 471) ∧ LI V' a sw (o_undo n w).2)) := by
  have hs0 := hs
  have h0 := h
  obtain ⟨l1, l2, l3, l4, l5, l6, l7, l8, l9, l10, l11, l12⟩ := hs
  obtain ⟨k1, k2, k3, k4, k5, k6, k7, k8⟩ := h
  have l20 := l2
  obtain ⟨s1, s2, s3, s4, s5, s6, s7⟩ := l2
  have k10 := k1
  obtain ⟨v1, v2, v3, v4⟩ := k1
  obtain ⟨u1, u2, el, u3, u4, u5, u6⟩ := k2
  refine Sp.of 0 (by decide) rfl rfl (Nat.le_of_ble_eq_true rfl) ?_
  refine z_iload_n dX11_undo_0 rfl ?_
  refine z_iconst (v := nI 1) dX11_undo_1 rfl ?_
  refine z_icmp_lt (tgt := 13) dX11_undo_2 (by decide) (fun c_2 => ?_) (fun c_2 => ?_)
  · refine z_bipush (v := (-3)) dX11_undo_13 rfl ?_
    refine z_ireturn dX11_undo_15 (Nat.le_of_ble_eq_true rfl) (Nat.le_of_ble_eq_true rfl) rfl ?_
    rw [show o_undo n w = (-3, w) from by unfold o_undo; rw [cif_n (fun q => by first | exact rng_lt0 (by omega) c_2 q | exact rng_gt (by omega) c_10 q.1)]]
    exact ⟨rfl, rfl, rfl, zEq.rf, h0⟩
  · refine z_iload_n dX11_undo_5 rfl ?_
    refine z_aload_n dX11_undo_6 rfl ?_
    refine z_getIe dX11_undo_7 fX11_328 (by first | assumption | exact And.left (by assumption)) rfl u2 ?_
    refine z_icmp_le (tgt := 16) dX11_undo_10 (by decide) (fun c_10 => ?_) (fun c_10 => ?_)
    · have c_n := rng_1n (n := w.2.1.length) (by omega) c_2 c_10
      have hR : o_undo n w = (nI (w.2.1.length - tn n), (w.2.1.getD (w.2.1.length - tn n) st0, w.2.1.take (w.2.1.length - tn n), w.2.2)) := by unfold o_undo; rw [cif_y c_n]
      obtain ⟨⟨k, hk, rfl⟩, hk0⟩ := c_n
      have hk1 : ¬ k = 0 := fun q => hk0 (by rw [q]; rfl)
      rw [tn_k (k := k) (by omega)] at hR
      refine z_aload_n dX11_undo_16 rfl ?_
      refine z_dup dX11_undo_17 rfl ?_
      refine z_getIe dX11_undo_18 fX11_328 (by first | assumption | exact And.left (by assumption)) rfl u2 ?_
      refine z_iload_n dX11_undo_21 rfl ?_
      refine z_subN dX11_undo_22 (by omega) ?_
      refine z_putI dX11_undo_23 fX11_328 (by first | assumption | exact And.left (by assumption)) rfl ?_
      have he : zEq V (zup V a 3 (nI (w.2.1.length - k))) a (a + 1) := zEq.rf.up (by omega) (by omega)
      have h9 := LI_un (n := w.2.1.length - k) h0 (by omega)
      refine z_aload_n dX11_undo_26 rfl ?_
      refine z_getR dX11_undo_27 fX11_10 (by first | assumption | exact And.left (by assumption)) rfl ?_
      refine z_aload_n dX11_undo_30 rfl ?_
      refine z_getR dX11_undo_31 fX11_16 (by first | assumption | exact And.left (by assumption)) rfl ?_
      refine z_aload_n dX11_undo_34 rfl ?_
      refine z_getIe dX11_undo_35 fX11_331 (by first | assumption | exact And.left (by assumption)) rfl ((zup_k (by decide)).trans u4) ?_
      refine z_aload_n dX11_undo_38 rfl ?_
      refine z_getIe dX11_undo_39 fX11_328 (by first | assumption | exact And.left (by assumption)) rfl (by first | assumption | exact zup_s _ _ _ _ | rfl) ?_
      refine z_addN dX11_undo_42 ?_
      refine z_bipush (v := nI 8) dX11_undo_43 rfl ?_
      refine z_remN dX11_undo_45 (by omega) (by omega) (by omega) ?_
      have q1 := e8_at a ((el + (w.2.1.length - k)) % 8) (by omega)
      have p1 := l11 ((el + (w.2.1.length - k)) % 8) (by omega)
      refine z_aaldN dX11_undo_46 (by first | assumption | exact And.left (by assumption)) (fun _ => rfl) (by exact Nat.le_of_ble_eq_true rfl) (by assumption) ?_
      refine z_callV1w dX11_undo_47 kX7_copyFrom lX11_334 (by first | assumption | exact And.left (by assumption)) rfl (s_STcopy l20 (k10.eq he (by omega)) p1 ((u6 (w.2.1.length - k) (by omega)).eq he (by omega)) (by omega)) (Nat.le_of_ble_eq_true rfl) (Nat.le_of_ble_eq_true rfl) ⟨Nat.le_of_ble_eq_true rfl, Nat.le_of_ble_eq_true rfl⟩ ?_
      intro V2 hV2
      obtain ⟨e2, t2⟩ := hV2
      refine z_aload_n dX11_undo_50 rfl ?_
      refine z_getIe dX11_undo_51 fX11_328 (by first | assumption | exact And.left (by assumption)) rfl ((congrFun (e2 a (by omega)) 3).trans (zup_s _ _ _ _)) ?_
      refine z_ireturn dX11_undo_54 (Nat.le_of_ble_eq_true rfl) (Nat.le_of_ble_eq_true rfl) rfl ?_
      rw [hR]
      exact ⟨rfl, rfl, rfl, (he.wide (by omega) (by omega)).trans (e2.wide (by omega) (by omega)), LI_st h9 (e2.wide (by omega) (by omega)) t2⟩
    · refine z_bipush (v := (-3)) dX11_undo_13 rfl ?_
      refine z_ireturn dX11_undo_15 (Nat.le_of_ble_eq_true rfl) (Nat.le_of_ble_eq_true rfl) rfl ?_
      rw [show o_undo n w = (-3, w) from by unfold o_undo; rw [cif_n (fun q => by first | exact rng_lt0 (by omega) c_2 q | exact rng_gt (by omega) c_10 q.1)]]
      exact ⟨rfl, rfl, rfl, zEq.rf, h0⟩

set_option maxHeartbeats 4000000 in
set_option maxRecDepth 100000 in
theorem c_image {D : zD} {z0 nx : Nat} {L : zL} {V : zV} {a : Nat} {sw : Bool} {w : Wo} (hs : sLI L a sw) (h : LI V a sw w) {i : Int32} : Sp D z0 6 0 0 mX11_image [.ref a, .int i] L V nx (zq (some (.int (o_image i w).1)) L nx (fun V' => zEq V V' a (a + 471) ∧ LI V' a sw (o_image i w).2)) := by
  have hs0 := hs
  have h0 := h
  obtain ⟨l1, l2, l3, l4, l5, l6, l7, l8, l9, l10, l11, l12⟩ := hs
  obtain ⟨k1, k2, k3, k4, k5, k6, k7, k8⟩ := h
  have l20 := l2
  obtain ⟨s1, s2, s3, s4, s5, s6, s7⟩ := l2
  have k10 := k1
  obtain ⟨v1, v2, v3, v4⟩ := k1
  refine Sp.of 0 (by decide) rfl rfl (Nat.le_of_ble_eq_true rfl) ?_
  refine z_iload_n dX11_image_0 rfl ?_
  refine z_if_lt (tgt := 9) dX11_image_1 (by decide) (fun c_1 => ?_) (fun c_1 => ?_)
  · refine z_bipush (v := (-2)) dX11_image_9 rfl ?_
    refine z_ireturn dX11_image_11 (Nat.le_of_ble_eq_true rfl) (Nat.le_of_ble_eq_true rfl) rfl ?_
    rw [show o_image i w = (-2, w) from by unfold o_image; rw [cif_n (by first | exact rng_n1 (by decide) c_1 | exact rng_n2 (by decide) (Int32.not_lt.mp c_6))]]
    exact ⟨rfl, rfl, rfl, zEq.rf, h0⟩
  · refine z_iload_n dX11_image_4 rfl ?_
    refine z_iconst (v := nI 2) dX11_image_5 rfl ?_
    refine z_icmp_lt (tgt := 12) dX11_image_6 (by decide) (fun c_6 => ?_) (fun c_6 => ?_)
    · have c_4 : rng 2 i := rng_y (by decide) c_1 (Int32.not_le.mpr c_6)
      obtain ⟨k, hk, rfl⟩ := c_4
      have hT := tn_k (k := k) (by omega)
      have q1 := m2_at a k hk
      have p1 := l12 k hk
      obtain ⟨g1, ⟨sx, g2⟩, g3⟩ := k3 k hk
      refine z_aload_n dX11_image_12 rfl ?_
      refine z_getR dX11_image_13 fX11_20 (by first | assumption | exact And.left (by assumption)) rfl ?_
      refine z_iload_n dX11_image_16 rfl ?_
      refine z_aaldN dX11_image_17 (by first | assumption | exact And.left (by assumption)) (fun _ => rfl) (by exact Nat.le_of_ble_eq_true rfl) (by assumption) ?_
      refine z_aload_n dX11_image_18 rfl ?_
      refine z_getR dX11_image_19 fX11_10 (by first | assumption | exact And.left (by assumption)) rfl ?_
      refine z_callV1w dX11_image_22 kX7_copyFrom lX11_334 (by first | assumption | exact And.left (by assumption)) rfl (s_STcopy p1 g2 l20 k10 (by omega)) (Nat.le_of_ble_eq_true rfl) (Nat.le_of_ble_eq_true rfl) ⟨Nat.le_of_ble_eq_true rfl, Nat.le_of_ble_eq_true rfl⟩ ?_
      intro V2 hV2
      obtain ⟨e2, t2⟩ := hV2
      have h9 := LI_im h0 hk e2 t2
      refine z_aload_n dX11_image_25 rfl ?_
      refine z_getR dX11_image_26 fX11_23 (by first | assumption | exact And.left (by assumption)) rfl ?_
      refine z_iload_n dX11_image_29 rfl ?_
      refine z_iconst (v := nI 1) dX11_image_30 rfl ?_
      refine z_zastN dX11_image_31 (by first | assumption | exact And.left (by assumption)) (by omega) (by decide) (by first | exact Or.inl rfl | exact Or.inr rfl | exact zb_01 _ | assumption) ?_
      refine z_iconst (v := nI 0) dX11_image_32 rfl ?_
      refine z_ireturn dX11_image_33 (Nat.le_of_ble_eq_true rfl) (Nat.le_of_ble_eq_true rfl) rfl ?_
      rw [show o_image (nI k) w = (0, (w.1, w.2.1, up1 w.2.2.1 k (some w.1), w.2.2.2)) from by unfold o_image; rw [cif_y (rng_k hk), hT]]
      exact ⟨rfl, rfl, rfl, h9.1, h9.2⟩
    · refine z_bipush (v := (-2)) dX11_image_9 rfl ?_
      refine z_ireturn dX11_image_11 (Nat.le_of_ble_eq_true rfl) (Nat.le_of_ble_eq_true rfl) rfl ?_
      rw [show o_image i w = (-2, w) from by unfold o_image; rw [cif_n (by first | exact rng_n1 (by decide) c_1 | exact rng_n2 (by decide) (Int32.not_lt.mp c_6))]]
      exact ⟨rfl, rfl, rfl, zEq.rf, h0⟩

set_option maxHeartbeats 4000000 in
set_option maxRecDepth 100000 in
theorem c_restore {D : zD} {z0 nx : Nat} {L : zL} {V : zV} {a : Nat} {sw : Bool} {w : Wo} (hs : sLI L a sw) (h : LI V a sw w) {i : Int32} : Sp D z0 6 0 0 mX11_restore [.ref a, .int i] L V nx (zq (some (.int (o_restore i w).1)) L nx (fun V' => zEq V V' a (a + 471) ∧ LI V' a sw (o_restore i w).2)) := by
  have hs0 := hs
  have h0 := h
  obtain ⟨l1, l2, l3, l4, l5, l6, l7, l8, l9, l10, l11, l12⟩ := hs
  obtain ⟨k1, k2, k3, k4, k5, k6, k7, k8⟩ := h
  have l20 := l2
  obtain ⟨s1, s2, s3, s4, s5, s6, s7⟩ := l2
  have k10 := k1
  obtain ⟨v1, v2, v3, v4⟩ := k1
  refine Sp.of 0 (by decide) rfl rfl (Nat.le_of_ble_eq_true rfl) ?_
  refine z_iload_n dX11_restore_0 rfl ?_
  refine z_if_lt (tgt := 9) dX11_restore_1 (by decide) (fun c_1 => ?_) (fun c_1 => ?_)
  · refine z_bipush (v := (-2)) dX11_restore_9 rfl ?_
    refine z_ireturn dX11_restore_11 (Nat.le_of_ble_eq_true rfl) (Nat.le_of_ble_eq_true rfl) rfl ?_
    rw [show o_restore i w = (-2, w) from by unfold o_restore; rw [cif_n (by first | exact rng_n1 (by decide) c_1 | exact rng_n2 (by decide) (Int32.not_lt.mp c_6))]]
    exact ⟨rfl, rfl, rfl, zEq.rf, h0⟩
  · refine z_iload_n dX11_restore_4 rfl ?_
    refine z_iconst (v := nI 2) dX11_restore_5 rfl ?_
    refine z_icmp_lt (tgt := 12) dX11_restore_6 (by decide) (fun c_6 => ?_) (fun c_6 => ?_)
    · have c_4 : rng 2 i := rng_y (by decide) c_1 (Int32.not_le.mpr c_6)
      obtain ⟨k, hk, rfl⟩ := c_4
      have hT := tn_k (k := k) (by omega)
      have q1 := m2_at a k hk
      have p1 := l12 k hk
      obtain ⟨g1, ⟨sx, g2⟩, g3⟩ := k3 k hk
      refine z_aload_n dX11_restore_12 rfl ?_
      refine z_getR dX11_restore_13 fX11_23 (by first | assumption | exact And.left (by assumption)) rfl ?_
      refine z_iload_n dX11_restore_16 rfl ?_
      refine z_zaldN dX11_restore_17 (by first | assumption | exact And.left (by assumption)) (by omega) (by decide) g1 ?_
      refine z_if_neB (tgt := 24) dX11_restore_18 (by decide) (fun c_18 => ?_) (fun c_18 => ?_)
      · obtain ⟨s, hsm⟩ := Option.ne_none_iff_exists'.mp c_18
        refine z_aload_n dX11_restore_24 rfl ?_
        refine z_getR dX11_restore_25 fX11_10 (by first | assumption | exact And.left (by assumption)) rfl ?_
        refine z_aload_n dX11_restore_28 rfl ?_
        refine z_getR dX11_restore_29 fX11_20 (by first | assumption | exact And.left (by assumption)) rfl ?_
        refine z_iload_n dX11_restore_32 rfl ?_
        refine z_aaldN dX11_restore_33 (by first | assumption | exact And.left (by assumption)) (fun _ => rfl) (by exact Nat.le_of_ble_eq_true rfl) (by assumption) ?_
        refine z_callV1w dX11_restore_34 kX7_copyFrom lX11_334 (by first | assumption | exact And.left (by assumption)) rfl (s_STcopy l20 k10 p1 (g3 s hsm) (by omega)) (Nat.le_of_ble_eq_true rfl) (Nat.le_of_ble_eq_true rfl) ⟨Nat.le_of_ble_eq_true rfl, Nat.le_of_ble_eq_true rfl⟩ ?_
        intro V2 hV2
        obtain ⟨e2, t2⟩ := hV2
        have h9 := LI_un (n := 0) (LI_st h0 (e2.wide (by omega) (by omega)) t2) (by omega)
        refine z_aload_n dX11_restore_37 rfl ?_
        refine z_iconst (v := nI 0) dX11_restore_38 rfl ?_
        refine z_putI dX11_restore_39 fX11_328 (by first | assumption | exact And.left (by assumption)) rfl ?_
        refine z_iconst (v := nI 0) dX11_restore_42 rfl ?_
        refine z_ireturn dX11_restore_43 (Nat.le_of_ble_eq_true rfl) (Nat.le_of_ble_eq_true rfl) rfl ?_
        rw [show o_restore (nI k) w = (0, (s, [], w.2.2)) from by unfold o_restore; rw [cif_y (rng_k hk), hT, hsm]]
        exact ⟨rfl, rfl, rfl, (e2.wide (by omega) (by omega)).up (by omega) (by omega), h9⟩
      · have hn : w.2.2.1 k = none := Classical.byContradiction c_18
        refine z_bipush (v := (-6)) dX11_restore_21 rfl ?_
        refine z_ireturn dX11_restore_23 (Nat.le_of_ble_eq_true rfl) (Nat.le_of_ble_eq_true rfl) rfl ?_
        rw [show o_restore (nI k) w = (-6, w) from by unfold o_restore; rw [cif_y (rng_k hk)]; rw [hT]; rw [hn]]
        exact ⟨rfl, rfl, rfl, zEq.rf, h0⟩
    · refine z_bipush (v := (-2)) dX11_restore_9 rfl ?_
      refine z_ireturn dX11_restore_11 (Nat.le_of_ble_eq_true rfl) (Nat.le_of_ble_eq_true rfl) rfl ?_
      rw [show o_restore i w = (-2, w) from by unfold o_restore; rw [cif_n (by first | exact rng_n1 (by decide) c_1 | exact rng_n2 (by decide) (Int32.not_lt.mp c_6))]]
      exact ⟨rfl, rfl, rfl, zEq.rf, h0⟩

theorem r10_y {b k : Nat} (h : k < 4) : r10 b (nI (b + k)) := ⟨k, h, rfl⟩
theorem r10_10 {k : Nat} (h : k < 4) : ¬ r10 10 (nI (20 + k)) := fun ⟨j, hj, e⟩ => by
  have := nI_inj (by omega) (by omega) e
  omega
theorem r10_rng {b j : Nat} (h : j < 9) (hb : b = 10 ∨ b = 20) : ¬ r10 b (nI j) := fun ⟨k, hk, e⟩ => by
  have := nI_inj (by omega) (by omega) e
  omega
theorem r10_n {x : Int32} {b : Nat} (hb : b < 100) (h : ¬ r10 b x) (h1 : ¬ x < nI b) (h2 : ¬ nI (b + 4) ≤ x) : False := by
  have e1 : (b : Int) ≤ x.toInt := by
    have := Int32.le_iff_toInt_le.mp (Int32.not_lt.mp h1)
    rw [nI_toInt (by omega)] at this
    exact this
  have e2 : x.toInt < (b + 4 : Nat) := by
    have := Int32.lt_iff_toInt_lt.mp (Int32.not_le.mp h2)
    rw [nI_toInt (by omega)] at this
    exact this
  refine h ⟨x.toInt.toNat - b, by omega, ?_⟩
  apply Int32.toInt_inj.mp
  rw [nI_toInt (by omega)]
  omega

set_option maxHeartbeats 4000000 in
set_option maxRecDepth 100000 in
theorem c_countA {D : zD} {z0 nx : Nat} {L : zL} {V : zV} {a : Nat} {sw : Bool} {w : Wo} (hs : sLI L a sw) (h : LI V a sw w) {k : Nat} (hk : k < 4) : Sp D z0 4 0 0 mX11_count [.ref a, .int (nI (10 + k))] L V nx (zq (some (.int (o_count (nI (10 + k)) w).1)) L nx (fun V' => zEq V V' a (a + 471) ∧ LI V' a sw (o_count (nI (10 + k)) w).2)) := by
  have hs0 := hs
  have h0 := h
  obtain ⟨l1, l2, l3, l4, l5, l6, l7, l8, l9, l10, l11, l12⟩ := hs
  obtain ⟨k1, k2, k3, k4, k5, k6, k7, k8⟩ := h
  have l20 := l2
  obtain ⟨s1, s2, s3, s4, s5, s6, s7⟩ := l2
  have k10 := k1
  obtain ⟨v1, v2, v3, v4⟩ := k1
  refine Sp.of 1 (by decide) rfl rfl (Nat.le_of_ble_eq_true rfl) ?_
  refine z_iload_n dX11_count_0 rfl ?_
  refine z_bipush (v := nI 10) dX11_count_1 rfl ?_
  refine z_icmp_ltN (tgt := 28) dX11_count_3 (by decide) (by omega) (by omega) (fun c_3 => ?_) (fun c_3 => ?_)
  · exact absurd c_3 (by omega)
  · refine z_iload_n dX11_count_6 rfl ?_
    refine z_bipush (v := nI 14) dX11_count_7 rfl ?_
    refine z_icmp_geN (tgt := 28) dX11_count_9 (by decide) (by omega) (by omega) (fun c_9 => ?_) (fun c_9 => ?_)
    · exact absurd c_9 (by omega)
    · have q1 := t4_at (a + 1) k (by omega)
      obtain ⟨p2, p3⟩ := s6 k (by omega)
      obtain ⟨m1, m2, m3, m4, m5, m6⟩ := v3 k (by omega)
      have hT := tn_k (k := 10 + k) (by omega)
      have e10 : 10 + k - 10 = k := by omega
      refine z_aload_n dX11_count_12 rfl ?_
      refine z_getR dX11_count_13 fX11_10 (by first | assumption | exact And.left (by assumption)) rfl ?_
      refine z_getR dX11_count_16 fX11_62 (by first | assumption | exact And.left (by assumption)) rfl ?_
      refine z_iload_n dX11_count_19 rfl ?_
      refine z_bipush (v := nI 10) dX11_count_20 rfl ?_
      refine z_subN dX11_count_22 (by omega) ?_
      rw [e10]
      refine z_aaldN dX11_count_23 (by first | assumption | exact And.left (by assumption)) (fun _ => rfl) (by exact Nat.le_of_ble_eq_true rfl) (by assumption) ?_
      refine z_getIe dX11_count_24 fX11_105 (by first | assumption | exact And.left (by assumption)) rfl m3 ?_
      refine z_ireturn dX11_count_27 (Nat.le_of_ble_eq_true rfl) (Nat.le_of_ble_eq_true rfl) rfl ?_
      rw [show o_count (nI (10 + k)) w = (nI (nwr (tof w k)), w) from by unfold o_count; rw [cif_y (r10_y hk), hT, e10]]
      exact ⟨rfl, rfl, rfl, zEq.rf, h0⟩

set_option maxHeartbeats 4000000 in
set_option maxRecDepth 100000 in
theorem c_countB {D : zD} {z0 nx : Nat} {L : zL} {V : zV} {a : Nat} {sw : Bool} {w : Wo} (hs : sLI L a sw) (h : LI V a sw w) {k : Nat} (hk : k < 4) : Sp D z0 4 0 0 mX11_count [.ref a, .int (nI (20 + k))] L V nx (zq (some (.int (o_count (nI (20 + k)) w).1)) L nx (fun V' => zEq V V' a (a + 471) ∧ LI V' a sw (o_count (nI (20 + k)) w).2)) := by
  have hs0 := hs
  have h0 := h
  obtain ⟨l1, l2, l3, l4, l5, l6, l7, l8, l9, l10, l11, l12⟩ := hs
  obtain ⟨k1, k2, k3, k4, k5, k6, k7, k8⟩ := h
  have l20 := l2
  obtain ⟨s1, s2, s3, s4, s5, s6, s7⟩ := l2
  have k10 := k1
  obtain ⟨v1, v2, v3, v4⟩ := k1
  refine Sp.of 1 (by decide) rfl rfl (Nat.le_of_ble_eq_true rfl) ?_
  refine z_iload_n dX11_count_0 rfl ?_
  refine z_bipush (v := nI 10) dX11_count_1 rfl ?_
  refine z_icmp_ltN (tgt := 28) dX11_count_3 (by decide) (by omega) (by omega) (fun c_3 => ?_) (fun c_3 => ?_)
  · exact absurd c_3 (by omega)
  · refine z_iload_n dX11_count_6 rfl ?_
    refine z_bipush (v := nI 14) dX11_count_7 rfl ?_
    refine z_icmp_geN (tgt := 28) dX11_count_9 (by decide) (by omega) (by omega) (fun c_9 => ?_) (fun c_9 => ?_)
    · refine z_iload_n dX11_count_28 rfl ?_
      refine z_bipush (v := nI 20) dX11_count_29 rfl ?_
      refine z_icmp_ltN (tgt := 69) dX11_count_31 (by decide) (by omega) (by omega) (fun c_31 => ?_) (fun c_31 => ?_)
      · exact absurd c_31 (by omega)
      · refine z_iload_n dX11_count_34 rfl ?_
        refine z_bipush (v := nI 24) dX11_count_35 rfl ?_
        refine z_icmp_geN (tgt := 69) dX11_count_37 (by decide) (by omega) (by omega) (fun c_37 => ?_) (fun c_37 => ?_)
        · exact absurd c_37 (by omega)
        · have q1 := t4_at (a + 1) k (by omega)
          obtain ⟨p2, p3⟩ := s6 k (by omega)
          obtain ⟨m1, m2, m3, m4, m5, m6⟩ := v3 k (by omega)
          have hT := tn_k (k := 20 + k) (by omega)
          have e10 : 20 + k - 20 = k := by omega
          have hR : o_count (nI (20 + k)) w = (if (tof w k).1 then nI (tof w k).2.1 else -1, w) := by unfold o_count; rw [cif_n (r10_10 hk), cif_y (r10_y hk), hT, e10]
          refine z_aload_n dX11_count_40 rfl ?_
          refine z_getR dX11_count_41 fX11_10 (by first | assumption | exact And.left (by assumption)) rfl ?_
          refine z_getR dX11_count_44 fX11_62 (by first | assumption | exact And.left (by assumption)) rfl ?_
          refine z_iload_n dX11_count_47 rfl ?_
          refine z_bipush (v := nI 20) dX11_count_48 rfl ?_
          refine z_subN dX11_count_50 (by omega) ?_
          rw [e10]
          refine z_aaldN dX11_count_51 (by first | assumption | exact And.left (by assumption)) (fun _ => rfl) (by exact Nat.le_of_ble_eq_true rfl) (by assumption) ?_
          refine z_astore_n dX11_count_52 (Nat.le_of_ble_eq_true rfl) rfl ?_
          refine z_aload_n dX11_count_53 rfl ?_
          refine z_getIe dX11_count_54 fX11_66 (by first | assumption | exact And.left (by assumption)) rfl m1 ?_
          refine z_if_eqB (tgt := 67) dX11_count_57 (by decide) (fun c_57 => ?_) (fun c_57 => ?_)
          · refine z_iconst (v := (-1)) dX11_count_67 rfl ?_
            refine z_ireturn dX11_count_68 (Nat.le_of_ble_eq_true rfl) (Nat.le_of_ble_eq_true rfl) rfl ?_
            rw [hR]
            first
              | (rw [if_pos (show (tof w k).1 = true from c_57)]; exact ⟨rfl, rfl, rfl, zEq.rf, h0⟩)
              | (rw [if_neg (show ¬ (tof w k).1 = true from c_57)]; exact ⟨rfl, rfl, rfl, zEq.rf, h0⟩)
          · refine z_aload_n dX11_count_60 rfl ?_
            refine z_getIe dX11_count_61 fX11_83 (by first | assumption | exact And.left (by assumption)) rfl m2 ?_
            refine z_goto (tgt := 68) dX11_count_64 (by decide) ?_
            refine z_ireturn dX11_count_68 (Nat.le_of_ble_eq_true rfl) (Nat.le_of_ble_eq_true rfl) rfl ?_
            rw [hR]
            first
              | (rw [if_pos (show (tof w k).1 = true from c_57)]; exact ⟨rfl, rfl, rfl, zEq.rf, h0⟩)
              | (rw [if_neg (show ¬ (tof w k).1 = true from c_57)]; exact ⟨rfl, rfl, rfl, zEq.rf, h0⟩)
    · exact absurd c_9 (by omega)

set_option maxHeartbeats 4000000 in
set_option maxRecDepth 100000 in
theorem c_countC0 {D : zD} {z0 nx : Nat} {L : zL} {V : zV} {a : Nat} {sw : Bool} {w : Wo} (hs : sLI L a sw) (h : LI V a sw w) : Sp D z0 4 0 0 mX11_count [.ref a, .int (nI 0)] L V nx (zq (some (.int (o_count (nI 0) w).1)) L nx (fun V' => zEq V V' a (a + 471) ∧ LI V' a sw (o_count (nI 0) w).2)) := by
  have hs0 := hs
  have h0 := h
  obtain ⟨l1, l2, l3, l4, l5, l6, l7, l8, l9, l10, l11, l12⟩ := hs
  obtain ⟨k1, k2, k3, k4, k5, k6, k7, k8⟩ := h
  have l20 := l2
  obtain ⟨s1, s2, s3, s4, s5, s6, s7⟩ := l2
  have k10 := k1
  obtain ⟨v1, v2, v3, v4⟩ := k1
  refine Sp.of 1 (by decide) rfl rfl (Nat.le_of_ble_eq_true rfl) ?_
  refine z_iload_n dX11_count_0 rfl ?_
  refine z_bipush (v := nI 10) dX11_count_1 rfl ?_
  refine z_icmp_ltN (tgt := 28) dX11_count_3 (by decide) (by omega) (by omega) (fun c_3 => ?_) (fun c_3 => ?_)
  · refine z_iload_n dX11_count_28 rfl ?_
    refine z_bipush (v := nI 20) dX11_count_29 rfl ?_
    refine z_icmp_ltN (tgt := 69) dX11_count_31 (by decide) (by omega) (by omega) (fun c_31 => ?_) (fun c_31 => ?_)
    · refine z_iload_n dX11_count_69 rfl ?_
      refine z_tableIn (tgt := 120) dX11_count_70 (by decide) (by decide) rfl (by decide) ?_
      refine z_aload_n dX11_count_120 rfl ?_
      refine z_getR dX11_count_121 fX11_10 (by first | assumption | exact And.left (by assumption)) rfl ?_
      refine z_getR dX11_count_124 fX11_174 (by first | assumption | exact And.left (by assumption)) rfl ?_
      refine z_callV0i dX11_count_127 kX10_rowsThere lX11_267 (by first | assumption | exact And.left (by assumption)) rfl (s_rowsThere s2 v2) (Nat.le_of_ble_eq_true rfl) (Nat.le_of_ble_eq_true rfl) ⟨Nat.le_of_ble_eq_true rfl, Nat.le_of_ble_eq_true rfl⟩ ?_
      refine z_ireturn dX11_count_130 (Nat.le_of_ble_eq_true rfl) (Nat.le_of_ble_eq_true rfl) rfl ?_
      rw [show o_count (nI 0) w = (cnv w 0, w) from by unfold o_count; rw [cif_n (r10_rng (by omega) (by omega)), cif_n (r10_rng (by omega) (by omega)), cif_y (rng_k (by omega)), tn_k (by omega)]]
      exact ⟨rfl, rfl, rfl, zEq.rf, h0⟩
    · exact absurd c_31 (by omega)
  · exact absurd c_3 (by omega)

set_option maxHeartbeats 4000000 in
set_option maxRecDepth 100000 in
theorem c_countC1 {D : zD} {z0 nx : Nat} {L : zL} {V : zV} {a : Nat} {sw : Bool} {w : Wo} (hs : sLI L a sw) (h : LI V a sw w) : Sp D z0 4 0 0 mX11_count [.ref a, .int (nI 1)] L V nx (zq (some (.int (o_count (nI 1) w).1)) L nx (fun V' => zEq V V' a (a + 471) ∧ LI V' a sw (o_count (nI 1) w).2)) := by
  have hs0 := hs
  have h0 := h
  obtain ⟨l1, l2, l3, l4, l5, l6, l7, l8, l9, l10, l11, l12⟩ := hs
  obtain ⟨k1, k2, k3, k4, k5, k6, k7, k8⟩ := h
  have l20 := l2
  obtain ⟨s1, s2, s3, s4, s5, s6, s7⟩ := l2
  have k10 := k1
  obtain ⟨v1, v2, v3, v4⟩ := k1
  refine Sp.of 1 (by decide) rfl rfl (Nat.le_of_ble_eq_true rfl) ?_
  refine z_iload_n dX11_count_0 rfl ?_
  refine z_bipush (v := nI 10) dX11_count_1 rfl ?_
  refine z_icmp_ltN (tgt := 28) dX11_count_3 (by decide) (by omega) (by omega) (fun c_3 => ?_) (fun c_3 => ?_)
  · refine z_iload_n dX11_count_28 rfl ?_
    refine z_bipush (v := nI 20) dX11_count_29 rfl ?_
    refine z_icmp_ltN (tgt := 69) dX11_count_31 (by decide) (by omega) (by omega) (fun c_31 => ?_) (fun c_31 => ?_)
    · refine z_iload_n dX11_count_69 rfl ?_
      refine z_tableIn (tgt := 131) dX11_count_70 (by decide) (by decide) rfl (by decide) ?_
      refine z_aload_n dX11_count_131 rfl ?_
      refine z_getR dX11_count_132 fX11_10 (by first | assumption | exact And.left (by assumption)) rfl ?_
      refine z_getIe dX11_count_135 fX11_75 (by first | assumption | exact And.left (by assumption)) rfl v1.1 ?_
      refine z_ireturn dX11_count_138 (Nat.le_of_ble_eq_true rfl) (Nat.le_of_ble_eq_true rfl) rfl ?_
      rw [show o_count (nI 1) w = (cnv w 1, w) from by unfold o_count; rw [cif_n (r10_rng (by omega) (by omega)), cif_n (r10_rng (by omega) (by omega)), cif_y (rng_k (by omega)), tn_k (by omega)]]
      exact ⟨rfl, rfl, rfl, zEq.rf, h0⟩
    · exact absurd c_31 (by omega)
  · exact absurd c_3 (by omega)

set_option maxHeartbeats 4000000 in
set_option maxRecDepth 100000 in
theorem c_countC2 {D : zD} {z0 nx : Nat} {L : zL} {V : zV} {a : Nat} {sw : Bool} {w : Wo} (hs : sLI L a sw) (h : LI V a sw w) : Sp D z0 4 0 0 mX11_count [.ref a, .int (nI 2)] L V nx (zq (some (.int (o_count (nI 2) w).1)) L nx (fun V' => zEq V V' a (a + 471) ∧ LI V' a sw (o_count (nI 2) w).2)) := by
  have hs0 := hs
  have h0 := h
  obtain ⟨l1, l2, l3, l4, l5, l6, l7, l8, l9, l10, l11, l12⟩ := hs
  obtain ⟨k1, k2, k3, k4, k5, k6, k7, k8⟩ := h
  have l20 := l2
  obtain ⟨s1, s2, s3, s4, s5, s6, s7⟩ := l2
  have k10 := k1
  obtain ⟨v1, v2, v3, v4⟩ := k1
  refine Sp.of 1 (by decide) rfl rfl (Nat.le_of_ble_eq_true rfl) ?_
  refine z_iload_n dX11_count_0 rfl ?_
  refine z_bipush (v := nI 10) dX11_count_1 rfl ?_
  refine z_icmp_ltN (tgt := 28) dX11_count_3 (by decide) (by omega) (by omega) (fun c_3 => ?_) (fun c_3 => ?_)
  · refine z_iload_n dX11_count_28 rfl ?_
    refine z_bipush (v := nI 20) dX11_count_29 rfl ?_
    refine z_icmp_ltN (tgt := 69) dX11_count_31 (by decide) (by omega) (by omega) (fun c_31 => ?_) (fun c_31 => ?_)
    · refine z_iload_n dX11_count_69 rfl ?_
      refine z_tableIn (tgt := 139) dX11_count_70 (by decide) (by decide) rfl (by decide) ?_
      refine z_aload_n dX11_count_139 rfl ?_
      refine z_getR dX11_count_140 fX11_10 (by first | assumption | exact And.left (by assumption)) rfl ?_
      refine z_callV0i dX11_count_143 kX7_openTransactions lX11_338 (by first | assumption | exact And.left (by assumption)) rfl (s_openT l20 k10) (Nat.le_of_ble_eq_true rfl) (Nat.le_of_ble_eq_true rfl) ⟨Nat.le_of_ble_eq_true rfl, Nat.le_of_ble_eq_true rfl⟩ ?_
      refine z_ireturn dX11_count_146 (Nat.le_of_ble_eq_true rfl) (Nat.le_of_ble_eq_true rfl) rfl ?_
      rw [show o_count (nI 2) w = (cnv w 2, w) from by unfold o_count; rw [cif_n (r10_rng (by omega) (by omega)), cif_n (r10_rng (by omega) (by omega)), cif_y (rng_k (by omega)), tn_k (by omega)]]
      exact ⟨rfl, rfl, rfl, zEq.rf, h0⟩
    · exact absurd c_31 (by omega)
  · exact absurd c_3 (by omega)

set_option maxHeartbeats 4000000 in
set_option maxRecDepth 100000 in
theorem c_countC3 {D : zD} {z0 nx : Nat} {L : zL} {V : zV} {a : Nat} {sw : Bool} {w : Wo} (hs : sLI L a sw) (h : LI V a sw w) : Sp D z0 4 0 0 mX11_count [.ref a, .int (nI 3)] L V nx (zq (some (.int (o_count (nI 3) w).1)) L nx (fun V' => zEq V V' a (a + 471) ∧ LI V' a sw (o_count (nI 3) w).2)) := by
  have hs0 := hs
  have h0 := h
  obtain ⟨l1, l2, l3, l4, l5, l6, l7, l8, l9, l10, l11, l12⟩ := hs
  obtain ⟨k1, k2, k3, k4, k5, k6, k7, k8⟩ := h
  have l20 := l2
  obtain ⟨s1, s2, s3, s4, s5, s6, s7⟩ := l2
  have k10 := k1
  obtain ⟨v1, v2, v3, v4⟩ := k1
  refine Sp.of 1 (by decide) rfl rfl (Nat.le_of_ble_eq_true rfl) ?_
  refine z_iload_n dX11_count_0 rfl ?_
  refine z_bipush (v := nI 10) dX11_count_1 rfl ?_
  refine z_icmp_ltN (tgt := 28) dX11_count_3 (by decide) (by omega) (by omega) (fun c_3 => ?_) (fun c_3 => ?_)
  · refine z_iload_n dX11_count_28 rfl ?_
    refine z_bipush (v := nI 20) dX11_count_29 rfl ?_
    refine z_icmp_ltN (tgt := 69) dX11_count_31 (by decide) (by omega) (by omega) (fun c_31 => ?_) (fun c_31 => ?_)
    · refine z_iload_n dX11_count_69 rfl ?_
      refine z_tableIn (tgt := 147) dX11_count_70 (by decide) (by decide) rfl (by decide) ?_
      refine z_aload_n dX11_count_147 rfl ?_
      refine z_getR dX11_count_148 fX11_10 (by first | assumption | exact And.left (by assumption)) rfl ?_
      refine z_getR dX11_count_151 fX11_174 (by first | assumption | exact And.left (by assumption)) rfl ?_
      refine z_callV0i dX11_count_154 kX10_inAll lX11_341 (by first | assumption | exact And.left (by assumption)) rfl (s_inAll s2 v2) (Nat.le_of_ble_eq_true rfl) (Nat.le_of_ble_eq_true rfl) ⟨Nat.le_of_ble_eq_true rfl, Nat.le_of_ble_eq_true rfl⟩ ?_
      refine z_ireturn dX11_count_157 (Nat.le_of_ble_eq_true rfl) (Nat.le_of_ble_eq_true rfl) rfl ?_
      rw [show o_count (nI 3) w = (cnv w 3, w) from by unfold o_count; rw [cif_n (r10_rng (by omega) (by omega)), cif_n (r10_rng (by omega) (by omega)), cif_y (rng_k (by omega)), tn_k (by omega)]]
      exact ⟨rfl, rfl, rfl, zEq.rf, h0⟩
    · exact absurd c_31 (by omega)
  · exact absurd c_3 (by omega)

set_option maxHeartbeats 4000000 in
set_option maxRecDepth 100000 in
theorem c_countC4 {D : zD} {z0 nx : Nat} {L : zL} {V : zV} {a : Nat} {sw : Bool} {w : Wo} (hs : sLI L a sw) (h : LI V a sw w) : Sp D z0 4 0 0 mX11_count [.ref a, .int (nI 4)] L V nx (zq (some (.int (o_count (nI 4) w).1)) L nx (fun V' => zEq V V' a (a + 471) ∧ LI V' a sw (o_count (nI 4) w).2)) := by
  have hs0 := hs
  have h0 := h
  obtain ⟨l1, l2, l3, l4, l5, l6, l7, l8, l9, l10, l11, l12⟩ := hs
  obtain ⟨k1, k2, k3, k4, k5, k6, k7, k8⟩ := h
  have l20 := l2
  obtain ⟨s1, s2, s3, s4, s5, s6, s7⟩ := l2
  have k10 := k1
  obtain ⟨v1, v2, v3, v4⟩ := k1
  refine Sp.of 1 (by decide) rfl rfl (Nat.le_of_ble_eq_true rfl) ?_
  refine z_iload_n dX11_count_0 rfl ?_
  refine z_bipush (v := nI 10) dX11_count_1 rfl ?_
  refine z_icmp_ltN (tgt := 28) dX11_count_3 (by decide) (by omega) (by omega) (fun c_3 => ?_) (fun c_3 => ?_)
  · refine z_iload_n dX11_count_28 rfl ?_
    refine z_bipush (v := nI 20) dX11_count_29 rfl ?_
    refine z_icmp_ltN (tgt := 69) dX11_count_31 (by decide) (by omega) (by omega) (fun c_31 => ?_) (fun c_31 => ?_)
    · refine z_iload_n dX11_count_69 rfl ?_
      refine z_tableIn (tgt := 158) dX11_count_70 (by decide) (by decide) rfl (by decide) ?_
      refine z_aload_n dX11_count_158 rfl ?_
      refine z_getR dX11_count_159 fX11_10 (by first | assumption | exact And.left (by assumption)) rfl ?_
      refine z_callV0i dX11_count_162 kX7_hasLastRound lX11_344 (by first | assumption | exact And.left (by assumption)) rfl (s_lastRound l20 k10) (Nat.le_of_ble_eq_true rfl) (Nat.le_of_ble_eq_true rfl) ⟨Nat.le_of_ble_eq_true rfl, Nat.le_of_ble_eq_true rfl⟩ ?_
      refine z_if_eqB (tgt := 172) dX11_count_165 (by decide) (fun c_165 => ?_) (fun c_165 => ?_)
      · refine z_iconst (v := nI 0) dX11_count_172 rfl ?_
        refine z_ireturn dX11_count_173 (Nat.le_of_ble_eq_true rfl) (Nat.le_of_ble_eq_true rfl) rfl ?_
        rw [show o_count (nI 4) w = (cnv w 4, w) from by unfold o_count; rw [cif_n (r10_rng (by omega) (by omega)), cif_n (r10_rng (by omega) (by omega)), cif_y (rng_k (by omega)), tn_k (by omega)]]
        first
          | (rw [show cnv w 4 = nI 1 from zb_t c_165]; exact ⟨rfl, rfl, rfl, zEq.rf, h0⟩)
          | (rw [show cnv w 4 = nI 0 from zb_f c_165]; exact ⟨rfl, rfl, rfl, zEq.rf, h0⟩)
      · refine z_iconst (v := nI 1) dX11_count_168 rfl ?_
        refine z_goto (tgt := 173) dX11_count_169 (by decide) ?_
        refine z_ireturn dX11_count_173 (Nat.le_of_ble_eq_true rfl) (Nat.le_of_ble_eq_true rfl) rfl ?_
        rw [show o_count (nI 4) w = (cnv w 4, w) from by unfold o_count; rw [cif_n (r10_rng (by omega) (by omega)), cif_n (r10_rng (by omega) (by omega)), cif_y (rng_k (by omega)), tn_k (by omega)]]
        first
          | (rw [show cnv w 4 = nI 1 from zb_t c_165]; exact ⟨rfl, rfl, rfl, zEq.rf, h0⟩)
          | (rw [show cnv w 4 = nI 0 from zb_f c_165]; exact ⟨rfl, rfl, rfl, zEq.rf, h0⟩)
    · exact absurd c_31 (by omega)
  · exact absurd c_3 (by omega)

set_option maxHeartbeats 4000000 in
set_option maxRecDepth 100000 in
theorem c_countC5 {D : zD} {z0 nx : Nat} {L : zL} {V : zV} {a : Nat} {sw : Bool} {w : Wo} (hs : sLI L a sw) (h : LI V a sw w) : Sp D z0 4 0 0 mX11_count [.ref a, .int (nI 5)] L V nx (zq (some (.int (o_count (nI 5) w).1)) L nx (fun V' => zEq V V' a (a + 471) ∧ LI V' a sw (o_count (nI 5) w).2)) := by
  have hs0 := hs
  have h0 := h
  obtain ⟨l1, l2, l3, l4, l5, l6, l7, l8, l9, l10, l11, l12⟩ := hs
  obtain ⟨k1, k2, k3, k4, k5, k6, k7, k8⟩ := h
  have l20 := l2
  obtain ⟨s1, s2, s3, s4, s5, s6, s7⟩ := l2
  have k10 := k1
  obtain ⟨v1, v2, v3, v4⟩ := k1
  refine Sp.of 1 (by decide) rfl rfl (Nat.le_of_ble_eq_true rfl) ?_
  refine z_iload_n dX11_count_0 rfl ?_
  refine z_bipush (v := nI 10) dX11_count_1 rfl ?_
  refine z_icmp_ltN (tgt := 28) dX11_count_3 (by decide) (by omega) (by omega) (fun c_3 => ?_) (fun c_3 => ?_)
  · refine z_iload_n dX11_count_28 rfl ?_
    refine z_bipush (v := nI 20) dX11_count_29 rfl ?_
    refine z_icmp_ltN (tgt := 69) dX11_count_31 (by decide) (by omega) (by omega) (fun c_31 => ?_) (fun c_31 => ?_)
    · refine z_iload_n dX11_count_69 rfl ?_
      refine z_tableIn (tgt := 174) dX11_count_70 (by decide) (by decide) rfl (by decide) ?_
      refine z_aload_n dX11_count_174 rfl ?_
      refine z_getR dX11_count_175 fX11_30 (by first | assumption | exact And.left (by assumption)) rfl ?_
      refine z_getIe dX11_count_178 fX11_138 (by first | assumption | exact And.left (by assumption)) rfl k4.1.1.1 ?_
      refine z_ireturn dX11_count_181 (Nat.le_of_ble_eq_true rfl) (Nat.le_of_ble_eq_true rfl) rfl ?_
      rw [show o_count (nI 5) w = (cnv w 5, w) from by unfold o_count; rw [cif_n (r10_rng (by omega) (by omega)), cif_n (r10_rng (by omega) (by omega)), cif_y (rng_k (by omega)), tn_k (by omega)]]
      exact ⟨rfl, rfl, rfl, zEq.rf, h0⟩
    · exact absurd c_31 (by omega)
  · exact absurd c_3 (by omega)

set_option maxHeartbeats 4000000 in
set_option maxRecDepth 100000 in
theorem c_countC6 {D : zD} {z0 nx : Nat} {L : zL} {V : zV} {a : Nat} {sw : Bool} {w : Wo} (hs : sLI L a sw) (h : LI V a sw w) : Sp D z0 4 0 0 mX11_count [.ref a, .int (nI 6)] L V nx (zq (some (.int (o_count (nI 6) w).1)) L nx (fun V' => zEq V V' a (a + 471) ∧ LI V' a sw (o_count (nI 6) w).2)) := by
  have hs0 := hs
  have h0 := h
  obtain ⟨l1, l2, l3, l4, l5, l6, l7, l8, l9, l10, l11, l12⟩ := hs
  obtain ⟨k1, k2, k3, k4, k5, k6, k7, k8⟩ := h
  have l20 := l2
  obtain ⟨s1, s2, s3, s4, s5, s6, s7⟩ := l2
  have k10 := k1
  obtain ⟨v1, v2, v3, v4⟩ := k1
  refine Sp.of 1 (by decide) rfl rfl (Nat.le_of_ble_eq_true rfl) ?_
  refine z_iload_n dX11_count_0 rfl ?_
  refine z_bipush (v := nI 10) dX11_count_1 rfl ?_
  refine z_icmp_ltN (tgt := 28) dX11_count_3 (by decide) (by omega) (by omega) (fun c_3 => ?_) (fun c_3 => ?_)
  · refine z_iload_n dX11_count_28 rfl ?_
    refine z_bipush (v := nI 20) dX11_count_29 rfl ?_
    refine z_icmp_ltN (tgt := 69) dX11_count_31 (by decide) (by omega) (by omega) (fun c_31 => ?_) (fun c_31 => ?_)
    · refine z_iload_n dX11_count_69 rfl ?_
      refine z_tableIn (tgt := 182) dX11_count_70 (by decide) (by decide) rfl (by decide) ?_
      refine z_aload_n dX11_count_182 rfl ?_
      refine z_getIe dX11_count_183 fX11_328 (by first | assumption | exact And.left (by assumption)) rfl k2.2.1 ?_
      refine z_ireturn dX11_count_186 (Nat.le_of_ble_eq_true rfl) (Nat.le_of_ble_eq_true rfl) rfl ?_
      rw [show o_count (nI 6) w = (cnv w 6, w) from by unfold o_count; rw [cif_n (r10_rng (by omega) (by omega)), cif_n (r10_rng (by omega) (by omega)), cif_y (rng_k (by omega)), tn_k (by omega)]]
      exact ⟨rfl, rfl, rfl, zEq.rf, h0⟩
    · exact absurd c_31 (by omega)
  · exact absurd c_3 (by omega)

set_option maxHeartbeats 4000000 in
set_option maxRecDepth 100000 in
theorem c_countC7 {D : zD} {z0 nx : Nat} {L : zL} {V : zV} {a : Nat} {sw : Bool} {w : Wo} (hs : sLI L a sw) (h : LI V a sw w) : Sp D z0 4 0 0 mX11_count [.ref a, .int (nI 7)] L V nx (zq (some (.int (o_count (nI 7) w).1)) L nx (fun V' => zEq V V' a (a + 471) ∧ LI V' a sw (o_count (nI 7) w).2)) := by
  have hs0 := hs
  have h0 := h
  obtain ⟨l1, l2, l3, l4, l5, l6, l7, l8, l9, l10, l11, l12⟩ := hs
  obtain ⟨k1, k2, k3, k4, k5, k6, k7, k8⟩ := h
  have l20 := l2
  obtain ⟨s1, s2, s3, s4, s5, s6, s7⟩ := l2
  have k10 := k1
  obtain ⟨v1, v2, v3, v4⟩ := k1
  refine Sp.of 1 (by decide) rfl rfl (Nat.le_of_ble_eq_true rfl) ?_
  refine z_iload_n dX11_count_0 rfl ?_
  refine z_bipush (v := nI 10) dX11_count_1 rfl ?_
  refine z_icmp_ltN (tgt := 28) dX11_count_3 (by decide) (by omega) (by omega) (fun c_3 => ?_) (fun c_3 => ?_)
  · refine z_iload_n dX11_count_28 rfl ?_
    refine z_bipush (v := nI 20) dX11_count_29 rfl ?_
    refine z_icmp_ltN (tgt := 69) dX11_count_31 (by decide) (by omega) (by omega) (fun c_31 => ?_) (fun c_31 => ?_)
    · refine z_iload_n dX11_count_69 rfl ?_
      refine z_tableIn (tgt := 187) dX11_count_70 (by decide) (by decide) rfl (by decide) ?_
      refine z_aload_n dX11_count_187 rfl ?_
      refine z_getR dX11_count_188 fX11_10 (by first | assumption | exact And.left (by assumption)) rfl ?_
      refine z_getIe dX11_count_191 fX11_178 (by first | assumption | exact And.left (by assumption)) rfl v1.2.1 ?_
      refine z_ireturn dX11_count_194 (Nat.le_of_ble_eq_true rfl) (Nat.le_of_ble_eq_true rfl) rfl ?_
      rw [show o_count (nI 7) w = (cnv w 7, w) from by unfold o_count; rw [cif_n (r10_rng (by omega) (by omega)), cif_n (r10_rng (by omega) (by omega)), cif_y (rng_k (by omega)), tn_k (by omega)]]
      exact ⟨rfl, rfl, rfl, zEq.rf, h0⟩
    · exact absurd c_31 (by omega)
  · exact absurd c_3 (by omega)

set_option maxHeartbeats 4000000 in
set_option maxRecDepth 100000 in
theorem c_countC8 {D : zD} {z0 nx : Nat} {L : zL} {V : zV} {a : Nat} {sw : Bool} {w : Wo} (hs : sLI L a sw) (h : LI V a sw w) : Sp D z0 4 0 0 mX11_count [.ref a, .int (nI 8)] L V nx (zq (some (.int (o_count (nI 8) w).1)) L nx (fun V' => zEq V V' a (a + 471) ∧ LI V' a sw (o_count (nI 8) w).2)) := by
  have hs0 := hs
  have h0 := h
  obtain ⟨l1, l2, l3, l4, l5, l6, l7, l8, l9, l10, l11, l12⟩ := hs
  obtain ⟨k1, k2, k3, k4, k5, k6, k7, k8⟩ := h
  have l20 := l2
  obtain ⟨s1, s2, s3, s4, s5, s6, s7⟩ := l2
  have k10 := k1
  obtain ⟨v1, v2, v3, v4⟩ := k1
  refine Sp.of 1 (by decide) rfl rfl (Nat.le_of_ble_eq_true rfl) ?_
  refine z_iload_n dX11_count_0 rfl ?_
  refine z_bipush (v := nI 10) dX11_count_1 rfl ?_
  refine z_icmp_ltN (tgt := 28) dX11_count_3 (by decide) (by omega) (by omega) (fun c_3 => ?_) (fun c_3 => ?_)
  · refine z_iload_n dX11_count_28 rfl ?_
    refine z_bipush (v := nI 20) dX11_count_29 rfl ?_
    refine z_icmp_ltN (tgt := 69) dX11_count_31 (by decide) (by omega) (by omega) (fun c_31 => ?_) (fun c_31 => ?_)
    · refine z_iload_n dX11_count_69 rfl ?_
      refine z_tableIn (tgt := 195) dX11_count_70 (by decide) (by decide) rfl (by decide) ?_
      refine z_aload_n dX11_count_195 rfl ?_
      refine z_getR dX11_count_196 fX11_10 (by first | assumption | exact And.left (by assumption)) rfl ?_
      refine z_getIe dX11_count_199 fX11_181 (by first | assumption | exact And.left (by assumption)) rfl v1.2.2.1 ?_
      refine z_ireturn dX11_count_202 (Nat.le_of_ble_eq_true rfl) (Nat.le_of_ble_eq_true rfl) rfl ?_
      rw [show o_count (nI 8) w = (cnv w 8, w) from by unfold o_count; rw [cif_n (r10_rng (by omega) (by omega)), cif_n (r10_rng (by omega) (by omega)), cif_y (rng_k (by omega)), tn_k (by omega)]]
      exact ⟨rfl, rfl, rfl, zEq.rf, h0⟩
    · exact absurd c_31 (by omega)
  · exact absurd c_3 (by omega)

set_option maxHeartbeats 4000000 in
set_option maxRecDepth 100000 in
theorem c_countD {D : zD} {z0 nx : Nat} {L : zL} {V : zV} {a : Nat} {sw : Bool} {w : Wo} (hs : sLI L a sw) (h : LI V a sw w) {x : Int32} (ha : ¬ r10 10 x) (hb : ¬ r10 20 x) (hc : ¬ rng 9 x) : Sp D z0 4 0 0 mX11_count [.ref a, .int (x)] L V nx (zq (some (.int (o_count (x) w).1)) L nx (fun V' => zEq V V' a (a + 471) ∧ LI V' a sw (o_count (x) w).2)) := by
  have hs0 := hs
  have h0 := h
  obtain ⟨l1, l2, l3, l4, l5, l6, l7, l8, l9, l10, l11, l12⟩ := hs
  obtain ⟨k1, k2, k3, k4, k5, k6, k7, k8⟩ := h
  have l20 := l2
  obtain ⟨s1, s2, s3, s4, s5, s6, s7⟩ := l2
  have k10 := k1
  obtain ⟨v1, v2, v3, v4⟩ := k1
  refine Sp.of 1 (by decide) rfl rfl (Nat.le_of_ble_eq_true rfl) ?_
  refine z_iload_n dX11_count_0 rfl ?_
  refine z_bipush (v := nI 10) dX11_count_1 rfl ?_
  refine z_icmp_lt (tgt := 28) dX11_count_3 (by decide) (fun c_3 => ?_) (fun c_3 => ?_)
  · refine z_iload_n dX11_count_28 rfl ?_
    refine z_bipush (v := nI 20) dX11_count_29 rfl ?_
    refine z_icmp_lt (tgt := 69) dX11_count_31 (by decide) (fun c_31 => ?_) (fun c_31 => ?_)
    · refine z_iload_n dX11_count_69 rfl ?_
      refine z_tableOut (tgt := 203) dX11_count_70 (by have := rng_o (n := 8) (by decide) hc; omega) (by decide) ?_
      refine z_iconst (v := (-1)) dX11_count_203 rfl ?_
      refine z_ireturn dX11_count_204 (Nat.le_of_ble_eq_true rfl) (Nat.le_of_ble_eq_true rfl) rfl ?_
      rw [show o_count x w = (-1, w) from by unfold o_count; rw [cif_n ha, cif_n hb, cif_n hc]]
      exact ⟨rfl, rfl, rfl, zEq.rf, h0⟩
    · refine z_iload_n dX11_count_34 rfl ?_
      refine z_bipush (v := nI 24) dX11_count_35 rfl ?_
      refine z_icmp_ge (tgt := 69) dX11_count_37 (by decide) (fun c_37 => ?_) (fun c_37 => ?_)
      · refine z_iload_n dX11_count_69 rfl ?_
        refine z_tableOut (tgt := 203) dX11_count_70 (by have := rng_o (n := 8) (by decide) hc; omega) (by decide) ?_
        refine z_iconst (v := (-1)) dX11_count_203 rfl ?_
        refine z_ireturn dX11_count_204 (Nat.le_of_ble_eq_true rfl) (Nat.le_of_ble_eq_true rfl) rfl ?_
        rw [show o_count x w = (-1, w) from by unfold o_count; rw [cif_n ha, cif_n hb, cif_n hc]]
        exact ⟨rfl, rfl, rfl, zEq.rf, h0⟩
      · exact (r10_n (by decide) hb c_31 c_37).elim
  · refine z_iload_n dX11_count_6 rfl ?_
    refine z_bipush (v := nI 14) dX11_count_7 rfl ?_
    refine z_icmp_ge (tgt := 28) dX11_count_9 (by decide) (fun c_9 => ?_) (fun c_9 => ?_)
    · refine z_iload_n dX11_count_28 rfl ?_
      refine z_bipush (v := nI 20) dX11_count_29 rfl ?_
      refine z_icmp_lt (tgt := 69) dX11_count_31 (by decide) (fun c_31 => ?_) (fun c_31 => ?_)
      · refine z_iload_n dX11_count_69 rfl ?_
        refine z_tableOut (tgt := 203) dX11_count_70 (by have := rng_o (n := 8) (by decide) hc; omega) (by decide) ?_
        refine z_iconst (v := (-1)) dX11_count_203 rfl ?_
        refine z_ireturn dX11_count_204 (Nat.le_of_ble_eq_true rfl) (Nat.le_of_ble_eq_true rfl) rfl ?_
        rw [show o_count x w = (-1, w) from by unfold o_count; rw [cif_n ha, cif_n hb, cif_n hc]]
        exact ⟨rfl, rfl, rfl, zEq.rf, h0⟩
      · refine z_iload_n dX11_count_34 rfl ?_
        refine z_bipush (v := nI 24) dX11_count_35 rfl ?_
        refine z_icmp_ge (tgt := 69) dX11_count_37 (by decide) (fun c_37 => ?_) (fun c_37 => ?_)
        · refine z_iload_n dX11_count_69 rfl ?_
          refine z_tableOut (tgt := 203) dX11_count_70 (by have := rng_o (n := 8) (by decide) hc; omega) (by decide) ?_
          refine z_iconst (v := (-1)) dX11_count_203 rfl ?_
          refine z_ireturn dX11_count_204 (Nat.le_of_ble_eq_true rfl) (Nat.le_of_ble_eq_true rfl) rfl ?_
          rw [show o_count x w = (-1, w) from by unfold o_count; rw [cif_n ha, cif_n hb, cif_n hc]]
          exact ⟨rfl, rfl, rfl, zEq.rf, h0⟩
        · exact (r10_n (by decide) hb c_31 c_37).elim
    · exact (r10_n (by decide) ha c_3 c_9).elim

theorem c_count {D : zD} {z0 nx : Nat} {L : zL} {V : zV} {a : Nat} {sw : Bool} {w : Wo} (hs : sLI L a sw) (h : LI V a sw w) {x : Int32} : Sp D z0 4 0 0 mX11_count [.ref a, .int x] L V nx (zq (some (.int (o_count x w).1)) L nx (fun V' => zEq V V' a (a + 471) ∧ LI V' a sw (o_count x w).2)) := by
  by_cases h1 : r10 10 x
  · obtain ⟨k, hk, rfl⟩ := h1
    exact c_countA hs h hk
  · by_cases h2 : r10 20 x
    · obtain ⟨k, hk, rfl⟩ := h2
      exact c_countB hs h hk
    · by_cases h3 : rng 9 x
      · obtain ⟨k, hk, rfl⟩ := h3
        rcases (show k = 0 ∨ k = 1 ∨ k = 2 ∨ k = 3 ∨ k = 4 ∨ k = 5 ∨ k = 6 ∨ k = 7 ∨ k = 8 by omega) with rfl | rfl | rfl | rfl | rfl | rfl | rfl | rfl | rfl
        · exact c_countC0 hs h
        · exact c_countC1 hs h
        · exact c_countC2 hs h
        · exact c_countC3 hs h
        · exact c_countC4 hs h
        · exact c_countC5 hs h
        · exact c_countC6 hs h
        · exact c_countC7 hs h
        · exact c_countC8 hs h
      · exact c_countD hs h h1 h2 h3

