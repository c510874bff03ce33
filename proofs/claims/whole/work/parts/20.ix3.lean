/-! OneIndex, on: what a commit changes; copies; units ahead -/
noncomputable def pb (p : Prop) : Bool := @decide p (Classical.propDecidable p)
theorem pb_iff {p : Prop} : pb p = true ↔ p := by unfold pb; exact @decide_eq_true_iff p (Classical.propDecidable p)
theorem zb_pb (p : Prop) : zb p = zb (pb p = true) := zb_iff pb_iff.symm
noncomputable def xKeep (c : Nat) (p : Prop) (x : Ix) : Ix := if x.1.1 = 0 then x else if x.1.1 = 4 then xDo c p x else if 120 ≤ x.2.2.2.2.length then xClear 3 else (x.1, x.2.1, x.2.2.1, x.2.2.2.1, x.2.2.2.2 ++ [c * 2 + if pb p then 1 else 0])
noncomputable def xKO (q : Option Nat) (p : Prop) (x : Ix) : Ix := match q with
  | none => x
  | some c => xKeep c p x

set_option maxHeartbeats 4000000 in
set_option maxRecDepth 100000 in
theorem s_keepSome {D : zD} {z0 nx : Nat} {L : zL} {V : zV} {a c : Nat} {x : Ix} {b : Int32} {p : Prop} (hs : sIx L a) (h : IX V a x) (hc : c < 64000000) (hb : b = zb p) : Sp D z0 5 0 0 mX3_keepTrue [.ref a, .int (nI c), .int b] L V nx (zq none L nx (fun V' => zEq V V' a (a + 12) ∧ IX V' a (xKeep c p x))) := by
  subst hb
  have hs0 := hs
  have h0 := h
  obtain ⟨h1, h2, h3, h4, h5⟩ := hs
  obtain ⟨⟨⟨g1, g2, g3, g4, g5⟩, k1, k2, k3, k4, k5⟩, gd, ge, ⟨f, gn⟩, gl⟩ := h
  have hll := gl.2.2.1
  refine Sp.of 0 (by decide) rfl rfl (Nat.le_of_ble_eq_true rfl) ?_
  refine z_iload_n dX3_keepTrue_0 rfl ?_
  refine z_iconst (v := (-1)) dX3_keepTrue_1 rfl ?_
  refine z_icmp_eq (tgt := 12) dX3_keepTrue_2 (by decide) (fun c_2 => ?_) (fun c_2 => ?_)
  · exact absurd c_2 (nI_ne_m1 (by omega))
  · refine z_aload_n dX3_keepTrue_5 rfl ?_
    refine z_getIe dX3_keepTrue_6 fX3_35 (by first | assumption | exact And.left (by assumption)) rfl (by first | assumption | exact zup_s _ _ _ _ | rfl) ?_
    refine z_if_neN (tgt := 13) dX3_keepTrue_9 (by decide) (by omega) (fun c_9 => ?_) (fun c_9 => ?_)
    · refine z_aload_n dX3_keepTrue_13 rfl ?_
      refine z_getIe dX3_keepTrue_14 fX3_35 (by first | assumption | exact And.left (by assumption)) rfl (by first | assumption | exact zup_s _ _ _ _ | rfl) ?_
      refine z_iconst (v := nI 4) dX3_keepTrue_17 rfl ?_
      refine z_icmp_neN (tgt := 30) dX3_keepTrue_18 (by decide) (by omega) (by omega) (fun c_18 => ?_) (fun c_18 => ?_)
      · refine z_aload_n dX3_keepTrue_30 rfl ?_
        refine z_getR dX3_keepTrue_31 fX3_32 (by first | assumption | exact And.left (by assumption)) rfl ?_
        refine z_callV0i dX3_keepTrue_34 kX2_isFull lX3_157 (by first | assumption | exact And.left (by assumption)) rfl (s_LGfull (by assumption) (by assumption)) (Nat.le_of_ble_eq_true rfl) (Nat.le_of_ble_eq_true rfl) ⟨Nat.le_of_ble_eq_true rfl, Nat.le_of_ble_eq_true rfl⟩ ?_
        refine z_if_eqB (tgt := 48) dX3_keepTrue_37 (by decide) (fun c_37 => ?_) (fun c_37 => ?_)
        · refine z_aload_n dX3_keepTrue_48 rfl ?_
          refine z_getR dX3_keepTrue_49 fX3_32 (by first | assumption | exact And.left (by assumption)) rfl ?_
          refine z_iload_n dX3_keepTrue_52 rfl ?_
          refine z_iload_n dX3_keepTrue_53 rfl ?_
          rw [zb_pb p]
          refine z_callV2w dX3_keepTrue_54 kX2_append lX3_160 (by first | assumption | exact And.left (by assumption)) rfl (s_LGapp (by assumption) (by assumption) (by omega) (by omega)) (Nat.le_of_ble_eq_true rfl) (Nat.le_of_ble_eq_true rfl) ⟨Nat.le_of_ble_eq_true rfl, Nat.le_of_ble_eq_true rfl⟩ ?_
          intro V1 hV1
          refine z_return dX3_keepTrue_57 (Nat.le_of_ble_eq_true rfl) (Nat.le_of_ble_eq_true rfl) rfl ?_
          refine ⟨rfl, rfl, rfl, ?_, ?_⟩
          · first | exact hV1.1 | exact hV1.1.wide (by omega) (by omega) | exact zEq.rf
          · unfold xKeep
            first
              | (rw [if_pos (by omega)]; exact h0)
              | (rw [if_neg (by omega), if_pos (by omega)]; exact hV1.2)
              | (rw [if_neg (by omega), if_neg (by omega), if_pos (by omega)]; exact hV1.2)
              | (rw [if_neg (by omega), if_neg (by omega), if_neg (by omega)]; exact IX_lt h0 hV1.1 hV1.2)
        · refine z_aload_n dX3_keepTrue_40 rfl ?_
          refine z_iconst (v := nI 3) dX3_keepTrue_41 rfl ?_
          refine z_callV1w dX3_keepTrue_42 kX3_drop lX3_136 (by first | assumption | exact And.left (by assumption)) rfl (s_drop (by assumption) (by assumption) (by omega)) (Nat.le_of_ble_eq_true rfl) (Nat.le_of_ble_eq_true rfl) ⟨Nat.le_of_ble_eq_true rfl, Nat.le_of_ble_eq_true rfl⟩ ?_
          intro V1 hV1
          refine z_goto (tgt := 57) dX3_keepTrue_45 (by decide) ?_
          refine z_return dX3_keepTrue_57 (Nat.le_of_ble_eq_true rfl) (Nat.le_of_ble_eq_true rfl) rfl ?_
          refine ⟨rfl, rfl, rfl, ?_, ?_⟩
          · first | exact hV1.1 | exact hV1.1.wide (by omega) (by omega) | exact zEq.rf
          · unfold xKeep
            first
              | (rw [if_pos (by omega)]; exact h0)
              | (rw [if_neg (by omega), if_pos (by omega)]; exact hV1.2)
              | (rw [if_neg (by omega), if_neg (by omega), if_pos (by omega)]; exact hV1.2)
              | (rw [if_neg (by omega), if_neg (by omega), if_neg (by omega)]; exact IX_lt h0 hV1.1 hV1.2)
      · refine z_aload_n dX3_keepTrue_21 rfl ?_
        refine z_iload_n dX3_keepTrue_22 rfl ?_
        refine z_iload_n dX3_keepTrue_23 rfl ?_
        refine z_callV2w dX3_keepTrue_24 kX3_carryOut lX3_148 (by first | assumption | exact And.left (by assumption)) rfl (s_carryOut (by assumption) (by assumption) (by omega) rfl) (Nat.le_of_ble_eq_true rfl) (Nat.le_of_ble_eq_true rfl) ⟨Nat.le_of_ble_eq_true rfl, Nat.le_of_ble_eq_true rfl⟩ ?_
        intro V1 hV1
        refine z_goto (tgt := 57) dX3_keepTrue_27 (by decide) ?_
        refine z_return dX3_keepTrue_57 (Nat.le_of_ble_eq_true rfl) (Nat.le_of_ble_eq_true rfl) rfl ?_
        refine ⟨rfl, rfl, rfl, ?_, ?_⟩
        · first | exact hV1.1 | exact hV1.1.wide (by omega) (by omega) | exact zEq.rf
        · unfold xKeep
          first
            | (rw [if_pos (by omega)]; exact h0)
            | (rw [if_neg (by omega), if_pos (by omega)]; exact hV1.2)
            | (rw [if_neg (by omega), if_neg (by omega), if_pos (by omega)]; exact hV1.2)
            | (rw [if_neg (by omega), if_neg (by omega), if_neg (by omega)]; exact IX_lt h0 hV1.1 hV1.2)
    · refine z_return dX3_keepTrue_12 (Nat.le_of_ble_eq_true rfl) (Nat.le_of_ble_eq_true rfl) rfl ?_
      refine ⟨rfl, rfl, rfl, ?_, ?_⟩
      · first | exact hV1.1 | exact hV1.1.wide (by omega) (by omega) | exact zEq.rf
      · unfold xKeep
        first
          | (rw [if_pos (by omega)]; exact h0)
          | (rw [if_neg (by omega), if_pos (by omega)]; exact hV1.2)
          | (rw [if_neg (by omega), if_neg (by omega), if_pos (by omega)]; exact hV1.2)
          | (rw [if_neg (by omega), if_neg (by omega), if_neg (by omega)]; exact IX_lt h0 hV1.1 hV1.2)

set_option maxHeartbeats 4000000 in
set_option maxRecDepth 100000 in
theorem s_keepNone {D : zD} {z0 nx : Nat} {L : zL} {V : zV} {a : Nat} {x : Ix} {b : Int32} {p : Prop} (hs : sIx L a) (h : IX V a x) (hb : b = zb p) : Sp D z0 5 0 0 mX3_keepTrue [.ref a, .int (-1), .int b] L V nx (zq none L nx (fun V' => zEq V V' a (a + 12) ∧ IX V' a (x))) := by
  subst hb
  have hs0 := hs
  have h0 := h
  obtain ⟨h1, h2, h3, h4, h5⟩ := hs
  obtain ⟨⟨⟨g1, g2, g3, g4, g5⟩, k1, k2, k3, k4, k5⟩, gd, ge, ⟨f, gn⟩, gl⟩ := h
  refine Sp.of 0 (by decide) rfl rfl (Nat.le_of_ble_eq_true rfl) ?_
  refine z_iload_n dX3_keepTrue_0 rfl ?_
  refine z_iconst (v := (-1)) dX3_keepTrue_1 rfl ?_
  refine z_icmp_eq (tgt := 12) dX3_keepTrue_2 (by decide) (fun c_2 => ?_) (fun c_2 => ?_)
  · refine z_return dX3_keepTrue_12 (Nat.le_of_ble_eq_true rfl) (Nat.le_of_ble_eq_true rfl) rfl ?_
    exact ⟨rfl, rfl, rfl, zEq.rf, h0⟩
  · exact absurd rfl c_2

theorem s_keepTrue {D : zD} {z0 nx : Nat} {L : zL} {V : zV} {a : Nat} {x : Ix} {q : Option Nat} {b : Int32} {p : Prop} (hs : sIx L a) (h : IX V a x) (hq : ∀ c, q = some c → c < 64000000) (hb : b = zb p) : Sp D z0 5 0 0 mX3_keepTrue [.ref a, .int (vv q), .int b] L V nx (zq none L nx (fun V' => zEq V V' a (a + 12) ∧ IX V' a (xKO q p x))) := by
  cases q with
  | none => exact s_keepNone hs h hb
  | some c => exact s_keepSome hs h (hq c rfl) hb
theorem vv_inj {x y : Option Nat} (hx : ∀ c, x = some c → c < 2147483648) (hy : ∀ c, y = some c → c < 2147483648) (h : vv x = vv y) : x = y := by
  cases x with
  | none =>
    cases y with
    | none => rfl
    | some c => exact absurd h.symm (nI_ne_m1 (hy c rfl))
  | some c =>
    cases y with
    | none => exact absurd h (nI_ne_m1 (hx c rfl))
    | some e => rw [nI_inj (hx c rfl) (hy e rfl) h]
noncomputable def xRowF (v : Vs) (w : Nat → Option (Option Nat)) (r : Nat) (y : Ix) : Ix := match w r with
  | none => y
  | some u => @ite _ (eo y.2.1 (lst v r).2 r = eo y.2.1 u r) (Classical.propDecidable _) y (xKO (eo y.2.1 u r) True (xKO (eo y.2.1 (lst v r).2 r) False y))
noncomputable def xFol (v : Vs) (w : Nat → Option (Option Nat)) (x : Ix) : Nat → Ix
  | 0 => x
  | i + 1 => xRowF v w i (xFol v w x i)
theorem xKO_0 {q : Option Nat} {p : Prop} {x : Ix} (h : x.1.1 = 0) : xKO q p x = x := by
  cases q with
  | none => rfl
  | some c => show xKeep c p x = x; rw [xKeep, if_pos h]
theorem xRowF_0 {v : Vs} {w : Nat → Option (Option Nat)} {r : Nat} {y : Ix} (h : y.1.1 = 0) : xRowF v w r y = y := by
  unfold xRowF
  split
  · rfl
  · split
    · rfl
    · rw [xKO_0 h, xKO_0 h]
theorem xFol_0 {v : Vs} {w : Nat → Option (Option Nat)} {x : Ix} {i : Nat} (h : (xFol v w x i).1.1 = 0) : ∀ n, xFol v w x (i + n) = xFol v w x i
  | 0 => rfl
  | n + 1 => by
    have ih := xFol_0 h n
    show xRowF v w (i + n) (xFol v w x (i + n)) = _
    rw [ih, xRowF_0 h]

set_option maxHeartbeats 4000000 in
set_option maxRecDepth 100000 in
theorem lp_follow {D : zD} {z0 nx : Nat} {L : zL} {V : zV} {a b c : Nat} {v : Vs} {t : Tr} {x : Ix} (hs : sIx L a) (hs2 : sVe L b) (hv : VE V b v) (hs3 : sTr L c) (ht : TR V c t) (hab : a + 12 ≤ b ∨ b + 4 ≤ a) (hac : a + 12 ≤ c ∨ c + 2 ≤ a) : ∀ (fu : Nat) (i : Nat) (V1 : zV), 48 - i = fu → i ≤ 48 → zEq V V1 a (a + 12) → IX V1 a (xFol v t.2.2 x i) → Z D z0 6 0 0 mX3_follow 0 0 2 [some (.ref a), some (.ref b), some (.ref c), some (.int (nI i)), none, none] [] L V1 nx (zq none L nx (fun V' => zEq V V' a (a + 12) ∧ IX V' a (xFol v t.2.2 x 48))) := by
  intro fu
  induction fu using Nat.strongRecOn with
  | ind fu ih =>
    intro i V1 h_fu h_0 h_1 h_2
    have hs0 := hs
    obtain ⟨h1, h2, h3, h4, h5⟩ := hs
    have hs30 := hs3
    obtain ⟨m1, m2⟩ := hs3
    have hv1 := hv.eq h_1 (by omega)
    have ht1 := ht.eq h_1 (by omega)
    have h0 := h_2
    obtain ⟨⟨⟨g1, g2, g3, g4, g5⟩, k1, k2, k3, k4, k5⟩, gd, ge, gn, gl⟩ := h_2
    generalize hy : xFol v t.2.2 x i = y at *
    refine z_iload_n dX3_follow_2 rfl ?_
    refine z_bipush (v := nI 48) dX3_follow_3 rfl ?_
    refine z_icmp_geN (tgt := 84) dX3_follow_5 (by decide) (by omega) (by omega) (fun c_5 => ?_) (fun c_5 => ?_)
    · refine z_return dX3_follow_84 (Nat.le_of_ble_eq_true rfl) (Nat.le_of_ble_eq_true rfl) rfl ?_
      refine ⟨rfl, rfl, rfl, h_1, ?_⟩
      first
        | (rw [show (48 : Nat) = i by omega, hy]; exact h0)
        | (rw [show (48 : Nat) = i + (48 - i) by omega, xFol_0 (by rw [hy]; exact c_12), hy]; exact h0)
    · refine z_aload_n dX3_follow_8 rfl ?_
      refine z_getIe dX3_follow_9 fX3_35 (by first | assumption | exact And.left (by assumption)) rfl (by first | assumption | exact zup_s _ _ _ _ | rfl) ?_
      refine z_if_eqN (tgt := 84) dX3_follow_12 (by decide) (by omega) (fun c_12 => ?_) (fun c_12 => ?_)
      · refine z_return dX3_follow_84 (Nat.le_of_ble_eq_true rfl) (Nat.le_of_ble_eq_true rfl) rfl ?_
        refine ⟨rfl, rfl, rfl, h_1, ?_⟩
        first
          | (rw [show (48 : Nat) = i by omega, hy]; exact h0)
          | (rw [show (48 : Nat) = i + (48 - i) by omega, xFol_0 (by rw [hy]; exact c_12), hy]; exact h0)
      · refine z_aload_n dX3_follow_15 rfl ?_
        refine z_iload_n dX3_follow_16 rfl ?_
        refine z_callV1i dX3_follow_17 kX9_hasWritten lX3_89 (by first | assumption | exact And.left (by assumption)) rfl (s_hasWritten (by assumption) (by assumption) (by omega)) (Nat.le_of_ble_eq_true rfl) (Nat.le_of_ble_eq_true rfl) ⟨Nat.le_of_ble_eq_true rfl, Nat.le_of_ble_eq_true rfl⟩ ?_
        refine z_if_neB (tgt := 26) dX3_follow_20 (by decide) (fun c_20 => ?_) (fun c_20 => ?_)
        · obtain ⟨u, hu⟩ := Option.ne_none_iff_exists'.mp c_20
          have hw : V1 (c + 1) i = vv u := by rw [ht1.2.2.2.1 i (by omega), hu]; rfl
          have b1 := (hv1.lst (r := i) (by omega)).2
          have b2 : ∀ p, u = some p → p < 1000000 := fun p hp => ht1.2.2.2.2.2 i p (by rw [hu, hp])
          refine z_aload_n dX3_follow_26 rfl ?_
          refine z_getR dX3_follow_27 fX3_12 (by first | assumption | exact And.left (by assumption)) rfl ?_
          refine z_aload_n dX3_follow_30 rfl ?_
          refine z_iload_n dX3_follow_31 rfl ?_
          refine z_callV1i dX3_follow_32 kX10_latest lX3_95 (by first | assumption | exact And.left (by assumption)) rfl (s_latest (by assumption) (by assumption) (by omega)) (Nat.le_of_ble_eq_true rfl) (Nat.le_of_ble_eq_true rfl) ⟨Nat.le_of_ble_eq_true rfl, Nat.le_of_ble_eq_true rfl⟩ ?_
          refine z_iload_n dX3_follow_35 rfl ?_
          refine z_callV2i dX3_follow_36 kX1_entryOf lX3_101 (by first | assumption | exact And.left (by assumption)) rfl (s_entryOf (v := (lst v i).2) h2 gd b1 (by omega)) (Nat.le_of_ble_eq_true rfl) (Nat.le_of_ble_eq_true rfl) ⟨Nat.le_of_ble_eq_true rfl, Nat.le_of_ble_eq_true rfl⟩ ?_
          refine z_istore dX3_follow_39 (Nat.le_of_ble_eq_true rfl) rfl ?_
          refine z_aload_n dX3_follow_41 rfl ?_
          refine z_getR dX3_follow_42 fX3_12 (by first | assumption | exact And.left (by assumption)) rfl ?_
          refine z_aload_n dX3_follow_45 rfl ?_
          refine z_getR dX3_follow_46 fX3_105 (by first | assumption | exact And.left (by assumption)) rfl ?_
          refine z_iload_n dX3_follow_49 rfl ?_
          refine z_ialdN dX3_follow_50 (by first | assumption | exact And.left (by assumption)) (by omega) (by decide) (by first | assumption | exact zup_s _ _ _ _ | rfl) ?_
          refine z_iload_n dX3_follow_51 rfl ?_
          refine z_callV2i dX3_follow_52 kX1_entryOf lX3_101 (by first | assumption | exact And.left (by assumption)) rfl (s_entryOf (v := u) h2 gd b2 (by omega)) (Nat.le_of_ble_eq_true rfl) (Nat.le_of_ble_eq_true rfl) ⟨Nat.le_of_ble_eq_true rfl, Nat.le_of_ble_eq_true rfl⟩ ?_
          refine z_istore dX3_follow_55 (Nat.le_of_ble_eq_true rfl) rfl ?_
          refine z_iload dX3_follow_57 rfl ?_
          refine z_iload dX3_follow_59 rfl ?_
          have q1 := eo_lt (x := y.2.1) b1 (r := i) (by omega)
          have q2 := eo_lt (x := y.2.1) b2 (r := i) (by omega)
          refine z_icmp_eq (tgt := 78) dX3_follow_61 (by decide) (fun c_61 => ?_) (fun c_61 => ?_)
          · have heq : eo y.2.1 (lst v i).2 i = eo y.2.1 u i := vv_inj (fun c hc => by have := q1 c hc; omega) (fun c hc => by have := q2 c hc; omega) c_61
            have eN : xFol v t.2.2 x (i + 1) = y := by
              show xRowF v t.2.2 i (xFol v t.2.2 x i) = _
              rw [hy]
              unfold xRowF
              rw [hu]
              exact if_pos heq
            refine z_incN dX3_follow_78 rfl rfl ?_
            refine z_goto (tgt := 2) dX3_follow_81 (by decide) ?_
            refine z_fg 4 ?_
            refine z_fg 5 ?_
            first
              | exact ih _ (by omega) (i + 1) V1 rfl (by omega) h_1 (by rw [eN]; exact h0)
              | exact ih _ (by omega) (i + 1) V3 rfl (by omega) (h_1.trans (hV2.1.trans hV3.1)) (by rw [eN]; exact hV3.2)
          · have hne : ¬ eo y.2.1 (lst v i).2 i = eo y.2.1 u i := fun e => c_61 (by rw [e])
            have eN : xFol v t.2.2 x (i + 1) = xKO (eo y.2.1 u i) True (xKO (eo y.2.1 (lst v i).2 i) False y) := by
              show xRowF v t.2.2 i (xFol v t.2.2 x i) = _
              rw [hy]
              unfold xRowF
              rw [hu]
              exact if_neg hne
            refine z_aload_n dX3_follow_64 rfl ?_
            refine z_iload dX3_follow_65 rfl ?_
            refine z_iconst (v := nI 0) dX3_follow_67 rfl ?_
            refine z_callV2w dX3_follow_68 kX3_keepTrue lX3_109 (by first | assumption | exact And.left (by assumption)) rfl (s_keepTrue (q := eo y.2.1 (lst v i).2 i) (p := False) hs0 h0 q1 (zb_f (fun q => q)).symm) (Nat.le_of_ble_eq_true rfl) (Nat.le_of_ble_eq_true rfl) ⟨Nat.le_of_ble_eq_true rfl, Nat.le_of_ble_eq_true rfl⟩ ?_
            intro V2 hV2
            refine z_aload_n dX3_follow_71 rfl ?_
            refine z_iload dX3_follow_72 rfl ?_
            refine z_iconst (v := nI 1) dX3_follow_74 rfl ?_
            refine z_callV2w dX3_follow_75 kX3_keepTrue lX3_109 (by first | assumption | exact And.left (by assumption)) rfl (s_keepTrue (q := eo y.2.1 u i) (p := True) hs0 hV2.2 q2 (zb_t trivial).symm) (Nat.le_of_ble_eq_true rfl) (Nat.le_of_ble_eq_true rfl) ⟨Nat.le_of_ble_eq_true rfl, Nat.le_of_ble_eq_true rfl⟩ ?_
            intro V3 hV3
            refine z_incN dX3_follow_78 rfl rfl ?_
            refine z_goto (tgt := 2) dX3_follow_81 (by decide) ?_
            refine z_fg 4 ?_
            refine z_fg 5 ?_
            first
              | exact ih _ (by omega) (i + 1) V1 rfl (by omega) h_1 (by rw [eN]; exact h0)
              | exact ih _ (by omega) (i + 1) V3 rfl (by omega) (h_1.trans (hV2.1.trans hV3.1)) (by rw [eN]; exact hV3.2)
        · have eN : xFol v t.2.2 x (i + 1) = y := by
            show xRowF v t.2.2 i (xFol v t.2.2 x i) = _
            rw [hy]
            unfold xRowF
            rw [show t.2.2 i = none from Classical.byContradiction c_20]
          refine z_goto (tgt := 78) dX3_follow_23 (by decide) ?_
          refine z_incN dX3_follow_78 rfl rfl ?_
          refine z_goto (tgt := 2) dX3_follow_81 (by decide) ?_
          refine z_fg 4 ?_
          refine z_fg 5 ?_
          first
            | exact ih _ (by omega) (i + 1) V1 rfl (by omega) h_1 (by rw [eN]; exact h0)
            | exact ih _ (by omega) (i + 1) V3 rfl (by omega) (h_1.trans (hV2.1.trans hV3.1)) (by rw [eN]; exact hV3.2)

set_option maxHeartbeats 4000000 in
set_option maxRecDepth 100000 in
theorem s_follow {D : zD} {z0 nx : Nat} {L : zL} {V : zV} {a b c : Nat} {v : Vs} {t : Tr} {x : Ix} (hs : sIx L a) (h : IX V a x) (hs2 : sVe L b) (hv : VE V b v) (hs3 : sTr L c) (ht : TR V c t) (hab : a + 12 ≤ b ∨ b + 4 ≤ a) (hac : a + 12 ≤ c ∨ c + 2 ≤ a) : Sp D z0 6 0 0 mX3_follow [.ref a, .ref b, .ref c] L V nx (zq none L nx (fun V' => zEq V V' a (a + 12) ∧ IX V' a (xFol v t.2.2 x 48))) := by
  refine Sp.of 3 (by decide) rfl rfl (Nat.le_of_ble_eq_true rfl) ?_
  refine z_iconst (v := nI 0) dX3_follow_0 rfl ?_
  refine z_istore_n dX3_follow_1 (Nat.le_of_ble_eq_true rfl) rfl ?_
  exact lp_follow hs hs2 hv hs3 ht hab hac _ 0 V rfl (by omega) zEq.rf h

set_option maxHeartbeats 4000000 in
set_option maxRecDepth 100000 in
theorem s_IXcopy {D : zD} {z0 nx : Nat} {L : zL} {V : zV} {a b : Nat} {x y : Ix} (hs : sIx L a) (h : IX V a x) (hs2 : sIx L b) (h2 : IX V b y) (hab : a + 12 ≤ b ∨ b + 12 ≤ a) : Sp D z0 4 0 0 mX3_copyFrom [.ref a, .ref b] L V nx (zq none L nx (fun V' => zEq V V' a (a + 12) ∧ IX V' a (y))) := by
  have hb0 := h2
  obtain ⟨⟨⟨q1, q2, q3, q4, q5⟩, r1, r2, r3, r4, r5⟩, qd, qe, ⟨qf, qn⟩, ql⟩ := h2
  obtain ⟨n1, n2, n3, n4, n5⟩ := hs2
  have hs0 := hs
  have h0 := h
  obtain ⟨h1, h2, h3, h4, h5⟩ := hs
  obtain ⟨⟨⟨g1, g2, g3, g4, g5⟩, k1, k2, k3, k4, k5⟩, gd, ge, ⟨f, gn⟩, gl⟩ := h
  refine Sp.of 0 (by decide) rfl rfl (Nat.le_of_ble_eq_true rfl) ?_
  refine z_aload_n dX3_copyFrom_0 rfl ?_
  refine z_aload_n dX3_copyFrom_1 rfl ?_
  refine z_getIe dX3_copyFrom_2 fX3_35 (by first | assumption | exact And.left (by assumption)) rfl (by first | assumption | exact zup_s _ _ _ _ | rfl) ?_
  refine z_putI dX3_copyFrom_5 fX3_35 (by first | assumption | exact And.left (by assumption)) rfl ?_
  refine z_aload_n dX3_copyFrom_8 rfl ?_
  refine z_aload_n dX3_copyFrom_9 rfl ?_
  refine z_getIe dX3_copyFrom_10 fX3_39 (by first | assumption | exact And.left (by assumption)) rfl ((congrFun (zup_a (by omega)) _).trans q2) ?_
  refine z_putI dX3_copyFrom_13 fX3_39 (by first | assumption | exact And.left (by assumption)) rfl ?_
  refine z_aload_n dX3_copyFrom_16 rfl ?_
  refine z_aload_n dX3_copyFrom_17 rfl ?_
  refine z_getIe dX3_copyFrom_18 fX3_42 (by first | assumption | exact And.left (by assumption)) rfl ((congrFun ((zup_a (by omega)).trans (zup_a (by omega))) _).trans q3) ?_
  refine z_putI dX3_copyFrom_21 fX3_42 (by first | assumption | exact And.left (by assumption)) rfl ?_
  refine z_aload_n dX3_copyFrom_24 rfl ?_
  refine z_aload_n dX3_copyFrom_25 rfl ?_
  refine z_getIe dX3_copyFrom_26 fX3_45 (by first | assumption | exact And.left (by assumption)) rfl ((congrFun ((zup_a (by omega)).trans ((zup_a (by omega)).trans (zup_a (by omega)))) _).trans q4) ?_
  refine z_putI dX3_copyFrom_29 fX3_45 (by first | assumption | exact And.left (by assumption)) rfl ?_
  refine z_aload_n dX3_copyFrom_32 rfl ?_
  refine z_aload_n dX3_copyFrom_33 rfl ?_
  refine z_getIe dX3_copyFrom_34 fX3_48 (by first | assumption | exact And.left (by assumption)) rfl ((congrFun ((zup_a (by omega)).trans ((zup_a (by omega)).trans ((zup_a (by omega)).trans (zup_a (by omega))))) _).trans q5) ?_
  refine z_putI dX3_copyFrom_37 fX3_48 (by first | assumption | exact And.left (by assumption)) rfl ?_
  refine z_aload_n dX3_copyFrom_40 rfl ?_
  refine z_getR dX3_copyFrom_41 fX3_12 (by first | assumption | exact And.left (by assumption)) rfl ?_
  refine z_aload_n dX3_copyFrom_44 rfl ?_
  refine z_getR dX3_copyFrom_45 fX3_12 (by first | assumption | exact And.left (by assumption)) rfl ?_
  have i1 := IX_eb (IX_rd (IX_nr (IX_sn (IX_st h0 r1) r2) r3) r4) r5
  have e1 : zEq V (zup (zup (zup (zup (zup V a 0 (nI y.1.1)) a 1 (nI y.1.2.1)) a 2 (nI y.1.2.2.1)) a 3 (nI y.1.2.2.2.1)) a 4 (nI y.1.2.2.2.2)) a (a + 12) := ((((zEq.rf.up (by omega) (by omega)).up (by omega) (by omega)).up (by omega) (by omega)).up (by omega) (by omega)).up (by omega) (by omega)
  have w1 := qd.eq e1 (by omega)
  refine z_callV1w dX3_copyFrom_48 kX1_copyFrom lX3_51 (by first | assumption | exact And.left (by assumption)) rfl (s_DFcopy (by assumption) (by assumption) (by assumption) (by omega)) (Nat.le_of_ble_eq_true rfl) (Nat.le_of_ble_eq_true rfl) ⟨Nat.le_of_ble_eq_true rfl, Nat.le_of_ble_eq_true rfl⟩ ?_
  intro V1 hV1
  have i2 := IX_df i1 hV1.1 hV1.2
  have e2 := e1.trans (hV1.1.wide (by omega) (by omega))
  have w2 := qe.eq e2 (by omega)
  refine z_aload_n dX3_copyFrom_51 rfl ?_
  refine z_getR dX3_copyFrom_52 fX3_21 (by first | assumption | exact And.left (by assumption)) rfl ?_
  refine z_aload_n dX3_copyFrom_55 rfl ?_
  refine z_getR dX3_copyFrom_56 fX3_21 (by first | assumption | exact And.left (by assumption)) rfl ?_
  refine z_callV1w dX3_copyFrom_59 kX6_copyFrom lX3_55 (by first | assumption | exact And.left (by assumption)) rfl (s_SCcopy (by assumption) (by assumption) (by assumption) (by omega)) (Nat.le_of_ble_eq_true rfl) (Nat.le_of_ble_eq_true rfl) ⟨Nat.le_of_ble_eq_true rfl, Nat.le_of_ble_eq_true rfl⟩ ?_
  intro V2 hV2
  have i3 := IX_en i2 hV2.1 hV2.2
  have e3 := e2.trans (hV2.1.wide (by omega) (by omega))
  have w3 := qn.eq e3 (by omega)
  refine z_aload_n dX3_copyFrom_62 rfl ?_
  refine z_getR dX3_copyFrom_63 fX3_28 (by first | assumption | exact And.left (by assumption)) rfl ?_
  refine z_aload_n dX3_copyFrom_66 rfl ?_
  refine z_getR dX3_copyFrom_67 fX3_28 (by first | assumption | exact And.left (by assumption)) rfl ?_
  refine z_callV1w dX3_copyFrom_70 kX2_copyFrom lX3_58 (by first | assumption | exact And.left (by assumption)) rfl (s_LGcopy (by assumption) (by assumption) (by assumption) (by omega)) (Nat.le_of_ble_eq_true rfl) (Nat.le_of_ble_eq_true rfl) ⟨Nat.le_of_ble_eq_true rfl, Nat.le_of_ble_eq_true rfl⟩ ?_
  intro V3 hV3
  have i4 := IX_nw i3 hV3.1 hV3.2
  have e4 := e3.trans (hV3.1.wide (by omega) (by omega))
  have w4 := ql.eq e4 (by omega)
  refine z_aload_n dX3_copyFrom_73 rfl ?_
  refine z_getR dX3_copyFrom_74 fX3_32 (by first | assumption | exact And.left (by assumption)) rfl ?_
  refine z_aload_n dX3_copyFrom_77 rfl ?_
  refine z_getR dX3_copyFrom_78 fX3_32 (by first | assumption | exact And.left (by assumption)) rfl ?_
  refine z_callV1w dX3_copyFrom_81 kX2_copyFrom lX3_58 (by first | assumption | exact And.left (by assumption)) rfl (s_LGcopy (by assumption) (by assumption) (by assumption) (by omega)) (Nat.le_of_ble_eq_true rfl) (Nat.le_of_ble_eq_true rfl) ⟨Nat.le_of_ble_eq_true rfl, Nat.le_of_ble_eq_true rfl⟩ ?_
  intro V4 hV4
  have i5 := IX_lt i4 hV4.1 hV4.2
  have e5 := e4.trans (hV4.1.wide (by omega) (by omega))
  refine z_return dX3_copyFrom_84 (Nat.le_of_ble_eq_true rfl) (Nat.le_of_ble_eq_true rfl) rfl ?_
  exact ⟨rfl, rfl, rfl, e5, i5⟩

set_option maxHeartbeats 4000000 in
set_option maxRecDepth 100000 in
theorem lp_led {D : zD} {z0 nx : Nat} {L : zL} {V : zV} {a n : Nat} {x : Ix} (hs : sIx L a) (h : IX V a x) (hn : n < 100) (hc : ∀ c ∈ x.2.2.1, c < 64000000) : ∀ (fu : Nat) (i : Nat), x.2.2.1.length - i = fu → i ≤ x.2.2.1.length → Z D z0 4 0 0 mX3_entriesLedBy 0 0 4 [some (.ref a), some (.int (nI n)), some (.int (nI (cn (fun k => pe x.2.1 (x.2.2.1.getD k 0) 1 = nI n) i))), some (.int (nI i))] [] L V nx (zi (nI (cn (fun k => pe x.2.1 (x.2.2.1.getD k 0) 1 = nI n) x.2.2.1.length)) L V nx) := by
  intro fu
  induction fu using Nat.strongRecOn with
  | ind fu ih =>
    intro i h_fu h_0
    have hs0 := hs
    have h0 := h
    obtain ⟨h1, h2, h3, h4, h5⟩ := hs
    obtain ⟨⟨⟨g1, g2, g3, g4, g5⟩, k1, k2, k3, k4, k5⟩, gd, ge, ⟨f, gn⟩, gl⟩ := h
    have hz := ge.1
    have h48 := ge.2.2.1
    have h31 := h3.1
    have h32 := h3.2
    refine z_iload_n dX3_entriesLedBy_4 rfl ?_
    refine z_aload_n dX3_entriesLedBy_5 rfl ?_
    refine z_getR dX3_entriesLedBy_6 fX3_21 (by first | assumption | exact And.left (by assumption)) rfl ?_
    refine z_getIe dX3_entriesLedBy_9 fX3_113 (by first | assumption | exact And.left (by assumption)) rfl (by first | assumption | exact zup_s _ _ _ _ | rfl) ?_
    refine z_icmp_geN (tgt := 45) dX3_entriesLedBy_12 (by decide) (by omega) (by omega) (fun c_12 => ?_) (fun c_12 => ?_)
    · refine z_iload_n dX3_entriesLedBy_45 rfl ?_
      refine z_ireturn dX3_entriesLedBy_46 (Nat.le_of_ble_eq_true rfl) (Nat.le_of_ble_eq_true rfl) rfl ?_
      exact zi_r (by rw [show i = x.2.2.1.length by omega])
    · refine z_aload_n dX3_entriesLedBy_15 rfl ?_
      refine z_getR dX3_entriesLedBy_16 fX3_12 (by first | assumption | exact And.left (by assumption)) rfl ?_
      refine z_aload_n dX3_entriesLedBy_19 rfl ?_
      refine z_getR dX3_entriesLedBy_20 fX3_21 (by first | assumption | exact And.left (by assumption)) rfl ?_
      refine z_getR dX3_entriesLedBy_23 fX3_114 (by first | assumption | exact And.left (by assumption)) rfl ?_
      refine z_iload_n dX3_entriesLedBy_26 rfl ?_
      refine z_ialdN dX3_entriesLedBy_27 (by first | assumption | exact And.left (by assumption)) (by omega) (by decide) (ge.2.1 i (by omega)) ?_
      refine z_iconst (v := nI 1) dX3_entriesLedBy_28 rfl ?_
      have hci : x.2.2.1.getD i 0 < 64000000 := by
        rw [List.getD_eq_getElem?_getD, List.getElem?_eq_getElem (by omega)]
        exact hc _ (List.getElem_mem _)
      refine z_callV2i dX3_entriesLedBy_29 kX1_partOfEntry lX3_117 (by first | assumption | exact And.left (by assumption)) rfl (s_partOfEntry (by assumption) (by assumption) (by omega) (by omega)) (Nat.le_of_ble_eq_true rfl) (Nat.le_of_ble_eq_true rfl) ⟨Nat.le_of_ble_eq_true rfl, Nat.le_of_ble_eq_true rfl⟩ ?_
      refine z_iload_n dX3_entriesLedBy_32 rfl ?_
      refine z_icmp_ne (tgt := 39) dX3_entriesLedBy_33 (by decide) (fun c_33 => ?_) (fun c_33 => ?_)
      · refine z_incN dX3_entriesLedBy_39 rfl rfl ?_
        refine z_goto (tgt := 4) dX3_entriesLedBy_42 (by decide) ?_
        first
          | (have hz2 := ih _ (by omega) (i + 1) rfl (by omega); rw [cn_y (p := fun k => pe x.2.1 (x.2.2.1.getD k 0) 1 = nI n) c_33] at hz2; exact hz2)
          | (have hz2 := ih _ (by omega) (i + 1) rfl (by omega); rw [cn_n (p := fun k => pe x.2.1 (x.2.2.1.getD k 0) 1 = nI n) c_33] at hz2; exact hz2)
      · refine z_incN dX3_entriesLedBy_36 rfl rfl ?_
        refine z_incN dX3_entriesLedBy_39 rfl rfl ?_
        refine z_goto (tgt := 4) dX3_entriesLedBy_42 (by decide) ?_
        first
          | (have hz2 := ih _ (by omega) (i + 1) rfl (by omega); rw [cn_y (p := fun k => pe x.2.1 (x.2.2.1.getD k 0) 1 = nI n) c_33] at hz2; exact hz2)
          | (have hz2 := ih _ (by omega) (i + 1) rfl (by omega); rw [cn_n (p := fun k => pe x.2.1 (x.2.2.1.getD k 0) 1 = nI n) c_33] at hz2; exact hz2)

set_option maxHeartbeats 4000000 in
set_option maxRecDepth 100000 in
theorem s_led {D : zD} {z0 nx : Nat} {L : zL} {V : zV} {a n : Nat} {x : Ix} (hs : sIx L a) (h : IX V a x) (hn : n < 100) (hc : ∀ c ∈ x.2.2.1, c < 64000000) : Sp D z0 4 0 0 mX3_entriesLedBy [.ref a, .int (nI n)] L V nx (zi (nI (cn (fun k => pe x.2.1 (x.2.2.1.getD k 0) 1 = nI n) x.2.2.1.length)) L V nx) := by
  refine Sp.of 2 (by decide) rfl rfl (Nat.le_of_ble_eq_true rfl) ?_
  refine z_iconst (v := nI 0) dX3_entriesLedBy_0 rfl ?_
  refine z_istore_n dX3_entriesLedBy_1 (Nat.le_of_ble_eq_true rfl) rfl ?_
  refine z_iconst (v := nI 0) dX3_entriesLedBy_2 rfl ?_
  refine z_istore_n dX3_entriesLedBy_3 (Nat.le_of_ble_eq_true rfl) rfl ?_
  exact lp_led hs h hn hc _ 0 rfl (by omega)

