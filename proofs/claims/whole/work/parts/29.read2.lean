/-! Tape, on: whole texts; bytes that come -/
noncomputable def wv (b : List Nat) (p i : Nat) : Nat := @ite _ (isW b p i) (Classical.propDecidable _) (sk b (p + zln i)) p
/-- a text's end -/
def fin {α : Type} (b : List Nat) (p : Nat) (x : α) : Nat × Nat × α := if b.length ≤ p then (0, p, x) else (1, p, x)
/-- behind the columns of a definition -/
noncomputable def rD2 (b : List Nat) (p : Nat) (o : List (Nat × Bool)) : Nat × Nat × Df :=
  @ite _ (isW b (wv b p 2) 3) (Classical.propDecidable _)
    (if (rC b (wv b (wv b p 2) 3)).1 = 0 then fin b (rC b (wv b (wv b p 2) 3)).2.1 (o, pb (isW b p 2), true, (rC b (wv b (wv b p 2) 3)).2.2) else ((rC b (wv b (wv b p 2) 3)).1, (rC b (wv b (wv b p 2) 3)).2.1, (o, pb (isW b p 2), true, 0, 0, 0)))
    (fin b (wv b p 2) (o, pb (isW b p 2), false, 0, 0, 0))
/-- a definition: fault, place, what it is -/
noncomputable def rD (b : List Nat) : Nat × Nat × Df :=
  @ite _ (isW b (sk b 0) 0) (Classical.propDecidable _)
    (if (rO b 4 (sk b (sk b 0 + zln 0)) []).1 = 0 then rD2 b (rO b 4 (sk b (sk b 0 + zln 0)) []).2.1 (rO b 4 (sk b (sk b 0 + zln 0)) []).2.2 else ((rO b 4 (sk b (sk b 0 + zln 0)) []).1, (rO b 4 (sk b (sk b 0 + zln 0)) []).2.1, ((rO b 4 (sk b (sk b 0 + zln 0)) []).2.2, false, false, 0, 0, 0)))
    (1, sk b 0, ([], false, false, 0, 0, 0))
/-- behind the conditions of a query -/
noncomputable def rQ2 (b : List Nat) (p : Nat) (cs : List Cd) : Nat × Nat × Qu :=
  @ite _ (isW b p 6) (Classical.propDecidable _)
    (if (rO b 4 (sk b (p + zln 6)) []).1 = 0 then fin b (rO b 4 (sk b (p + zln 6)) []).2.1 (cs, (rO b 4 (sk b (p + zln 6)) []).2.2) else ((rO b 4 (sk b (p + zln 6)) []).1, (rO b 4 (sk b (p + zln 6)) []).2.1, (cs, (rO b 4 (sk b (p + zln 6)) []).2.2)))
    (fin b p (cs, []))
/-- a query: fault, place, what it is -/
noncomputable def rQ (b : List Nat) : Nat × Nat × Qu :=
  @ite _ (isW b (sk b 0) 4) (Classical.propDecidable _)
    (if clm b (sk b (sk b 0 + zln 4)) = none then rQ2 b (sk b (sk b 0 + zln 4)) [] else
      if (rCs b 5 (sk b (sk b 0 + zln 4)) []).1 = 0 then rQ2 b (rCs b 5 (sk b (sk b 0 + zln 4)) []).2.1 (rCs b 5 (sk b (sk b 0 + zln 4)) []).2.2 else ((rCs b 5 (sk b (sk b 0 + zln 4)) []).1, (rCs b 5 (sk b (sk b 0 + zln 4)) []).2.1, ((rCs b 5 (sk b (sk b 0 + zln 4)) []).2.2, [])))
    (1, sk b 0, ([], []))
theorem fr_DF {V V' : zV} {a e : Nat} {x : Df} (h : DF V e x) (hf : fr V V' a (e + 1) (e + 4)) (ho : OR V' (e + 1) x.1) (hae : e + 5 ≤ a ∨ a + 2 ≤ e) : DF V' e x := by
  obtain ⟨h1, h2, h3, h4⟩ := h
  exact ⟨ho, by rw [hf e (by omega) (by omega)]; exact h2, by rw [hf e (by omega) (by omega)]; exact h3, by unfold CO at h4 ⊢; rw [hf (e + 4) (by omega) (by omega)]; exact h4⟩
theorem PRS_eq {V V' : zV} {a lo hi p r : Nat} {b : List Nat} {fl fk fp : Int32} (h : PRS V a b r p fl fk fp) (he : zEq V V' lo hi) (hd : a + 2 ≤ lo ∨ hi ≤ a) : PRS V' a b r p fl fk fp := by
  unfold PRS at h ⊢
  exact h.eq he hd

set_option maxHeartbeats 4000000 in
set_option maxRecDepth 100000 in
theorem s_rD2 {D : zD} {z0 nx : Nat} {L : zL} {V : zV} {a p e : Nat} {n : Int32} {b : List Nat} {fl fk fp : Int32} {o : List (Nat × Bool)} (hs : sTp L a) (h : TA V a b p fl fk fp) (hse : sDf L e) (hae : e + 5 ≤ a ∨ a + 2 ≤ e) (hd : DF V e (o, false, false, 0, 0, 0)) : Z D z0 8 0 0 mX8_readDefinition 0 0 37 [some (.ref a), some (.int n), some (.ref e)] [] L V nx (zq (some (.int (zb ((rD2 b p o).1 = 0)))) L nx (fun V' => fr V V' a e (e + 5) ∧ PRS V' a b (rD2 b p o).1 (rD2 b p o).2.1 fl fk fp ∧ DF V' e (rD2 b p o).2.2)) := by
  have h0 := h
  have hse0 := hse
  have hs0 := hs
  obtain ⟨h1, h2⟩ := hs
  obtain ⟨h6, h7, h8⟩ := hse
  refine z_aload_n dX8_readDefinition_37 rfl ?_
  refine z_aload_n dX8_readDefinition_38 rfl ?_
  refine z_ldcS (i := 2) dX8_readDefinition_39 (by decide) rfl rfl ?_
  refine z_callV1q dX8_readDefinition_41 kX8_takeWord lX8_33 (by first | assumption | exact And.left (by assumption)) rfl (s_word hs0 h0 (i := 2) (by decide)) (Nat.le_of_ble_eq_true rfl) (Nat.le_of_ble_eq_true rfl) ⟨Nat.le_of_ble_eq_true rfl, Nat.le_of_ble_eq_true rfl⟩ ?_
  intro V1 hV1
  obtain ⟨e1, h0⟩ := hV1
  have d1 := hd.eq e1 (by omega)
  rw [zb_pb (isW b p 2)]
  refine z_putZb dX8_readDefinition_44 fX8_51 (by first | assumption | exact And.left (by assumption)) rfl ?_
  have z2 : zEq V1 (zup V1 e 1 (zb (pb (isW b p 2) = true))) e (e + 1) := zEq.rf.up (by omega) (by omega)
  have d2 : DF (zup V1 e 1 (zb (pb (isW b p 2) = true))) e (o, pb (isW b p 2), false, 0, 0, 0) := ⟨d1.1.eq z2 (by omega), zup_s _ _ _ _, (zup_k (by decide)).trans d1.2.2.1, d1.2.2.2.eq z2 (by omega)⟩
  have h0 := h0.eq z2 (by omega)
  refine z_aload_n dX8_readDefinition_47 rfl ?_
  refine z_aload_n dX8_readDefinition_48 rfl ?_
  refine z_ldcS (i := 3) dX8_readDefinition_49 (by decide) rfl rfl ?_
  refine z_callV1q dX8_readDefinition_51 kX8_takeWord lX8_33 (by first | assumption | exact And.left (by assumption)) rfl (s_word hs0 h0 (i := 3) (by decide)) (Nat.le_of_ble_eq_true rfl) (Nat.le_of_ble_eq_true rfl) ⟨Nat.le_of_ble_eq_true rfl, Nat.le_of_ble_eq_true rfl⟩ ?_
  intro V3 hV3
  obtain ⟨e3, h0⟩ := hV3
  have d3 := d2.eq e3 (by omega)
  have hzz := zb_pb (isW b (wv b p 2) 3)
  unfold wv at hzz
  rw [hzz]
  refine z_putZb dX8_readDefinition_54 fX8_56 (by first | assumption | exact And.left (by assumption)) rfl ?_
  have z4 : zEq V3 (zup V3 e 2 (zb (pb (isW b (wv b p 2) 3) = true))) e (e + 1) := zEq.rf.up (by omega) (by omega)
  have d4 : DF (zup V3 e 2 (zb (pb (isW b (wv b p 2) 3) = true))) e (o, pb (isW b p 2), pb (isW b (wv b p 2) 3), 0, 0, 0) := ⟨d3.1.eq z4 (by omega), (zup_k (by decide)).trans d3.2.1, zup_s _ _ _ _, d3.2.2.2.eq z4 (by omega)⟩
  have h0 := h0.eq z4 (by omega)
  have f4 := (((fr.rf (V := V) (a := a) (lo := e) (hi := e + 5)).tp e1).en z2 (by omega) (by omega)).tp e3 |>.en z4 (by omega) (by omega)
  have d40 := d4
  obtain ⟨d41, d42, d43, d44⟩ := d4
  refine z_aload_n dX8_readDefinition_57 rfl ?_
  refine z_getIe dX8_readDefinition_58 fX8_56 (by first | assumption | exact And.left (by assumption)) rfl d43 ?_
  refine z_if_eqB (tgt := 77) dX8_readDefinition_61 (by decide) (fun c_61 => ?_) (fun c_61 => ?_)
  · have hw : ¬ isW b (wv b p 2) 3 := fun q => c_61 (pb_iff.mpr q)
    have hpf : pb (isW b (wv b p 2) 3) = false := by cases hq : pb (isW b (wv b p 2) 3) with | false => rfl | true => exact absurd hq c_61
    have hwv : wv b (wv b p 2) 3 = wv b p 2 := if_neg hw
    have h0 : TA (zup V3 e 2 (zb (pb (isW b (wv b p 2) 3) = true))) a b (wv b p 2) fl fk fp := by
      have h9 : TA (zup V3 e 2 (zb (pb (isW b (wv b p 2) 3) = true))) a b (wv b (wv b p 2) 3) fl fk fp := h0
      rw [hwv] at h9
      exact h9
    have hG : rD2 b p o = fin b (wv b p 2) (o, pb (isW b p 2), false, 0, 0, 0) := by rw [rD2, if_neg hw]
    have fE := f4
    have dE : DF (zup V3 e 2 (zb (pb (isW b (wv b p 2) 3) = true))) e (o, pb (isW b p 2), false, 0, 0, 0) := ⟨d41, d42, d43.trans (zb_iff ⟨fun q => absurd q c_61, fun q => by cases q⟩), d44⟩
    refine z_aload_n dX8_readDefinition_77 rfl ?_
    refine z_callV0i dX8_readDefinition_78 kX8_isAtEnd lX8_66 (by first | assumption | exact And.left (by assumption)) rfl (s_atEnd hs0 h0) (Nat.le_of_ble_eq_true rfl) (Nat.le_of_ble_eq_true rfl) ⟨Nat.le_of_ble_eq_true rfl, Nat.le_of_ble_eq_true rfl⟩ ?_
    refine z_if_neB (tgt := 92) dX8_readDefinition_81 (by decide) (fun c_81 => ?_) (fun c_81 => ?_)
    · refine z_iconst (v := nI 1) dX8_readDefinition_92 rfl ?_
      refine z_goto (tgt := 97) dX8_readDefinition_93 (by decide) ?_
      refine z_zreturn dX8_readDefinition_97 (Nat.le_of_ble_eq_true rfl) (Nat.le_of_ble_eq_true rfl) rfl (by first | exact Or.inl rfl | exact Or.inr rfl | exact zb_01 _ | assumption) ?_
      first
        | exact ⟨by rw [hG, fin, if_pos c_81, zb_t rfl] <;> rfl, rfl, rfl, by rw [hG, fin, if_pos c_81]; exact ⟨fE, PRS_0 h0 rfl, dE⟩⟩
        | exact ⟨by rw [hG, fin, if_neg c_81, zb_f (by simp)] <;> rfl, rfl, rfl, by rw [hG, fin, if_neg c_81]; exact ⟨fE.tp hV9.1, PRS_f hV9.2 (by simp), dE.eq hV9.1 (by omega)⟩⟩
    · refine z_aload_n dX8_readDefinition_84 rfl ?_
      refine z_iconst (v := nI 1) dX8_readDefinition_85 rfl ?_
      refine z_callV1q dX8_readDefinition_86 kX8_refuse lX8_37 (by first | assumption | exact And.left (by assumption)) rfl (s_refuse hs0 h0) (Nat.le_of_ble_eq_true rfl) (Nat.le_of_ble_eq_true rfl) ⟨Nat.le_of_ble_eq_true rfl, Nat.le_of_ble_eq_true rfl⟩ ?_
      intro V9 hV9
      refine z_if_eqN (tgt := 96) dX8_readDefinition_89 (by decide) (by omega) (fun c_89 => ?_) (fun c_89 => ?_)
      · refine z_iconst (v := nI 0) dX8_readDefinition_96 rfl ?_
        refine z_zreturn dX8_readDefinition_97 (Nat.le_of_ble_eq_true rfl) (Nat.le_of_ble_eq_true rfl) rfl (by first | exact Or.inl rfl | exact Or.inr rfl | exact zb_01 _ | assumption) ?_
        first
          | exact ⟨by rw [hG, fin, if_pos c_81, zb_t rfl] <;> rfl, rfl, rfl, by rw [hG, fin, if_pos c_81]; exact ⟨fE, PRS_0 h0 rfl, dE⟩⟩
          | exact ⟨by rw [hG, fin, if_neg c_81, zb_f (by simp)] <;> rfl, rfl, rfl, by rw [hG, fin, if_neg c_81]; exact ⟨fE.tp hV9.1, PRS_f hV9.2 (by simp), dE.eq hV9.1 (by omega)⟩⟩
      · exact absurd c_89 (by omega)
  · have hw : isW b (wv b p 2) 3 := pb_iff.mp c_61
    have h0 : TA (zup V3 e 2 (zb (pb (isW b (wv b p 2) 3) = true))) a b (wv b (wv b p 2) 3) fl fk fp := h0
    refine z_aload_n dX8_readDefinition_64 rfl ?_
    refine z_aload_n dX8_readDefinition_65 rfl ?_
    refine z_getR dX8_readDefinition_66 fX8_59 (by first | assumption | exact And.left (by assumption)) rfl ?_
    refine z_callV1q dX8_readDefinition_69 kX8_readCondition lX8_62 (by first | assumption | exact And.left (by assumption)) rfl (s_rC hs0 h0 h8 (by omega)) (Nat.le_of_ble_eq_true rfl) (Nat.le_of_ble_eq_true rfl) ⟨Nat.le_of_ble_eq_true rfl, Nat.le_of_ble_eq_true rfl⟩ ?_
    intro V5 hV5
    obtain ⟨f5, a5, b5, c5⟩ := hV5
    refine z_if_neB (tgt := 77) dX8_readDefinition_72 (by decide) (fun c_72 => ?_) (fun c_72 => ?_)
    · have h0 := PRS_i a5 c_72
      have hG : rD2 b p o = fin b (rC b (wv b (wv b p 2) 3)).2.1 (o, pb (isW b p 2), true, (rC b (wv b (wv b p 2) 3)).2.2) := by rw [rD2, if_pos hw, if_pos c_72]
      have fE := f4.trans f5 (by omega) (by omega)
      have dE : DF V5 e (o, pb (isW b p 2), true, (rC b (wv b (wv b p 2) 3)).2.2) := ⟨by unfold OR at d41 ⊢; rw [f5 (e + 1) (by omega) (by omega), f5 (e + 1 + 1) (by omega) (by omega), f5 (e + 1 + 2) (by omega) (by omega)]; exact d41, by rw [f5 e (by omega) (by omega)]; exact d42, by rw [f5 e (by omega) (by omega)]; exact d43.trans (zb_iff ⟨fun _ => rfl, fun _ => pb_iff.mpr hw⟩), c5 c_72⟩
      refine z_aload_n dX8_readDefinition_77 rfl ?_
      refine z_callV0i dX8_readDefinition_78 kX8_isAtEnd lX8_66 (by first | assumption | exact And.left (by assumption)) rfl (s_atEnd hs0 h0) (Nat.le_of_ble_eq_true rfl) (Nat.le_of_ble_eq_true rfl) ⟨Nat.le_of_ble_eq_true rfl, Nat.le_of_ble_eq_true rfl⟩ ?_
      refine z_if_neB (tgt := 92) dX8_readDefinition_81 (by decide) (fun c_81 => ?_) (fun c_81 => ?_)
      · refine z_iconst (v := nI 1) dX8_readDefinition_92 rfl ?_
        refine z_goto (tgt := 97) dX8_readDefinition_93 (by decide) ?_
        refine z_zreturn dX8_readDefinition_97 (Nat.le_of_ble_eq_true rfl) (Nat.le_of_ble_eq_true rfl) rfl (by first | exact Or.inl rfl | exact Or.inr rfl | exact zb_01 _ | assumption) ?_
        first
          | exact ⟨by rw [hG, fin, if_pos c_81, zb_t rfl] <;> rfl, rfl, rfl, by rw [hG, fin, if_pos c_81]; exact ⟨fE, PRS_0 h0 rfl, dE⟩⟩
          | exact ⟨by rw [hG, fin, if_neg c_81, zb_f (by simp)] <;> rfl, rfl, rfl, by rw [hG, fin, if_neg c_81]; exact ⟨fE.tp hV9.1, PRS_f hV9.2 (by simp), dE.eq hV9.1 (by omega)⟩⟩
      · refine z_aload_n dX8_readDefinition_84 rfl ?_
        refine z_iconst (v := nI 1) dX8_readDefinition_85 rfl ?_
        refine z_callV1q dX8_readDefinition_86 kX8_refuse lX8_37 (by first | assumption | exact And.left (by assumption)) rfl (s_refuse hs0 h0) (Nat.le_of_ble_eq_true rfl) (Nat.le_of_ble_eq_true rfl) ⟨Nat.le_of_ble_eq_true rfl, Nat.le_of_ble_eq_true rfl⟩ ?_
        intro V9 hV9
        refine z_if_eqN (tgt := 96) dX8_readDefinition_89 (by decide) (by omega) (fun c_89 => ?_) (fun c_89 => ?_)
        · refine z_iconst (v := nI 0) dX8_readDefinition_96 rfl ?_
          refine z_zreturn dX8_readDefinition_97 (Nat.le_of_ble_eq_true rfl) (Nat.le_of_ble_eq_true rfl) rfl (by first | exact Or.inl rfl | exact Or.inr rfl | exact zb_01 _ | assumption) ?_
          first
            | exact ⟨by rw [hG, fin, if_pos c_81, zb_t rfl] <;> rfl, rfl, rfl, by rw [hG, fin, if_pos c_81]; exact ⟨fE, PRS_0 h0 rfl, dE⟩⟩
            | exact ⟨by rw [hG, fin, if_neg c_81, zb_f (by simp)] <;> rfl, rfl, rfl, by rw [hG, fin, if_neg c_81]; exact ⟨fE.tp hV9.1, PRS_f hV9.2 (by simp), dE.eq hV9.1 (by omega)⟩⟩
        · exact absurd c_89 (by omega)
    · have hR : rD2 b p o = ((rC b (wv b (wv b p 2) 3)).1, (rC b (wv b (wv b p 2) 3)).2.1, (o, pb (isW b p 2), true, 0, 0, 0)) := by rw [rD2, if_pos hw, if_neg c_72]
      refine z_iconst (v := nI 0) dX8_readDefinition_75 rfl ?_
      refine z_zreturn dX8_readDefinition_76 (Nat.le_of_ble_eq_true rfl) (Nat.le_of_ble_eq_true rfl) rfl (by first | exact Or.inl rfl | exact Or.inr rfl | exact zb_01 _ | assumption) ?_
      refine ⟨by rw [hR, zb_f c_72] <;> rfl, rfl, rfl, ?_⟩
      rw [hR]
      refine ⟨f4.trans f5 (by omega) (by omega), a5, ?_⟩
      have d9 := d40.eq (b5 c_72) (by omega)
      rw [show (pb (isW b (wv b p 2) 3)) = true from pb_iff.mpr hw] at d9
      exact d9

set_option maxHeartbeats 4000000 in
set_option maxRecDepth 100000 in
theorem s_rD {D : zD} {z0 nx : Nat} {L : zL} {V : zV} {a e n : Nat} {b : List Nat} {fk fp : Int32} {d0 : Df} (hs : sTp L a) (h : TP V a b fk fp) (hn : n ≤ b.length) (hse : sDf L e) (hae : e + 5 ≤ a ∨ a + 2 ≤ e) (hd : DF V e d0) : Sp D z0 8 0 0 mX8_readDefinition [.ref a, .int (nI n), .ref e] L V nx (zq (some (.int (zb ((rD (b.take n)).1 = 0)))) L nx (fun V' => fr V V' a e (e + 5) ∧ PRS V' a (b.take n) (rD (b.take n)).1 (rD (b.take n)).2.1 (nI 0) (nI 0) (-1) ∧ DF V' e (rD (b.take n)).2.2)) := by
  have hs0 := hs
  obtain ⟨h1, h2⟩ := hs
  have hse0 := hse
  obtain ⟨h6, h7, h8⟩ := hse
  generalize hb2 : b.take n = b2
  refine Sp.of 0 (by decide) rfl rfl (Nat.le_of_ble_eq_true rfl) ?_
  refine z_aload_n dX8_readDefinition_0 rfl ?_
  refine z_iload_n dX8_readDefinition_1 rfl ?_
  refine z_callV1w dX8_readDefinition_2 kX8_open lX8_22 (by first | assumption | exact And.left (by assumption)) rfl (s_open hs0 h hn) (Nat.le_of_ble_eq_true rfl) (Nat.le_of_ble_eq_true rfl) ⟨Nat.le_of_ble_eq_true rfl, Nat.le_of_ble_eq_true rfl⟩ ?_
  rw [hb2]
  intro V1 hV1
  obtain ⟨e1, h0⟩ := hV1
  have d1 := hd.eq e1 (by omega)
  refine z_aload_n dX8_readDefinition_5 rfl ?_
  refine z_callV0w dX8_readDefinition_6 kX1_clearAll lX8_26 (by first | assumption | exact And.left (by assumption)) rfl (s_DFclear hse0 d1.1.2.2.2.2) (Nat.le_of_ble_eq_true rfl) (Nat.le_of_ble_eq_true rfl) ⟨Nat.le_of_ble_eq_true rfl, Nat.le_of_ble_eq_true rfl⟩ ?_
  intro V2 hV2
  obtain ⟨e2, d2⟩ := hV2
  have h0 := h0.eq e2 (by omega)
  have f2 := ((fr.rf (V := V) (a := a) (lo := e) (hi := e + 5)).tp e1).en e2 (by omega) (by omega)
  refine z_aload_n dX8_readDefinition_9 rfl ?_
  refine z_ldcS (i := 0) dX8_readDefinition_10 (by decide) rfl rfl ?_
  refine z_callV1q dX8_readDefinition_12 kX8_takeWord lX8_33 (by first | assumption | exact And.left (by assumption)) rfl (s_word hs0 h0 (i := 0) (by decide)) (Nat.le_of_ble_eq_true rfl) (Nat.le_of_ble_eq_true rfl) ⟨Nat.le_of_ble_eq_true rfl, Nat.le_of_ble_eq_true rfl⟩ ?_
  intro V3 hV3
  obtain ⟨e3, h0⟩ := hV3
  have d3 := d2.eq e3 (by omega)
  have f3 := f2.tp e3
  refine z_if_neB (tgt := 24) dX8_readDefinition_15 (by decide) (fun c_15 => ?_) (fun c_15 => ?_)
  · rw [if_pos c_15] at h0
    refine z_aload_n dX8_readDefinition_24 rfl ?_
    refine z_aload_n dX8_readDefinition_25 rfl ?_
    refine z_getR dX8_readDefinition_26 fX8_41 (by first | assumption | exact And.left (by assumption)) rfl ?_
    refine z_callV1q dX8_readDefinition_29 kX8_readOrder lX8_45 (by first | assumption | exact And.left (by assumption)) rfl (s_rO hs0 h7 (by omega) h0 d3.1) (Nat.le_of_ble_eq_true rfl) (Nat.le_of_ble_eq_true rfl) ⟨Nat.le_of_ble_eq_true rfl, Nat.le_of_ble_eq_true rfl⟩ ?_
    intro V4 hV4
    obtain ⟨f4, a4, o4, n4⟩ := hV4
    generalize hr : rO b2 4 (sk b2 (sk b2 0 + zln 0)) [] = r at *
    have d4 : DF V4 e (r.2.2, false, false, 0, 0, 0) := ⟨o4, by rw [f4 e (by omega) (by omega)]; exact d3.2.1, by rw [f4 e (by omega) (by omega)]; exact d3.2.2.1, by have h9 := d3.2.2.2; unfold CO at h9 ⊢; rw [f4 (e + 4) (by omega) (by omega)]; exact h9⟩
    refine z_if_neB (tgt := 37) dX8_readDefinition_32 (by decide) (fun c_32 => ?_) (fun c_32 => ?_)
    · have hG : rD b2 = rD2 b2 r.2.1 r.2.2 := by rw [rD, if_pos c_15, hr, if_pos c_32]
      have hz := s_rD2 (D := D) (z0 := z0) (nx := nx) (n := nI n) hs0 (PRS_i a4 c_32) hse0 hae d4
      refine hz.mono (fun v L2 V2 n2 hq => ?_)
      obtain ⟨q1, q2, q3, q4, q5, q6⟩ := hq
      rw [hG]
      exact ⟨q1, q2, q3, (f3.trans f4 (by omega) (by omega)).trans q4 (by omega) (by omega), q5, q6⟩
    · have hR : rD b2 = (r.1, r.2.1, (r.2.2, false, false, 0, 0, 0)) := by rw [rD, if_pos c_15, hr, if_neg c_32]
      refine z_iconst (v := nI 0) dX8_readDefinition_35 rfl ?_
      refine z_zreturn dX8_readDefinition_36 (Nat.le_of_ble_eq_true rfl) (Nat.le_of_ble_eq_true rfl) rfl (by first | exact Or.inl rfl | exact Or.inr rfl | exact zb_01 _ | assumption) ?_
      exact ⟨by rw [hR, zb_f c_32] <;> rfl, rfl, rfl, by rw [hR]; exact ⟨f3.trans f4 (by omega) (by omega), a4, d4⟩⟩
  · rw [if_neg c_15] at h0
    have hR : rD b2 = (1, sk b2 0, ([], false, false, 0, 0, 0)) := by rw [rD, if_neg c_15]
    refine z_aload_n dX8_readDefinition_18 rfl ?_
    refine z_iconst (v := nI 1) dX8_readDefinition_19 rfl ?_
    refine z_callV1q dX8_readDefinition_20 kX8_refuse lX8_37 (by first | assumption | exact And.left (by assumption)) rfl (s_refuse hs0 h0) (Nat.le_of_ble_eq_true rfl) (Nat.le_of_ble_eq_true rfl) ⟨Nat.le_of_ble_eq_true rfl, Nat.le_of_ble_eq_true rfl⟩ ?_
    intro V9 hV9
    refine z_zreturn dX8_readDefinition_23 (Nat.le_of_ble_eq_true rfl) (Nat.le_of_ble_eq_true rfl) rfl (by first | exact Or.inl rfl | exact Or.inr rfl | exact zb_01 _ | assumption) ?_
    exact ⟨by rw [hR, zb_f (by simp)] <;> rfl, rfl, rfl, by rw [hR]; exact ⟨f3.tp hV9.1, PRS_f hV9.2 (by simp), d3.eq hV9.1 (by omega)⟩⟩

set_option maxHeartbeats 4000000 in
set_option maxRecDepth 100000 in
theorem s_rQ2 {D : zD} {z0 nx : Nat} {L : zL} {V : zV} {a p e : Nat} {n : Int32} {b : List Nat} {fl fk fp : Int32} {cs : List Cd} (hs : sTp L a) (h : TA V a b p fl fk fp) (hse : sQu L e) (hae : e + 9 ≤ a ∨ a + 2 ≤ e) (hd : QU V e (cs, [])) : Z D z0 8 0 0 mX8_readQuestion 0 0 42 [some (.ref a), some (.int n), some (.ref e)] [] L V nx (zq (some (.int (zb ((rQ2 b p cs).1 = 0)))) L nx (fun V' => fr V V' a e (e + 9) ∧ PRS V' a b (rQ2 b p cs).1 (rQ2 b p cs).2.1 fl fk fp ∧ QU V' e (rQ2 b p cs).2.2)) := by
  have h0 := h
  have hse0 := hse
  have hs0 := hs
  obtain ⟨h1, h2⟩ := hs
  obtain ⟨h5, h6, h7, h8⟩ := hse
  refine z_aload_n dX8_readQuestion_42 rfl ?_
  refine z_ldcS (i := 6) dX8_readQuestion_43 (by decide) rfl rfl ?_
  refine z_callV1q dX8_readQuestion_45 kX8_takeWord lX8_33 (by first | assumption | exact And.left (by assumption)) rfl (s_word hs0 h0 (i := 6) (by decide)) (Nat.le_of_ble_eq_true rfl) (Nat.le_of_ble_eq_true rfl) ⟨Nat.le_of_ble_eq_true rfl, Nat.le_of_ble_eq_true rfl⟩ ?_
  intro V1 hV1
  obtain ⟨e1, h0⟩ := hV1
  have d1 := hd.eq e1 (by omega)
  have f1 := (fr.rf (V := V) (a := a) (lo := e) (hi := e + 9)).tp e1
  refine z_if_eqB (tgt := 64) dX8_readQuestion_48 (by decide) (fun c_48 => ?_) (fun c_48 => ?_)
  · rw [if_neg c_48] at h0
    have hG : rQ2 b p cs = fin b p (cs, []) := by rw [rQ2, if_neg c_48]
    have fE := f1
    have dE := d1
    refine z_aload_n dX8_readQuestion_64 rfl ?_
    refine z_callV0i dX8_readQuestion_65 kX8_isAtEnd lX8_66 (by first | assumption | exact And.left (by assumption)) rfl (s_atEnd hs0 h0) (Nat.le_of_ble_eq_true rfl) (Nat.le_of_ble_eq_true rfl) ⟨Nat.le_of_ble_eq_true rfl, Nat.le_of_ble_eq_true rfl⟩ ?_
    refine z_if_neB (tgt := 79) dX8_readQuestion_68 (by decide) (fun c_68 => ?_) (fun c_68 => ?_)
    · refine z_iconst (v := nI 1) dX8_readQuestion_79 rfl ?_
      refine z_goto (tgt := 84) dX8_readQuestion_80 (by decide) ?_
      refine z_zreturn dX8_readQuestion_84 (Nat.le_of_ble_eq_true rfl) (Nat.le_of_ble_eq_true rfl) rfl (by first | exact Or.inl rfl | exact Or.inr rfl | exact zb_01 _ | assumption) ?_
      first
        | exact ⟨by rw [hG, fin, if_pos c_68, zb_t rfl] <;> rfl, rfl, rfl, by rw [hG, fin, if_pos c_68]; exact ⟨fE, PRS_0 h0 rfl, dE⟩⟩
        | exact ⟨by rw [hG, fin, if_neg c_68, zb_f (by simp)] <;> rfl, rfl, rfl, by rw [hG, fin, if_neg c_68]; exact ⟨fE.tp hV9.1, PRS_f hV9.2 (by simp), dE.eq hV9.1 (by omega)⟩⟩
    · refine z_aload_n dX8_readQuestion_71 rfl ?_
      refine z_iconst (v := nI 1) dX8_readQuestion_72 rfl ?_
      refine z_callV1q dX8_readQuestion_73 kX8_refuse lX8_37 (by first | assumption | exact And.left (by assumption)) rfl (s_refuse hs0 h0) (Nat.le_of_ble_eq_true rfl) (Nat.le_of_ble_eq_true rfl) ⟨Nat.le_of_ble_eq_true rfl, Nat.le_of_ble_eq_true rfl⟩ ?_
      intro V9 hV9
      refine z_if_eqN (tgt := 83) dX8_readQuestion_76 (by decide) (by omega) (fun c_76 => ?_) (fun c_76 => ?_)
      · refine z_iconst (v := nI 0) dX8_readQuestion_83 rfl ?_
        refine z_zreturn dX8_readQuestion_84 (Nat.le_of_ble_eq_true rfl) (Nat.le_of_ble_eq_true rfl) rfl (by first | exact Or.inl rfl | exact Or.inr rfl | exact zb_01 _ | assumption) ?_
        first
          | exact ⟨by rw [hG, fin, if_pos c_68, zb_t rfl] <;> rfl, rfl, rfl, by rw [hG, fin, if_pos c_68]; exact ⟨fE, PRS_0 h0 rfl, dE⟩⟩
          | exact ⟨by rw [hG, fin, if_neg c_68, zb_f (by simp)] <;> rfl, rfl, rfl, by rw [hG, fin, if_neg c_68]; exact ⟨fE.tp hV9.1, PRS_f hV9.2 (by simp), dE.eq hV9.1 (by omega)⟩⟩
      · exact absurd c_76 (by omega)
  · rw [if_pos c_48] at h0
    refine z_aload_n dX8_readQuestion_51 rfl ?_
    refine z_aload_n dX8_readQuestion_52 rfl ?_
    refine z_getR dX8_readQuestion_53 fX8_84 (by first | assumption | exact And.left (by assumption)) rfl ?_
    refine z_callV1q dX8_readQuestion_56 kX8_readOrder lX8_45 (by first | assumption | exact And.left (by assumption)) rfl (s_rO hs0 h7 (by omega) h0 d1.2.2.2) (Nat.le_of_ble_eq_true rfl) (Nat.le_of_ble_eq_true rfl) ⟨Nat.le_of_ble_eq_true rfl, Nat.le_of_ble_eq_true rfl⟩ ?_
    intro V4 hV4
    obtain ⟨f4, a4, o4, n4⟩ := hV4
    generalize hr : rO b 4 (sk b (p + zln 6)) [] = r at *
    have fE := f1.trans f4 (by omega) (by omega)
    have dE : QU V4 e (cs, r.2.2) := ⟨by rw [f4 e (by omega) (by omega)]; exact d1.1, d1.2.1, fun k hk => by have h9 := d1.2.2.1 k hk; have hk2 : k < cs.length := hk; have h10 : cs.length ≤ 4 := d1.2.1; unfold CO at h9 ⊢; rw [f4 (e + 5 + k) (by omega) (by omega)]; exact h9, o4⟩
    refine z_if_neB (tgt := 64) dX8_readQuestion_59 (by decide) (fun c_59 => ?_) (fun c_59 => ?_)
    · have hG : rQ2 b p cs = fin b r.2.1 (cs, r.2.2) := by rw [rQ2, if_pos c_48, hr, if_pos c_59]
      have h0 := PRS_i a4 c_59
      refine z_aload_n dX8_readQuestion_64 rfl ?_
      refine z_callV0i dX8_readQuestion_65 kX8_isAtEnd lX8_66 (by first | assumption | exact And.left (by assumption)) rfl (s_atEnd hs0 h0) (Nat.le_of_ble_eq_true rfl) (Nat.le_of_ble_eq_true rfl) ⟨Nat.le_of_ble_eq_true rfl, Nat.le_of_ble_eq_true rfl⟩ ?_
      refine z_if_neB (tgt := 79) dX8_readQuestion_68 (by decide) (fun c_68 => ?_) (fun c_68 => ?_)
      · refine z_iconst (v := nI 1) dX8_readQuestion_79 rfl ?_
        refine z_goto (tgt := 84) dX8_readQuestion_80 (by decide) ?_
        refine z_zreturn dX8_readQuestion_84 (Nat.le_of_ble_eq_true rfl) (Nat.le_of_ble_eq_true rfl) rfl (by first | exact Or.inl rfl | exact Or.inr rfl | exact zb_01 _ | assumption) ?_
        first
          | exact ⟨by rw [hG, fin, if_pos c_68, zb_t rfl] <;> rfl, rfl, rfl, by rw [hG, fin, if_pos c_68]; exact ⟨fE, PRS_0 h0 rfl, dE⟩⟩
          | exact ⟨by rw [hG, fin, if_neg c_68, zb_f (by simp)] <;> rfl, rfl, rfl, by rw [hG, fin, if_neg c_68]; exact ⟨fE.tp hV9.1, PRS_f hV9.2 (by simp), dE.eq hV9.1 (by omega)⟩⟩
      · refine z_aload_n dX8_readQuestion_71 rfl ?_
        refine z_iconst (v := nI 1) dX8_readQuestion_72 rfl ?_
        refine z_callV1q dX8_readQuestion_73 kX8_refuse lX8_37 (by first | assumption | exact And.left (by assumption)) rfl (s_refuse hs0 h0) (Nat.le_of_ble_eq_true rfl) (Nat.le_of_ble_eq_true rfl) ⟨Nat.le_of_ble_eq_true rfl, Nat.le_of_ble_eq_true rfl⟩ ?_
        intro V9 hV9
        refine z_if_eqN (tgt := 83) dX8_readQuestion_76 (by decide) (by omega) (fun c_76 => ?_) (fun c_76 => ?_)
        · refine z_iconst (v := nI 0) dX8_readQuestion_83 rfl ?_
          refine z_zreturn dX8_readQuestion_84 (Nat.le_of_ble_eq_true rfl) (Nat.le_of_ble_eq_true rfl) rfl (by first | exact Or.inl rfl | exact Or.inr rfl | exact zb_01 _ | assumption) ?_
          first
            | exact ⟨by rw [hG, fin, if_pos c_68, zb_t rfl] <;> rfl, rfl, rfl, by rw [hG, fin, if_pos c_68]; exact ⟨fE, PRS_0 h0 rfl, dE⟩⟩
            | exact ⟨by rw [hG, fin, if_neg c_68, zb_f (by simp)] <;> rfl, rfl, rfl, by rw [hG, fin, if_neg c_68]; exact ⟨fE.tp hV9.1, PRS_f hV9.2 (by simp), dE.eq hV9.1 (by omega)⟩⟩
        · exact absurd c_76 (by omega)
    · have hR : rQ2 b p cs = (r.1, r.2.1, (cs, r.2.2)) := by rw [rQ2, if_pos c_48, hr, if_neg c_59]
      refine z_iconst (v := nI 0) dX8_readQuestion_62 rfl ?_
      refine z_zreturn dX8_readQuestion_63 (Nat.le_of_ble_eq_true rfl) (Nat.le_of_ble_eq_true rfl) rfl (by first | exact Or.inl rfl | exact Or.inr rfl | exact zb_01 _ | assumption) ?_
      exact ⟨by rw [hR, zb_f c_59] <;> rfl, rfl, rfl, by rw [hR]; exact ⟨fE, a4, dE⟩⟩

set_option maxHeartbeats 4000000 in
set_option maxRecDepth 100000 in
theorem s_rQ {D : zD} {z0 nx : Nat} {L : zL} {V : zV} {a e n : Nat} {b : List Nat} {fk fp : Int32} {q0 : Qu} (hs : sTp L a) (h : TP V a b fk fp) (hn : n ≤ b.length) (hse : sQu L e) (hae : e + 9 ≤ a ∨ a + 2 ≤ e) (hd : QU V e q0) : Sp D z0 8 0 0 mX8_readQuestion [.ref a, .int (nI n), .ref e] L V nx (zq (some (.int (zb ((rQ (b.take n)).1 = 0)))) L nx (fun V' => fr V V' a e (e + 9) ∧ PRS V' a (b.take n) (rQ (b.take n)).1 (rQ (b.take n)).2.1 (nI 0) (nI 0) (-1) ∧ QU V' e (rQ (b.take n)).2.2)) := by
  have hs0 := hs
  obtain ⟨h1, h2⟩ := hs
  have hse0 := hse
  obtain ⟨h5, h6, h7, h8⟩ := hse
  generalize hb2 : b.take n = b2
  refine Sp.of 0 (by decide) rfl rfl (Nat.le_of_ble_eq_true rfl) ?_
  refine z_aload_n dX8_readQuestion_0 rfl ?_
  refine z_iload_n dX8_readQuestion_1 rfl ?_
  refine z_callV1w dX8_readQuestion_2 kX8_open lX8_22 (by first | assumption | exact And.left (by assumption)) rfl (s_open hs0 h hn) (Nat.le_of_ble_eq_true rfl) (Nat.le_of_ble_eq_true rfl) ⟨Nat.le_of_ble_eq_true rfl, Nat.le_of_ble_eq_true rfl⟩ ?_
  rw [hb2]
  intro V1 hV1
  obtain ⟨e1, h0⟩ := hV1
  have d1 := hd.eq e1 (by omega)
  refine z_aload_n dX8_readQuestion_5 rfl ?_
  refine z_callV0w dX8_readQuestion_6 kX5_clearAll lX8_70 (by first | assumption | exact And.left (by assumption)) rfl (s_QUclear hse0 d1.2.2.2.2.2.2.2) (Nat.le_of_ble_eq_true rfl) (Nat.le_of_ble_eq_true rfl) ⟨Nat.le_of_ble_eq_true rfl, Nat.le_of_ble_eq_true rfl⟩ ?_
  intro V2 hV2
  obtain ⟨e2, d2⟩ := hV2
  have h0 := h0.eq e2 (by omega)
  have f2 := ((fr.rf (V := V) (a := a) (lo := e) (hi := e + 9)).tp e1).en e2 (by omega) (by omega)
  refine z_aload_n dX8_readQuestion_9 rfl ?_
  refine z_ldcS (i := 4) dX8_readQuestion_10 (by decide) rfl rfl ?_
  refine z_callV1q dX8_readQuestion_12 kX8_takeWord lX8_33 (by first | assumption | exact And.left (by assumption)) rfl (s_word hs0 h0 (i := 4) (by decide)) (Nat.le_of_ble_eq_true rfl) (Nat.le_of_ble_eq_true rfl) ⟨Nat.le_of_ble_eq_true rfl, Nat.le_of_ble_eq_true rfl⟩ ?_
  intro V3 hV3
  obtain ⟨e3, h0⟩ := hV3
  have d3 := d2.eq e3 (by omega)
  have f3 := f2.tp e3
  refine z_if_neB (tgt := 24) dX8_readQuestion_15 (by decide) (fun c_15 => ?_) (fun c_15 => ?_)
  · rw [if_pos c_15] at h0
    refine z_aload_n dX8_readQuestion_24 rfl ?_
    refine z_callV0i dX8_readQuestion_25 kX8_columnHere lX8_75 (by first | assumption | exact And.left (by assumption)) rfl (s_clm hs0 h0) (Nat.le_of_ble_eq_true rfl) (Nat.le_of_ble_eq_true rfl) ⟨Nat.le_of_ble_eq_true rfl, Nat.le_of_ble_eq_true rfl⟩ ?_
    refine z_iconst (v := (-1)) dX8_readQuestion_28 rfl ?_
    refine z_icmp_eq (tgt := 42) dX8_readQuestion_29 (by decide) (fun c_29 => ?_) (fun c_29 => ?_)
    · have hn := (clm_m1 b2 _).mp c_29
      have hG : rQ b2 = rQ2 b2 (sk b2 (sk b2 0 + zln 4)) [] := by rw [rQ, if_pos c_15, if_pos hn]
      have fE := f3
      have h9 := h0
      have d9 := d3
      have hz := s_rQ2 (D := D) (z0 := z0) (nx := nx) (n := nI n) hs0 h9 hse0 hae d9
      refine hz.mono (fun v L2 V2 n2 hq => ?_)
      obtain ⟨q1, q2, q3, q4, q5, q6⟩ := hq
      rw [hG]
      exact ⟨q1, q2, q3, fE.trans q4 (by omega) (by omega), q5, q6⟩
    · have hn := fun q => c_29 ((clm_m1 b2 _).mpr q)
      refine z_aload_n dX8_readQuestion_32 rfl ?_
      refine z_aload_n dX8_readQuestion_33 rfl ?_
      refine z_callV1q dX8_readQuestion_34 kX8_readConditions lX8_79 (by first | assumption | exact And.left (by assumption)) rfl (s_rCs hs0 hse0 (by omega) h0 d3) (Nat.le_of_ble_eq_true rfl) (Nat.le_of_ble_eq_true rfl) ⟨Nat.le_of_ble_eq_true rfl, Nat.le_of_ble_eq_true rfl⟩ ?_
      intro V4 hV4
      obtain ⟨f4, a4, d4⟩ := hV4
      generalize hr : rCs b2 5 (sk b2 (sk b2 0 + zln 4)) [] = r at *
      have fE := f3.trans f4 (by omega) (by omega)
      refine z_if_neB (tgt := 42) dX8_readQuestion_37 (by decide) (fun c_37 => ?_) (fun c_37 => ?_)
      · have hG : rQ b2 = rQ2 b2 r.2.1 r.2.2 := by rw [rQ, if_pos c_15, if_neg hn, hr, if_pos c_37]
        have h9 := PRS_i a4 c_37
        have d9 := d4
        have hz := s_rQ2 (D := D) (z0 := z0) (nx := nx) (n := nI n) hs0 h9 hse0 hae d9
        refine hz.mono (fun v L2 V2 n2 hq => ?_)
        obtain ⟨q1, q2, q3, q4, q5, q6⟩ := hq
        rw [hG]
        exact ⟨q1, q2, q3, fE.trans q4 (by omega) (by omega), q5, q6⟩
      · have hR : rQ b2 = (r.1, r.2.1, (r.2.2, [])) := by rw [rQ, if_pos c_15, if_neg hn, hr, if_neg c_37]
        refine z_iconst (v := nI 0) dX8_readQuestion_40 rfl ?_
        refine z_zreturn dX8_readQuestion_41 (Nat.le_of_ble_eq_true rfl) (Nat.le_of_ble_eq_true rfl) rfl (by first | exact Or.inl rfl | exact Or.inr rfl | exact zb_01 _ | assumption) ?_
        exact ⟨by rw [hR, zb_f c_37] <;> rfl, rfl, rfl, by rw [hR]; exact ⟨fE, a4, d4⟩⟩
  · rw [if_neg c_15] at h0
    have hR : rQ b2 = (1, sk b2 0, ([], [])) := by rw [rQ, if_neg c_15]
    refine z_aload_n dX8_readQuestion_18 rfl ?_
    refine z_iconst (v := nI 1) dX8_readQuestion_19 rfl ?_
    refine z_callV1q dX8_readQuestion_20 kX8_refuse lX8_37 (by first | assumption | exact And.left (by assumption)) rfl (s_refuse hs0 h0) (Nat.le_of_ble_eq_true rfl) (Nat.le_of_ble_eq_true rfl) ⟨Nat.le_of_ble_eq_true rfl, Nat.le_of_ble_eq_true rfl⟩ ?_
    intro V9 hV9
    refine z_zreturn dX8_readQuestion_23 (Nat.le_of_ble_eq_true rfl) (Nat.le_of_ble_eq_true rfl) rfl (by first | exact Or.inl rfl | exact Or.inr rfl | exact zb_01 _ | assumption) ?_
    exact ⟨by rw [hR, zb_f (by simp)] <;> rfl, rfl, rfl, by rw [hR]; exact ⟨f3.tp hV9.1, PRS_f hV9.2 (by simp), d3.eq hV9.1 (by omega)⟩⟩

theorem TP_app {V : zV} {a x : Nat} {b : List Nat} {fk fp : Int32} (h : TP V a b fk fp) (hl : b.length < 100) (hx : x < 256) : TP (zup (zup V (a + 1) b.length (nI x)) a 1 (nI (b.length + 1))) a (b ++ [x]) fk fp := by
  obtain ⟨⟨h1, h2, h3⟩, h4, h5⟩ := h
  refine ⟨⟨by simp [zup], by simp [zup]; exact h2, by simp [zup]; exact h3⟩, by simp; omega, fun k hk => ?_⟩
  simp at hk
  unfold bt
  rw [getD_app b x k hk]
  split
  · rename_i q
    have e : ¬ k = b.length := by omega
    have := h5 k q
    unfold bt at this
    simpa [zup, e] using this
  · rename_i q
    have e : k = b.length := by omega
    subst e
    exact ⟨by simp [zup], hx⟩
/-- a byte of an int: shifted so far -/
def bya (x z : Int32) : Int32 := (x.toUInt32 >>> (z.toUInt32 &&& Int32.toUInt32 31)).toInt32 &&& nI 255
theorem i255 (x : Int32) : ∃ n, n < 256 ∧ x &&& nI 255 = nI n := by
  refine ⟨(x &&& nI 255).toBitVec.toNat, ?_, ?_⟩
  · rw [Int32.toBitVec_and, BitVec.toNat_and]
    exact Nat.lt_of_le_of_lt Nat.and_le_right (by decide)
  · apply Int32.toBitVec_inj.mp
    show _ = BitVec.ofNat 32 (x &&& nI 255).toBitVec.toNat
    rw [BitVec.ofNat_toNat, BitVec.setWidth_eq]
noncomputable def byn (x z : Int32) : Nat := Classical.choose (i255 ((x.toUInt32 >>> (z.toUInt32 &&& Int32.toUInt32 31)).toInt32))
theorem byn_ok (x z : Int32) : byn x z < 256 ∧ bya x z = nI (byn x z) := Classical.choose_spec (i255 _)
noncomputable def bts (x : Int32) : Nat → List Nat
  | 0 => []
  | k + 1 => byn x (nI (8 * k)) :: bts x k
theorem bts_len (x : Int32) : ∀ k, (bts x k).length = k
  | 0 => rfl
  | k + 1 => by simp [bts, bts_len x k]

set_option maxHeartbeats 4000000 in
set_option maxRecDepth 100000 in
theorem ap_0 {D : zD} {z0 nx : Nat} {L : zL} {V : zV} {a : Nat} {x : Int32} {b : List Nat} {fk fp : Int32} (hs : sTp L a) (h : TP V a b fk fp) (hl : b.length + 0 ≤ 100) : Z D z0 1 0 0 mX8_append 0 0 3 [some (.ref a), some (.int x), some (.int (-8))] [] L V nx (zq none L nx (fun V' => zEq V V' a (a + 2) ∧ TP V' a (b ++ bts x 0) fk fp)) := by
  have hs0 := hs
  have h0 := h
  obtain ⟨h1, h2⟩ := hs
  obtain ⟨⟨g1, g2, g3⟩, g4, g5⟩ := h
  refine z_iload_n dX8_append_3 rfl ?_
  refine z_if_lt (tgt := 48) dX8_append_4 (by decide) (fun c_4 => ?_) (fun c_4 => ?_)
  · refine z_return dX8_append_48 (Nat.le_of_ble_eq_true rfl) (Nat.le_of_ble_eq_true rfl) rfl ?_
    exact ⟨rfl, rfl, rfl, zEq.rf, by rw [show bts x 0 = [] from rfl, List.append_nil]; exact h0⟩
  · exact absurd c_4 (by decide)

set_option maxHeartbeats 4000000 in
set_option maxRecDepth 100000 in
theorem ap_1 {D : zD} {z0 nx : Nat} {L : zL} {V : zV} {a : Nat} {x : Int32} {b : List Nat} {fk fp : Int32} (hs : sTp L a) (h : TP V a b fk fp) (hl : b.length + 1 ≤ 100) : Z D z0 1 0 0 mX8_append 0 0 3 [some (.ref a), some (.int x), some (.int (nI 0))] [] L V nx (zq none L nx (fun V' => zEq V V' a (a + 2) ∧ TP V' a (b ++ bts x 1) fk fp)) := by
  have hs0 := hs
  have h0 := h
  obtain ⟨h1, h2⟩ := hs
  obtain ⟨⟨g1, g2, g3⟩, g4, g5⟩ := h
  refine z_iload_n dX8_append_3 rfl ?_
  refine z_if_ltN (tgt := 48) dX8_append_4 (by decide) (by omega) ?_
  refine z_aload_n dX8_append_7 rfl ?_
  refine z_getIe dX8_append_8 fX8_19 (by first | assumption | exact And.left (by assumption)) rfl (by first | assumption | exact zup_s _ _ _ _ | rfl) ?_
  refine z_bipush (v := nI 100) dX8_append_11 rfl ?_
  refine z_icmp_geN (tgt := 42) dX8_append_13 (by decide) (by omega) (by omega) (fun c_13 => ?_) (fun c_13 => ?_)
  · exact absurd c_13 (by omega)
  · refine z_aload_n dX8_append_16 rfl ?_
    refine z_getR dX8_append_17 fX8_9 (by first | assumption | exact And.left (by assumption)) rfl ?_
    refine z_aload_n dX8_append_20 rfl ?_
    refine z_getIe dX8_append_21 fX8_19 (by first | assumption | exact And.left (by assumption)) rfl (by first | assumption | exact zup_s _ _ _ _ | rfl) ?_
    refine z_iload_n dX8_append_24 rfl ?_
    refine z_iload_n dX8_append_25 rfl ?_
    refine z_iushr dX8_append_26 rfl ?_
    
    refine z_sipush (v := nI 255) dX8_append_27 rfl ?_
    refine z_iand dX8_append_30 ?_
    rw [show (x.toUInt32 >>> ((nI 0).toUInt32 &&& Int32.toUInt32 31)).toInt32 &&& nI 255 = nI (byn x (nI 0)) from (byn_ok x (nI 0)).2]
    refine z_iastN dX8_append_31 (by first | assumption | exact And.left (by assumption)) (by omega) (by decide) ?_
    refine z_aload_n dX8_append_32 rfl ?_
    refine z_dup dX8_append_33 rfl ?_
    refine z_getIe dX8_append_34 fX8_19 (by first | assumption | exact And.left (by assumption)) rfl ((congrFun (zup_a (by omega)) _).trans g1) ?_
    refine z_iconst (v := nI 1) dX8_append_37 rfl ?_
    refine z_addN dX8_append_38 ?_
    refine z_putI dX8_append_39 fX8_19 (by first | assumption | exact And.left (by assumption)) rfl ?_
    refine z_iinc dX8_append_42 rfl (show nI 0 + Int32.ofInt (-8) = (-8 : Int32) from by decide) rfl ?_
    refine z_goto (tgt := 3) dX8_append_45 (by decide) ?_
    have hz := ap_0 (D := D) (z0 := z0) (nx := nx) (x := x) hs0 (TP_app h0 (by omega) (byn_ok x (nI 0)).1) (by simp; omega)
    refine hz.mono (fun v L2 V2 n2 hq => ?_)
    obtain ⟨q1, q2, q3, q4, q5⟩ := hq
    exact ⟨q1, q2, q3, ((zEq.rf.up (by omega) (by omega)).up (by omega) (by omega)).trans q4, by rw [List.append_assoc] at q5; exact q5⟩

set_option maxHeartbeats 4000000 in
set_option maxRecDepth 100000 in
theorem ap_2 {D : zD} {z0 nx : Nat} {L : zL} {V : zV} {a : Nat} {x : Int32} {b : List Nat} {fk fp : Int32} (hs : sTp L a) (h : TP V a b fk fp) (hl : b.length + 2 ≤ 100) : Z D z0 1 0 0 mX8_append 0 0 3 [some (.ref a), some (.int x), some (.int (nI 8))] [] L V nx (zq none L nx (fun V' => zEq V V' a (a + 2) ∧ TP V' a (b ++ bts x 2) fk fp)) := by
  have hs0 := hs
  have h0 := h
  obtain ⟨h1, h2⟩ := hs
  obtain ⟨⟨g1, g2, g3⟩, g4, g5⟩ := h
  refine z_iload_n dX8_append_3 rfl ?_
  refine z_if_ltN (tgt := 48) dX8_append_4 (by decide) (by omega) ?_
  refine z_aload_n dX8_append_7 rfl ?_
  refine z_getIe dX8_append_8 fX8_19 (by first | assumption | exact And.left (by assumption)) rfl (by first | assumption | exact zup_s _ _ _ _ | rfl) ?_
  refine z_bipush (v := nI 100) dX8_append_11 rfl ?_
  refine z_icmp_geN (tgt := 42) dX8_append_13 (by decide) (by omega) (by omega) (fun c_13 => ?_) (fun c_13 => ?_)
  · exact absurd c_13 (by omega)
  · refine z_aload_n dX8_append_16 rfl ?_
    refine z_getR dX8_append_17 fX8_9 (by first | assumption | exact And.left (by assumption)) rfl ?_
    refine z_aload_n dX8_append_20 rfl ?_
    refine z_getIe dX8_append_21 fX8_19 (by first | assumption | exact And.left (by assumption)) rfl (by first | assumption | exact zup_s _ _ _ _ | rfl) ?_
    refine z_iload_n dX8_append_24 rfl ?_
    refine z_iload_n dX8_append_25 rfl ?_
    refine z_iushr dX8_append_26 rfl ?_
    
    refine z_sipush (v := nI 255) dX8_append_27 rfl ?_
    refine z_iand dX8_append_30 ?_
    rw [show (x.toUInt32 >>> ((nI 8).toUInt32 &&& Int32.toUInt32 31)).toInt32 &&& nI 255 = nI (byn x (nI 8)) from (byn_ok x (nI 8)).2]
    refine z_iastN dX8_append_31 (by first | assumption | exact And.left (by assumption)) (by omega) (by decide) ?_
    refine z_aload_n dX8_append_32 rfl ?_
    refine z_dup dX8_append_33 rfl ?_
    refine z_getIe dX8_append_34 fX8_19 (by first | assumption | exact And.left (by assumption)) rfl ((congrFun (zup_a (by omega)) _).trans g1) ?_
    refine z_iconst (v := nI 1) dX8_append_37 rfl ?_
    refine z_addN dX8_append_38 ?_
    refine z_putI dX8_append_39 fX8_19 (by first | assumption | exact And.left (by assumption)) rfl ?_
    refine z_iinc dX8_append_42 rfl (show nI 8 + Int32.ofInt (-8) = nI 0 from by decide) rfl ?_
    refine z_goto (tgt := 3) dX8_append_45 (by decide) ?_
    have hz := ap_1 (D := D) (z0 := z0) (nx := nx) (x := x) hs0 (TP_app h0 (by omega) (byn_ok x (nI 8)).1) (by simp; omega)
    refine hz.mono (fun v L2 V2 n2 hq => ?_)
    obtain ⟨q1, q2, q3, q4, q5⟩ := hq
    exact ⟨q1, q2, q3, ((zEq.rf.up (by omega) (by omega)).up (by omega) (by omega)).trans q4, by rw [List.append_assoc] at q5; exact q5⟩

set_option maxHeartbeats 4000000 in
set_option maxRecDepth 100000 in
theorem ap_3 {D : zD} {z0 nx : Nat} {L : zL} {V : zV} {a : Nat} {x : Int32} {b : List Nat} {fk fp : Int32} (hs : sTp L a) (h : TP V a b fk fp) (hl : b.length + 3 ≤ 100) : Z D z0 1 0 0 mX8_append 0 0 3 [some (.ref a), some (.int x), some (.int (nI 16))] [] L V nx (zq none L nx (fun V' => zEq V V' a (a + 2) ∧ TP V' a (b ++ bts x 3) fk fp)) := by
  have hs0 := hs
  have h0 := h
  obtain ⟨h1, h2⟩ := hs
  obtain ⟨⟨g1, g2, g3⟩, g4, g5⟩ := h
  refine z_iload_n dX8_append_3 rfl ?_
  refine z_if_ltN (tgt := 48) dX8_append_4 (by decide) (by omega) ?_
  refine z_aload_n dX8_append_7 rfl ?_
  refine z_getIe dX8_append_8 fX8_19 (by first | assumption | exact And.left (by assumption)) rfl (by first | assumption | exact zup_s _ _ _ _ | rfl) ?_
  refine z_bipush (v := nI 100) dX8_append_11 rfl ?_
  refine z_icmp_geN (tgt := 42) dX8_append_13 (by decide) (by omega) (by omega) (fun c_13 => ?_) (fun c_13 => ?_)
  · exact absurd c_13 (by omega)
  · refine z_aload_n dX8_append_16 rfl ?_
    refine z_getR dX8_append_17 fX8_9 (by first | assumption | exact And.left (by assumption)) rfl ?_
    refine z_aload_n dX8_append_20 rfl ?_
    refine z_getIe dX8_append_21 fX8_19 (by first | assumption | exact And.left (by assumption)) rfl (by first | assumption | exact zup_s _ _ _ _ | rfl) ?_
    refine z_iload_n dX8_append_24 rfl ?_
    refine z_iload_n dX8_append_25 rfl ?_
    refine z_iushr dX8_append_26 rfl ?_
    
    refine z_sipush (v := nI 255) dX8_append_27 rfl ?_
    refine z_iand dX8_append_30 ?_
    rw [show (x.toUInt32 >>> ((nI 16).toUInt32 &&& Int32.toUInt32 31)).toInt32 &&& nI 255 = nI (byn x (nI 16)) from (byn_ok x (nI 16)).2]
    refine z_iastN dX8_append_31 (by first | assumption | exact And.left (by assumption)) (by omega) (by decide) ?_
    refine z_aload_n dX8_append_32 rfl ?_
    refine z_dup dX8_append_33 rfl ?_
    refine z_getIe dX8_append_34 fX8_19 (by first | assumption | exact And.left (by assumption)) rfl ((congrFun (zup_a (by omega)) _).trans g1) ?_
    refine z_iconst (v := nI 1) dX8_append_37 rfl ?_
    refine z_addN dX8_append_38 ?_
    refine z_putI dX8_append_39 fX8_19 (by first | assumption | exact And.left (by assumption)) rfl ?_
    refine z_iinc dX8_append_42 rfl (show nI 16 + Int32.ofInt (-8) = nI 8 from by decide) rfl ?_
    refine z_goto (tgt := 3) dX8_append_45 (by decide) ?_
    have hz := ap_2 (D := D) (z0 := z0) (nx := nx) (x := x) hs0 (TP_app h0 (by omega) (byn_ok x (nI 16)).1) (by simp; omega)
    refine hz.mono (fun v L2 V2 n2 hq => ?_)
    obtain ⟨q1, q2, q3, q4, q5⟩ := hq
    exact ⟨q1, q2, q3, ((zEq.rf.up (by omega) (by omega)).up (by omega) (by omega)).trans q4, by rw [List.append_assoc] at q5; exact q5⟩

set_option maxHeartbeats 4000000 in
set_option maxRecDepth 100000 in
theorem ap_4 {D : zD} {z0 nx : Nat} {L : zL} {V : zV} {a : Nat} {x : Int32} {b : List Nat} {fk fp : Int32} (hs : sTp L a) (h : TP V a b fk fp) (hl : b.length + 4 ≤ 100) : Z D z0 1 0 0 mX8_append 0 0 3 [some (.ref a), some (.int x), some (.int (nI 24))] [] L V nx (zq none L nx (fun V' => zEq V V' a (a + 2) ∧ TP V' a (b ++ bts x 4) fk fp)) := by
  have hs0 := hs
  have h0 := h
  obtain ⟨h1, h2⟩ := hs
  obtain ⟨⟨g1, g2, g3⟩, g4, g5⟩ := h
  refine z_iload_n dX8_append_3 rfl ?_
  refine z_if_ltN (tgt := 48) dX8_append_4 (by decide) (by omega) ?_
  refine z_aload_n dX8_append_7 rfl ?_
  refine z_getIe dX8_append_8 fX8_19 (by first | assumption | exact And.left (by assumption)) rfl (by first | assumption | exact zup_s _ _ _ _ | rfl) ?_
  refine z_bipush (v := nI 100) dX8_append_11 rfl ?_
  refine z_icmp_geN (tgt := 42) dX8_append_13 (by decide) (by omega) (by omega) (fun c_13 => ?_) (fun c_13 => ?_)
  · exact absurd c_13 (by omega)
  · refine z_aload_n dX8_append_16 rfl ?_
    refine z_getR dX8_append_17 fX8_9 (by first | assumption | exact And.left (by assumption)) rfl ?_
    refine z_aload_n dX8_append_20 rfl ?_
    refine z_getIe dX8_append_21 fX8_19 (by first | assumption | exact And.left (by assumption)) rfl (by first | assumption | exact zup_s _ _ _ _ | rfl) ?_
    refine z_iload_n dX8_append_24 rfl ?_
    refine z_iload_n dX8_append_25 rfl ?_
    refine z_iushr dX8_append_26 rfl ?_
    
    refine z_sipush (v := nI 255) dX8_append_27 rfl ?_
    refine z_iand dX8_append_30 ?_
    rw [show (x.toUInt32 >>> ((nI 24).toUInt32 &&& Int32.toUInt32 31)).toInt32 &&& nI 255 = nI (byn x (nI 24)) from (byn_ok x (nI 24)).2]
    refine z_iastN dX8_append_31 (by first | assumption | exact And.left (by assumption)) (by omega) (by decide) ?_
    refine z_aload_n dX8_append_32 rfl ?_
    refine z_dup dX8_append_33 rfl ?_
    refine z_getIe dX8_append_34 fX8_19 (by first | assumption | exact And.left (by assumption)) rfl ((congrFun (zup_a (by omega)) _).trans g1) ?_
    refine z_iconst (v := nI 1) dX8_append_37 rfl ?_
    refine z_addN dX8_append_38 ?_
    refine z_putI dX8_append_39 fX8_19 (by first | assumption | exact And.left (by assumption)) rfl ?_
    refine z_iinc dX8_append_42 rfl (show nI 24 + Int32.ofInt (-8) = nI 16 from by decide) rfl ?_
    refine z_goto (tgt := 3) dX8_append_45 (by decide) ?_
    have hz := ap_3 (D := D) (z0 := z0) (nx := nx) (x := x) hs0 (TP_app h0 (by omega) (byn_ok x (nI 24)).1) (by simp; omega)
    refine hz.mono (fun v L2 V2 n2 hq => ?_)
    obtain ⟨q1, q2, q3, q4, q5⟩ := hq
    exact ⟨q1, q2, q3, ((zEq.rf.up (by omega) (by omega)).up (by omega) (by omega)).trans q4, by rw [List.append_assoc] at q5; exact q5⟩

set_option maxHeartbeats 4000000 in
set_option maxRecDepth 100000 in
theorem s_TPapp {D : zD} {z0 nx : Nat} {L : zL} {V : zV} {a : Nat} {x : Int32} {b : List Nat} {fk fp : Int32} (hs : sTp L a) (h : TP V a b fk fp) (hl : b.length + 4 ≤ 100) : Sp D z0 1 0 0 mX8_append [.ref a, .int x] L V nx (zq none L nx (fun V' => zEq V V' a (a + 2) ∧ TP V' a (b ++ bts x 4) fk fp)) := by
  refine Sp.of 1 (by decide) rfl rfl (Nat.le_of_ble_eq_true rfl) ?_
  refine z_bipush (v := nI 24) dX8_append_0 rfl ?_
  refine z_istore_n dX8_append_2 (Nat.le_of_ble_eq_true rfl) rfl ?_
  exact ap_4 hs h hl

