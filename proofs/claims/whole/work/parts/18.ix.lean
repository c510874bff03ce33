/-! OneIndex: ((state, snap, next row, round, ended by), definition, entries, now, later) -/
abbrev Ix : Type := (Nat × Nat × Nat × Nat × Nat) × Df × List Nat × List Nat × List Nat
def sIx (L : zL) (a : Nat) : Prop := L a = some (.inr (.inr (3, [none, none, none, none, none, some (.ref (a + 1)), some (.ref (a + 6)), some (.ref (a + 8)), some (.ref (a + 10))]))) ∧ sDf L (a + 1) ∧ sSC L (a + 6) ∧ sLg L (a + 8) ∧ sLg L (a + 10)
def IXn (V : zV) (a : Nat) (x : Nat × Nat × Nat × Nat × Nat) : Prop := (V a 0 = nI x.1 ∧ V a 1 = nI x.2.1 ∧ V a 2 = nI x.2.2.1 ∧ V a 3 = nI x.2.2.2.1 ∧ V a 4 = nI x.2.2.2.2) ∧ x.1 < 6 ∧ x.2.1 < 1000000 ∧ x.2.2.1 ≤ 48 ∧ x.2.2.2.1 < 1000000 ∧ x.2.2.2.2 < 4
def IX (V : zV) (a : Nat) (x : Ix) : Prop := IXn V a x.1 ∧ DF V (a + 1) x.2.1 ∧ SC V (a + 6) x.2.2.1 ∧ (∃ f, LG V (a + 8) f x.2.2.2.1) ∧ LG V (a + 10) 0 x.2.2.2.2
theorem IXn.eq {V V' : zV} {a : Nat} {x : Nat × Nat × Nat × Nat × Nat} (h : IXn V a x) (he : V' a = V a) : IXn V' a x := by
  unfold IXn at h ⊢
  rw [he]
  exact h
theorem IX.eq {V V' : zV} {a lo hi : Nat} {x : Ix} (h : IX V a x) (he : zEq V V' lo hi) (hd : a + 12 ≤ lo ∨ hi ≤ a) : IX V' a x := by
  obtain ⟨h1, h2, h3, ⟨f, h4⟩, h5⟩ := h
  exact ⟨h1.eq (he a (by omega)), h2.eq he (by omega), h3.eq he (by omega), ⟨f, h4.eq he (by omega)⟩, h5.eq he (by omega)⟩
theorem IX_df {V V' : zV} {a : Nat} {x : Ix} {d : Df} (h : IX V a x) (he : zEq V V' (a + 1) (a + 6)) (hd : DF V' (a + 1) d) : IX V' a (x.1, d, x.2.2) := by
  obtain ⟨h1, h2, h3, ⟨f, h4⟩, h5⟩ := h
  exact ⟨h1.eq (he a (by omega)), hd, h3.eq he (by omega), ⟨f, h4.eq he (by omega)⟩, h5.eq he (by omega)⟩
theorem IX_en {V V' : zV} {a : Nat} {x : Ix} {l : List Nat} (h : IX V a x) (he : zEq V V' (a + 6) (a + 8)) (hl : SC V' (a + 6) l) : IX V' a (x.1, x.2.1, l, x.2.2.2) := by
  obtain ⟨h1, h2, h3, ⟨f, h4⟩, h5⟩ := h
  exact ⟨h1.eq (he a (by omega)), h2.eq he (by omega), hl, ⟨f, h4.eq he (by omega)⟩, h5.eq he (by omega)⟩
theorem IX_nw {V V' : zV} {a f : Nat} {x : Ix} {l : List Nat} (h : IX V a x) (he : zEq V V' (a + 8) (a + 10)) (hl : LG V' (a + 8) f l) : IX V' a (x.1, x.2.1, x.2.2.1, l, x.2.2.2.2) := by
  obtain ⟨h1, h2, h3, -, h5⟩ := h
  exact ⟨h1.eq (he a (by omega)), h2.eq he (by omega), h3.eq he (by omega), ⟨f, hl⟩, h5.eq he (by omega)⟩
theorem IX_lt {V V' : zV} {a : Nat} {x : Ix} {l : List Nat} (h : IX V a x) (he : zEq V V' (a + 10) (a + 12)) (hl : LG V' (a + 10) 0 l) : IX V' a (x.1, x.2.1, x.2.2.1, x.2.2.2.1, l) := by
  obtain ⟨h1, h2, h3, ⟨f, h4⟩, h5⟩ := h
  exact ⟨h1.eq (he a (by omega)), h2.eq he (by omega), h3.eq he (by omega), ⟨f, h4.eq he (by omega)⟩, hl⟩
theorem IX_a {V V' : zV} {a : Nat} {x : Ix} {n : Nat × Nat × Nat × Nat × Nat} (h : IX V a x) (he : zEq V V' a (a + 1)) (hn : IXn V' a n) : IX V' a (n, x.2) := by
  obtain ⟨h1, h2, h3, ⟨f, h4⟩, h5⟩ := h
  exact ⟨hn, h2.eq he (by omega), h3.eq he (by omega), ⟨f, h4.eq he (by omega)⟩, h5.eq he (by omega)⟩
theorem IX_st {V : zV} {a n : Nat} {x : Ix} (h : IX V a x) (hn : n < 6) : IX (zup V a 0 (nI n)) a ((n, x.1.2), x.2) := IX_a h (zEq.rf.up (by omega) (by omega)) (by
  obtain ⟨⟨⟨g1, g2, g3, g4, g5⟩, k1, k2, k3, k4, k5⟩, -⟩ := h
  exact ⟨⟨by simp [zup], by simpa [zup] using g2, by simpa [zup] using g3, by simpa [zup] using g4, by simpa [zup] using g5⟩, hn, k2, k3, k4, k5⟩)
theorem IX_sn {V : zV} {a n : Nat} {x : Ix} (h : IX V a x) (hn : n < 1000000) : IX (zup V a 1 (nI n)) a ((x.1.1, n, x.1.2.2), x.2) := IX_a h (zEq.rf.up (by omega) (by omega)) (by
  obtain ⟨⟨⟨g1, g2, g3, g4, g5⟩, k1, k2, k3, k4, k5⟩, -⟩ := h
  exact ⟨⟨by simpa [zup] using g1, by simp [zup], by simpa [zup] using g3, by simpa [zup] using g4, by simpa [zup] using g5⟩, k1, hn, k3, k4, k5⟩)
theorem IX_nr {V : zV} {a n : Nat} {x : Ix} (h : IX V a x) (hn : n ≤ 48) : IX (zup V a 2 (nI n)) a ((x.1.1, x.1.2.1, n, x.1.2.2.2), x.2) := IX_a h (zEq.rf.up (by omega) (by omega)) (by
  obtain ⟨⟨⟨g1, g2, g3, g4, g5⟩, k1, k2, k3, k4, k5⟩, -⟩ := h
  exact ⟨⟨by simpa [zup] using g1, by simpa [zup] using g2, by simp [zup], by simpa [zup] using g4, by simpa [zup] using g5⟩, k1, k2, hn, k4, k5⟩)
theorem IX_rd {V : zV} {a n : Nat} {x : Ix} (h : IX V a x) (hn : n < 1000000) : IX (zup V a 3 (nI n)) a ((x.1.1, x.1.2.1, x.1.2.2.1, n, x.1.2.2.2.2), x.2) := IX_a h (zEq.rf.up (by omega) (by omega)) (by
  obtain ⟨⟨⟨g1, g2, g3, g4, g5⟩, k1, k2, k3, k4, k5⟩, -⟩ := h
  exact ⟨⟨by simpa [zup] using g1, by simpa [zup] using g2, by simpa [zup] using g3, by simp [zup], by simpa [zup] using g5⟩, k1, k2, k3, hn, k5⟩)
theorem IX_eb {V : zV} {a n : Nat} {x : Ix} (h : IX V a x) (hn : n < 4) : IX (zup V a 4 (nI n)) a ((x.1.1, x.1.2.1, x.1.2.2.1, x.1.2.2.2.1, n), x.2) := IX_a h (zEq.rf.up (by omega) (by omega)) (by
  obtain ⟨⟨⟨g1, g2, g3, g4, g5⟩, k1, k2, k3, k4, k5⟩, -⟩ := h
  exact ⟨⟨by simpa [zup] using g1, by simpa [zup] using g2, by simpa [zup] using g3, by simpa [zup] using g4, by simp [zup]⟩, k1, k2, k3, k4, hn⟩)
theorem IX.fal {V : zV} {a : Nat} {x : Ix} (h : IX V a x) : ∀ k, k < 3 → V (a + 1 + 3) k = 0 ∨ V (a + 1 + 3) k = 1 := h.2.1.1.2.2.2.2
def xClear (e : Nat) : Ix := ((0, 0, 0, 0, e), ([], false, false, 0, 0, 0), [], [], [])
def xTurn (x : Ix) : Ix := (x.1, x.2.1, x.2.2.1, x.2.2.2.2, [])
def xNext (x : Ix) : Ix := xTurn ((x.1.1, x.1.2.1, x.1.2.2.1, x.1.2.2.2.1 + 1, x.1.2.2.2.2), x.2)
def xGo (x : Ix) : Ix := xNext ((2, x.1.2), x.2)
noncomputable def xDo (c : Nat) (p : Prop) (x : Ix) : Ix := (x.1, x.2.1, @ite _ p (Classical.propDecidable p) (inc c x.2.2.1) (exc c x.2.2.1), x.2.2.2)

set_option maxHeartbeats 4000000 in
set_option maxRecDepth 100000 in
theorem s_turnLogs {D : zD} {z0 nx : Nat} {L : zL} {V : zV} {a : Nat} {x : Ix} (hs : sIx L a) (h : IX V a x) : Sp D z0 2 0 0 mX3_turnLogs [.ref a] L V nx (zq none L nx (fun V' => zEq V V' a (a + 12) ∧ IX V' a (xTurn x))) := by
  have hs0 := hs
  have h0 := h
  obtain ⟨h1, h2, h3, h4, h5⟩ := hs
  obtain ⟨⟨⟨g1, g2, g3, g4, g5⟩, k1, k2, k3, k4, k5⟩, gd, ge, ⟨f, gn⟩, gl⟩ := h
  refine Sp.of 0 (by decide) rfl rfl (Nat.le_of_ble_eq_true rfl) ?_
  refine z_aload_n dX3_turnLogs_0 rfl ?_
  refine z_getR dX3_turnLogs_1 fX3_28 (by first | assumption | exact And.left (by assumption)) rfl ?_
  refine z_aload_n dX3_turnLogs_4 rfl ?_
  refine z_getR dX3_turnLogs_5 fX3_32 (by first | assumption | exact And.left (by assumption)) rfl ?_
  refine z_callV1w dX3_turnLogs_8 kX2_copyFrom lX3_58 (by first | assumption | exact And.left (by assumption)) rfl (s_LGcopy (by assumption) (by assumption) (by assumption) (by omega)) (Nat.le_of_ble_eq_true rfl) (Nat.le_of_ble_eq_true rfl) ⟨Nat.le_of_ble_eq_true rfl, Nat.le_of_ble_eq_true rfl⟩ ?_
  intro V1 hV1
  have i1 := IX_nw h0 hV1.1 hV1.2
  refine z_aload_n dX3_turnLogs_11 rfl ?_
  refine z_getR dX3_turnLogs_12 fX3_32 (by first | assumption | exact And.left (by assumption)) rfl ?_
  refine z_callV0w dX3_turnLogs_15 kX2_clearAll lX3_122 (by first | assumption | exact And.left (by assumption)) rfl (s_LGclear (by assumption)) (Nat.le_of_ble_eq_true rfl) (Nat.le_of_ble_eq_true rfl) ⟨Nat.le_of_ble_eq_true rfl, Nat.le_of_ble_eq_true rfl⟩ ?_
  intro V2 hV2
  have i2 := IX_lt i1 hV2.1 hV2.2
  refine z_return dX3_turnLogs_18 (Nat.le_of_ble_eq_true rfl) (Nat.le_of_ble_eq_true rfl) rfl ?_
  exact ⟨rfl, rfl, rfl, (hV1.1.wide (by omega) (by omega)).trans (hV2.1.wide (by omega) (by omega)), i2⟩

set_option maxHeartbeats 4000000 in
set_option maxRecDepth 100000 in
theorem s_nextRound {D : zD} {z0 nx : Nat} {L : zL} {V : zV} {a : Nat} {x : Ix} (hs : sIx L a) (h : IX V a x) (hr : x.1.2.2.2.1 < 999999) : Sp D z0 3 0 0 mX3_nextRound [.ref a] L V nx (zq none L nx (fun V' => zEq V V' a (a + 12) ∧ IX V' a (xNext x))) := by
  have hs0 := hs
  have h0 := h
  obtain ⟨h1, h2, h3, h4, h5⟩ := hs
  obtain ⟨⟨⟨g1, g2, g3, g4, g5⟩, k1, k2, k3, k4, k5⟩, gd, ge, ⟨f, gn⟩, gl⟩ := h
  refine Sp.of 0 (by decide) rfl rfl (Nat.le_of_ble_eq_true rfl) ?_
  refine z_aload_n dX3_nextRound_0 rfl ?_
  refine z_dup dX3_nextRound_1 rfl ?_
  refine z_getIe dX3_nextRound_2 fX3_45 (by first | assumption | exact And.left (by assumption)) rfl (by first | assumption | exact zup_s _ _ _ _ | rfl) ?_
  refine z_iconst (v := nI 1) dX3_nextRound_5 rfl ?_
  refine z_addN dX3_nextRound_6 ?_
  refine z_putI dX3_nextRound_7 fX3_45 (by first | assumption | exact And.left (by assumption)) rfl ?_
  refine z_aload_n dX3_nextRound_10 rfl ?_
  have i1 := IX_rd h0 (n := x.1.2.2.2.1 + 1) (by omega)
  refine z_callV0w dX3_nextRound_11 kX3_turnLogs lX3_133 (by first | assumption | exact And.left (by assumption)) rfl (s_turnLogs (by assumption) (by assumption)) (Nat.le_of_ble_eq_true rfl) (Nat.le_of_ble_eq_true rfl) ⟨Nat.le_of_ble_eq_true rfl, Nat.le_of_ble_eq_true rfl⟩ ?_
  intro V2 hV2
  refine z_return dX3_nextRound_14 (Nat.le_of_ble_eq_true rfl) (Nat.le_of_ble_eq_true rfl) rfl ?_
  exact ⟨rfl, rfl, rfl, (zEq.rf.up (by omega) (by omega)).trans hV2.1, hV2.2⟩

set_option maxHeartbeats 4000000 in
set_option maxRecDepth 100000 in
theorem s_goOn {D : zD} {z0 nx : Nat} {L : zL} {V : zV} {a : Nat} {x : Ix} (hs : sIx L a) (h : IX V a x) (hr : x.1.2.2.2.1 < 999999) : Sp D z0 4 0 0 mX3_goOn [.ref a] L V nx (zq none L nx (fun V' => zEq V V' a (a + 12) ∧ IX V' a (xGo x))) := by
  have hs0 := hs
  have h0 := h
  obtain ⟨h1, h2, h3, h4, h5⟩ := hs
  obtain ⟨⟨⟨g1, g2, g3, g4, g5⟩, k1, k2, k3, k4, k5⟩, gd, ge, ⟨f, gn⟩, gl⟩ := h
  refine Sp.of 0 (by decide) rfl rfl (Nat.le_of_ble_eq_true rfl) ?_
  refine z_aload_n dX3_goOn_0 rfl ?_
  refine z_iconst (v := nI 2) dX3_goOn_1 rfl ?_
  refine z_putI dX3_goOn_2 fX3_35 (by first | assumption | exact And.left (by assumption)) rfl ?_
  refine z_aload_n dX3_goOn_5 rfl ?_
  have i1 := IX_st h0 (n := 2) (by omega)
  refine z_callV0w dX3_goOn_6 kX3_nextRound lX3_64 (by first | assumption | exact And.left (by assumption)) rfl (s_nextRound (by assumption) (by assumption) (by omega)) (Nat.le_of_ble_eq_true rfl) (Nat.le_of_ble_eq_true rfl) ⟨Nat.le_of_ble_eq_true rfl, Nat.le_of_ble_eq_true rfl⟩ ?_
  intro V2 hV2
  refine z_return dX3_goOn_9 (Nat.le_of_ble_eq_true rfl) (Nat.le_of_ble_eq_true rfl) rfl ?_
  exact ⟨rfl, rfl, rfl, (zEq.rf.up (by omega) (by omega)).trans hV2.1, hV2.2⟩

set_option maxHeartbeats 4000000 in
set_option maxRecDepth 100000 in
theorem s_IXclear {D : zD} {z0 nx : Nat} {L : zL} {V : zV} {a : Nat} {x : Ix} (hs : sIx L a) (h : IX V a x) : Sp D z0 3 0 0 mX3_clearAll [.ref a] L V nx (zq none L nx (fun V' => zEq V V' a (a + 12) ∧ IX V' a (((0, 0, 0, 0, x.1.2.2.2.2), (xClear 0).2)))) := by
  have hs0 := hs
  have h0 := h
  obtain ⟨h1, h2, h3, h4, h5⟩ := hs
  obtain ⟨⟨⟨g1, g2, g3, g4, g5⟩, k1, k2, k3, k4, k5⟩, gd, ge, ⟨f, gn⟩, gl⟩ := h
  refine Sp.of 0 (by decide) rfl rfl (Nat.le_of_ble_eq_true rfl) ?_
  refine z_aload_n dX3_clearAll_0 rfl ?_
  refine z_iconst (v := nI 0) dX3_clearAll_1 rfl ?_
  refine z_putI dX3_clearAll_2 fX3_35 (by first | assumption | exact And.left (by assumption)) rfl ?_
  refine z_aload_n dX3_clearAll_5 rfl ?_
  refine z_iconst (v := nI 0) dX3_clearAll_6 rfl ?_
  refine z_putI dX3_clearAll_7 fX3_39 (by first | assumption | exact And.left (by assumption)) rfl ?_
  refine z_aload_n dX3_clearAll_10 rfl ?_
  refine z_iconst (v := nI 0) dX3_clearAll_11 rfl ?_
  refine z_putI dX3_clearAll_12 fX3_42 (by first | assumption | exact And.left (by assumption)) rfl ?_
  refine z_aload_n dX3_clearAll_15 rfl ?_
  refine z_iconst (v := nI 0) dX3_clearAll_16 rfl ?_
  refine z_putI dX3_clearAll_17 fX3_45 (by first | assumption | exact And.left (by assumption)) rfl ?_
  refine z_aload_n dX3_clearAll_20 rfl ?_
  refine z_getR dX3_clearAll_21 fX3_12 (by first | assumption | exact And.left (by assumption)) rfl ?_
  have i1 := IX_rd (IX_nr (IX_sn (IX_st h0 (n := 0) (by omega)) (n := 0) (by omega)) (n := 0) (by omega)) (n := 0) (by omega)
  have e1 : zEq V (zup (zup (zup (zup V a 0 (nI 0)) a 1 (nI 0)) a 2 (nI 0)) a 3 (nI 0)) a (a + 12) := (((zEq.rf.up (by omega) (by omega)).up (by omega) (by omega)).up (by omega) (by omega)).up (by omega) (by omega)
  have i1f := i1.fal
  refine z_callV0w dX3_clearAll_24 kX1_clearAll lX3_120 (by first | assumption | exact And.left (by assumption)) rfl (s_DFclear (by assumption) (by assumption)) (Nat.le_of_ble_eq_true rfl) (Nat.le_of_ble_eq_true rfl) ⟨Nat.le_of_ble_eq_true rfl, Nat.le_of_ble_eq_true rfl⟩ ?_
  intro V1 hV1
  have i2 := IX_df i1 hV1.1 hV1.2
  refine z_aload_n dX3_clearAll_27 rfl ?_
  refine z_getR dX3_clearAll_28 fX3_21 (by first | assumption | exact And.left (by assumption)) rfl ?_
  refine z_callV0w dX3_clearAll_31 kX6_clearAll lX3_121 (by first | assumption | exact And.left (by assumption)) rfl (s_SCclear (by assumption)) (Nat.le_of_ble_eq_true rfl) (Nat.le_of_ble_eq_true rfl) ⟨Nat.le_of_ble_eq_true rfl, Nat.le_of_ble_eq_true rfl⟩ ?_
  intro V2 hV2
  have i3 := IX_en i2 hV2.1 hV2.2
  refine z_aload_n dX3_clearAll_34 rfl ?_
  refine z_getR dX3_clearAll_35 fX3_28 (by first | assumption | exact And.left (by assumption)) rfl ?_
  refine z_callV0w dX3_clearAll_38 kX2_clearAll lX3_122 (by first | assumption | exact And.left (by assumption)) rfl (s_LGclear (by assumption)) (Nat.le_of_ble_eq_true rfl) (Nat.le_of_ble_eq_true rfl) ⟨Nat.le_of_ble_eq_true rfl, Nat.le_of_ble_eq_true rfl⟩ ?_
  intro V3 hV3
  have i4 := IX_nw i3 hV3.1 hV3.2
  refine z_aload_n dX3_clearAll_41 rfl ?_
  refine z_getR dX3_clearAll_42 fX3_32 (by first | assumption | exact And.left (by assumption)) rfl ?_
  refine z_callV0w dX3_clearAll_45 kX2_clearAll lX3_122 (by first | assumption | exact And.left (by assumption)) rfl (s_LGclear (by assumption)) (Nat.le_of_ble_eq_true rfl) (Nat.le_of_ble_eq_true rfl) ⟨Nat.le_of_ble_eq_true rfl, Nat.le_of_ble_eq_true rfl⟩ ?_
  intro V4 hV4
  have i5 := IX_lt i4 hV4.1 hV4.2
  refine z_return dX3_clearAll_48 (Nat.le_of_ble_eq_true rfl) (Nat.le_of_ble_eq_true rfl) rfl ?_
  exact ⟨rfl, rfl, rfl, e1.trans ((hV1.1.wide (by omega) (by omega)).trans ((hV2.1.wide (by omega) (by omega)).trans ((hV3.1.wide (by omega) (by omega)).trans (hV4.1.wide (by omega) (by omega))))), i5⟩

set_option maxHeartbeats 4000000 in
set_option maxRecDepth 100000 in
theorem s_drop {D : zD} {z0 nx : Nat} {L : zL} {V : zV} {a n : Nat} {x : Ix} (hs : sIx L a) (h : IX V a x) (hn : n < 4) : Sp D z0 4 0 0 mX3_drop [.ref a, .int (nI n)] L V nx (zq none L nx (fun V' => zEq V V' a (a + 12) ∧ IX V' a (xClear n))) := by
  have hs0 := hs
  have h0 := h
  obtain ⟨h1, h2, h3, h4, h5⟩ := hs
  obtain ⟨⟨⟨g1, g2, g3, g4, g5⟩, k1, k2, k3, k4, k5⟩, gd, ge, ⟨f, gn⟩, gl⟩ := h
  refine Sp.of 0 (by decide) rfl rfl (Nat.le_of_ble_eq_true rfl) ?_
  refine z_aload_n dX3_drop_0 rfl ?_
  refine z_callV0w dX3_drop_1 kX3_clearAll lX3_61 (by first | assumption | exact And.left (by assumption)) rfl (s_IXclear (by assumption) (by assumption)) (Nat.le_of_ble_eq_true rfl) (Nat.le_of_ble_eq_true rfl) ⟨Nat.le_of_ble_eq_true rfl, Nat.le_of_ble_eq_true rfl⟩ ?_
  intro V1 hV1
  refine z_aload_n dX3_drop_4 rfl ?_
  refine z_iload_n dX3_drop_5 rfl ?_
  refine z_putI dX3_drop_6 fX3_48 (by first | assumption | exact And.left (by assumption)) rfl ?_
  refine z_return dX3_drop_9 (Nat.le_of_ble_eq_true rfl) (Nat.le_of_ble_eq_true rfl) rfl ?_
  exact ⟨rfl, rfl, rfl, hV1.1.up (by omega) (by omega), IX_eb hV1.2 hn⟩

set_option maxHeartbeats 4000000 in
set_option maxRecDepth 100000 in
theorem s_startX {D : zD} {z0 nx : Nat} {L : zL} {V : zV} {a b sq : Nat} {x : Ix} {dd : Df} (hs : sIx L a) (h : IX V a x) (hs2 : sDf L b) (hd : DF V b dd) (hab : a + 12 ≤ b ∨ b + 5 ≤ a) (hq : sq < 1000000) : Sp D z0 4 0 0 mX3_start [.ref a, .ref b, .int (nI sq)] L V nx (zq none L nx (fun V' => zEq V V' a (a + 12) ∧ IX V' a (((1, sq, 0, 0, 0), dd, [], [], [])))) := by
  have hs0 := hs
  have h0 := h
  obtain ⟨h1, h2, h3, h4, h5⟩ := hs
  obtain ⟨⟨⟨g1, g2, g3, g4, g5⟩, k1, k2, k3, k4, k5⟩, gd, ge, ⟨f, gn⟩, gl⟩ := h
  refine Sp.of 0 (by decide) rfl rfl (Nat.le_of_ble_eq_true rfl) ?_
  refine z_aload_n dX3_start_0 rfl ?_
  refine z_callV0w dX3_start_1 kX3_clearAll lX3_61 (by first | assumption | exact And.left (by assumption)) rfl (s_IXclear (by assumption) (by assumption)) (Nat.le_of_ble_eq_true rfl) (Nat.le_of_ble_eq_true rfl) ⟨Nat.le_of_ble_eq_true rfl, Nat.le_of_ble_eq_true rfl⟩ ?_
  intro V1 hV1
  have hd1 := hd.eq hV1.1 (by omega)
  refine z_aload_n dX3_start_4 rfl ?_
  refine z_getR dX3_start_5 fX3_12 (by first | assumption | exact And.left (by assumption)) rfl ?_
  refine z_aload_n dX3_start_8 rfl ?_
  refine z_callV1w dX3_start_9 kX1_copyFrom lX3_51 (by first | assumption | exact And.left (by assumption)) rfl (s_DFcopy (by assumption) (by assumption) (by assumption) (by omega)) (Nat.le_of_ble_eq_true rfl) (Nat.le_of_ble_eq_true rfl) ⟨Nat.le_of_ble_eq_true rfl, Nat.le_of_ble_eq_true rfl⟩ ?_
  intro V2 hV2
  have i2 := IX_df hV1.2 hV2.1 hV2.2
  refine z_aload_n dX3_start_12 rfl ?_
  refine z_iconst (v := nI 1) dX3_start_13 rfl ?_
  refine z_putI dX3_start_14 fX3_35 (by first | assumption | exact And.left (by assumption)) rfl ?_
  refine z_aload_n dX3_start_17 rfl ?_
  refine z_iload_n dX3_start_18 rfl ?_
  refine z_putI dX3_start_19 fX3_39 (by first | assumption | exact And.left (by assumption)) rfl ?_
  refine z_aload_n dX3_start_22 rfl ?_
  refine z_iconst (v := nI 0) dX3_start_23 rfl ?_
  refine z_putI dX3_start_24 fX3_48 (by first | assumption | exact And.left (by assumption)) rfl ?_
  refine z_return dX3_start_27 (Nat.le_of_ble_eq_true rfl) (Nat.le_of_ble_eq_true rfl) rfl ?_
  exact ⟨rfl, rfl, rfl, (((hV1.1.trans (hV2.1.wide (by omega) (by omega))).up (by omega) (by omega)).up (by omega) (by omega)).up (by omega) (by omega), IX_eb (IX_sn (IX_st i2 (by omega)) hq) (by omega)⟩

set_option maxHeartbeats 4000000 in
set_option maxRecDepth 100000 in
theorem s_under {D : zD} {z0 nx : Nat} {L : zL} {V : zV} {a : Nat} {x : Ix} (hs : sIx L a) (h : IX V a x) : Sp D z0 1 0 0 mX3_isUnderWay [.ref a] L V nx (zi (zb (1 ≤ x.1.1 ∧ x.1.1 ≤ 3)) L V nx) := by
  have hs0 := hs
  have h0 := h
  obtain ⟨h1, h2, h3, h4, h5⟩ := hs
  obtain ⟨⟨⟨g1, g2, g3, g4, g5⟩, k1, k2, k3, k4, k5⟩, gd, ge, ⟨f, gn⟩, gl⟩ := h
  refine Sp.of 0 (by decide) rfl rfl (Nat.le_of_ble_eq_true rfl) ?_
  refine z_aload_n dX3_isUnderWay_0 rfl ?_
  refine z_getIe dX3_isUnderWay_1 fX3_35 (by first | assumption | exact And.left (by assumption)) rfl (by first | assumption | exact zup_s _ _ _ _ | rfl) ?_
  refine z_iconst (v := nI 1) dX3_isUnderWay_4 rfl ?_
  refine z_icmp_eqN (tgt := 24) dX3_isUnderWay_5 (by decide) (by omega) (by omega) (fun c_5 => ?_) (fun c_5 => ?_)
  · refine z_iconst (v := nI 1) dX3_isUnderWay_24 rfl ?_
    refine z_goto (tgt := 29) dX3_isUnderWay_25 (by decide) ?_
    refine z_zreturn dX3_isUnderWay_29 (Nat.le_of_ble_eq_true rfl) (Nat.le_of_ble_eq_true rfl) rfl (by first | exact Or.inl rfl | exact Or.inr rfl | exact zb_01 _ | assumption) ?_
    exact zi_r (by first | exact (zb_t (by omega)).symm | exact (zb_f (by omega)).symm)
  · refine z_aload_n dX3_isUnderWay_8 rfl ?_
    refine z_getIe dX3_isUnderWay_9 fX3_35 (by first | assumption | exact And.left (by assumption)) rfl (by first | assumption | exact zup_s _ _ _ _ | rfl) ?_
    refine z_iconst (v := nI 2) dX3_isUnderWay_12 rfl ?_
    refine z_icmp_eqN (tgt := 24) dX3_isUnderWay_13 (by decide) (by omega) (by omega) (fun c_13 => ?_) (fun c_13 => ?_)
    · refine z_iconst (v := nI 1) dX3_isUnderWay_24 rfl ?_
      refine z_goto (tgt := 29) dX3_isUnderWay_25 (by decide) ?_
      refine z_zreturn dX3_isUnderWay_29 (Nat.le_of_ble_eq_true rfl) (Nat.le_of_ble_eq_true rfl) rfl (by first | exact Or.inl rfl | exact Or.inr rfl | exact zb_01 _ | assumption) ?_
      exact zi_r (by first | exact (zb_t (by omega)).symm | exact (zb_f (by omega)).symm)
    · refine z_aload_n dX3_isUnderWay_16 rfl ?_
      refine z_getIe dX3_isUnderWay_17 fX3_35 (by first | assumption | exact And.left (by assumption)) rfl (by first | assumption | exact zup_s _ _ _ _ | rfl) ?_
      refine z_iconst (v := nI 3) dX3_isUnderWay_20 rfl ?_
      refine z_icmp_neN (tgt := 28) dX3_isUnderWay_21 (by decide) (by omega) (by omega) (fun c_21 => ?_) (fun c_21 => ?_)
      · refine z_iconst (v := nI 0) dX3_isUnderWay_28 rfl ?_
        refine z_zreturn dX3_isUnderWay_29 (Nat.le_of_ble_eq_true rfl) (Nat.le_of_ble_eq_true rfl) rfl (by first | exact Or.inl rfl | exact Or.inr rfl | exact zb_01 _ | assumption) ?_
        exact zi_r (by first | exact (zb_t (by omega)).symm | exact (zb_f (by omega)).symm)
      · refine z_iconst (v := nI 1) dX3_isUnderWay_24 rfl ?_
        refine z_goto (tgt := 29) dX3_isUnderWay_25 (by decide) ?_
        refine z_zreturn dX3_isUnderWay_29 (Nat.le_of_ble_eq_true rfl) (Nat.le_of_ble_eq_true rfl) rfl (by first | exact Or.inl rfl | exact Or.inr rfl | exact zb_01 _ | assumption) ?_
        exact zi_r (by first | exact (zb_t (by omega)).symm | exact (zb_f (by omega)).symm)

set_option maxHeartbeats 4000000 in
set_option maxRecDepth 100000 in
theorem s_carryOut {D : zD} {z0 nx : Nat} {L : zL} {V : zV} {a c : Nat} {x : Ix} {b : Int32} {p : Prop} (hs : sIx L a) (h : IX V a x) (hc : c < 2147483648) (hb : b = zb p) : Sp D z0 3 0 0 mX3_carryOut [.ref a, .int (nI c), .int b] L V nx (zq none L nx (fun V' => zEq V V' a (a + 12) ∧ IX V' a (xDo c p x))) := by
  subst hb
  have hs0 := hs
  have h0 := h
  obtain ⟨h1, h2, h3, h4, h5⟩ := hs
  obtain ⟨⟨⟨g1, g2, g3, g4, g5⟩, k1, k2, k3, k4, k5⟩, gd, ge, ⟨f, gn⟩, gl⟩ := h
  refine Sp.of 0 (by decide) rfl rfl (Nat.le_of_ble_eq_true rfl) ?_
  refine z_iload_n dX3_carryOut_0 rfl ?_
  refine z_if_eqB (tgt := 15) dX3_carryOut_1 (by decide) (fun c_1 => ?_) (fun c_1 => ?_)
  · refine z_aload_n dX3_carryOut_15 rfl ?_
    refine z_getR dX3_carryOut_16 fX3_21 (by first | assumption | exact And.left (by assumption)) rfl ?_
    refine z_iload_n dX3_carryOut_19 rfl ?_
    refine z_callV1w dX3_carryOut_20 kX6_exclude lX3_154 (by first | assumption | exact And.left (by assumption)) rfl (s_exclude (by assumption) (by assumption) (by omega)) (Nat.le_of_ble_eq_true rfl) (Nat.le_of_ble_eq_true rfl) ⟨Nat.le_of_ble_eq_true rfl, Nat.le_of_ble_eq_true rfl⟩ ?_
    intro V1 hV1
    have i1 := IX_en h0 hV1.1 hV1.2
    refine z_return dX3_carryOut_23 (Nat.le_of_ble_eq_true rfl) (Nat.le_of_ble_eq_true rfl) rfl ?_
    refine ⟨rfl, rfl, rfl, hV1.1.wide (by omega) (by omega), ?_⟩
    unfold xDo
    first | rw [if_pos c_1] | rw [if_neg c_1]
    exact i1
  · refine z_aload_n dX3_carryOut_4 rfl ?_
    refine z_getR dX3_carryOut_5 fX3_21 (by first | assumption | exact And.left (by assumption)) rfl ?_
    refine z_iload_n dX3_carryOut_8 rfl ?_
    refine z_callV1w dX3_carryOut_9 kX6_include lX3_126 (by first | assumption | exact And.left (by assumption)) rfl (s_include (by assumption) (by assumption) (by omega)) (Nat.le_of_ble_eq_true rfl) (Nat.le_of_ble_eq_true rfl) ⟨Nat.le_of_ble_eq_true rfl, Nat.le_of_ble_eq_true rfl⟩ ?_
    intro V1 hV1
    have i1 := IX_en h0 hV1.1 hV1.2
    refine z_goto (tgt := 23) dX3_carryOut_12 (by decide) ?_
    refine z_return dX3_carryOut_23 (Nat.le_of_ble_eq_true rfl) (Nat.le_of_ble_eq_true rfl) rfl ?_
    refine ⟨rfl, rfl, rfl, hV1.1.wide (by omega) (by omega), ?_⟩
    unfold xDo
    first | rw [if_pos c_1] | rw [if_neg c_1]
    exact i1

/-- the first of NOW is done -/
noncomputable def xFirst (x : Ix) (it : Nat) (t : List Nat) : Ix := (x.1, x.2.1, (xDo (it / 2) (it % 2 = 1) x).2.2.1, t, x.2.2.2.2)

set_option maxHeartbeats 4000000 in
set_option maxRecDepth 100000 in
theorem s_carryFirst {D : zD} {z0 nx : Nat} {L : zL} {V : zV} {a it : Nat} {t : List Nat} {x : Ix} (hs : sIx L a) (h : IX V a x) (hn : x.2.2.2.1 = it :: t) : Sp D z0 4 0 0 mX3_carryOutFirst [.ref a] L V nx (zq none L nx (fun V' => zEq V V' a (a + 12) ∧ IX V' a (xFirst x it t))) := by
  have hs0 := hs
  have h0 := h
  obtain ⟨h1, h2, h3, h4, h5⟩ := hs
  obtain ⟨⟨⟨g1, g2, g3, g4, g5⟩, k1, k2, k3, k4, k5⟩, gd, ge, ⟨f, gn⟩, gl⟩ := h
  rw [hn] at gn
  have hit := gn.2.2.2.2 it (by simp)
  refine Sp.of 1 (by decide) rfl rfl (Nat.le_of_ble_eq_true rfl) ?_
  refine z_aload_n dX3_carryOutFirst_0 rfl ?_
  refine z_getR dX3_carryOutFirst_1 fX3_28 (by first | assumption | exact And.left (by assumption)) rfl ?_
  refine z_iconst (v := nI 0) dX3_carryOutFirst_4 rfl ?_
  refine z_callV1i dX3_carryOutFirst_5 kX2_itemAt lX3_139 (by first | assumption | exact And.left (by assumption)) rfl (s_itemAt (by assumption) (by assumption) (by simp)) (Nat.le_of_ble_eq_true rfl) (Nat.le_of_ble_eq_true rfl) ⟨Nat.le_of_ble_eq_true rfl, Nat.le_of_ble_eq_true rfl⟩ ?_
  rw [show (it :: t).getD 0 0 = it from rfl]
  refine z_istore_n dX3_carryOutFirst_8 (Nat.le_of_ble_eq_true rfl) rfl ?_
  refine z_aload_n dX3_carryOutFirst_9 rfl ?_
  refine z_iload_n dX3_carryOutFirst_10 rfl ?_
  refine z_callS1i dX3_carryOutFirst_11 kX2_codeIn lX3_142 (s_codeIn (by omega)) (Nat.le_of_ble_eq_true rfl) (Nat.le_of_ble_eq_true rfl) ⟨Nat.le_of_ble_eq_true rfl, Nat.le_of_ble_eq_true rfl⟩ ?_
  refine z_iload_n dX3_carryOutFirst_14 rfl ?_
  refine z_callS1i dX3_carryOutFirst_15 kX2_isAdd lX3_145 (s_isAdd (by omega)) (Nat.le_of_ble_eq_true rfl) (Nat.le_of_ble_eq_true rfl) ⟨Nat.le_of_ble_eq_true rfl, Nat.le_of_ble_eq_true rfl⟩ ?_
  refine z_callV2w dX3_carryOutFirst_18 kX3_carryOut lX3_148 (by first | assumption | exact And.left (by assumption)) rfl (s_carryOut (by assumption) (by assumption) (by omega) rfl) (Nat.le_of_ble_eq_true rfl) (Nat.le_of_ble_eq_true rfl) ⟨Nat.le_of_ble_eq_true rfl, Nat.le_of_ble_eq_true rfl⟩ ?_
  intro V1 hV1
  obtain ⟨i1, i2, i3, ⟨f1, i4⟩, i5⟩ := hV1.2
  rw [show (xDo (it / 2) (it % 2 = 1) x).2.2.2.1 = it :: t from hn] at i4
  refine z_aload_n dX3_carryOutFirst_21 rfl ?_
  refine z_getR dX3_carryOutFirst_22 fX3_28 (by first | assumption | exact And.left (by assumption)) rfl ?_
  refine z_callV0w dX3_carryOutFirst_25 kX2_dropFirst lX3_151 (by first | assumption | exact And.left (by assumption)) rfl (s_LGdrop (by assumption) (by assumption)) (Nat.le_of_ble_eq_true rfl) (Nat.le_of_ble_eq_true rfl) ⟨Nat.le_of_ble_eq_true rfl, Nat.le_of_ble_eq_true rfl⟩ ?_
  intro V2 hV2
  refine z_return dX3_carryOutFirst_28 (Nat.le_of_ble_eq_true rfl) (Nat.le_of_ble_eq_true rfl) rfl ?_
  exact ⟨rfl, rfl, rfl, hV1.1.trans (hV2.1.wide (by omega) (by omega)), IX_nw hV1.2 hV2.1 hV2.2⟩

