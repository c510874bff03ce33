/-! OneIndex, on: units, what a commit changes -/
def tws (l : List Nat) : Prop := ∃ k, k + 1 < l.length ∧ l.getD (k + 1) 0 / 64 = l.getD k 0 / 64

set_option maxHeartbeats 4000000 in
set_option maxRecDepth 100000 in
theorem lp_twins {D : zD} {z0 nx : Nat} {L : zL} {V : zV} {a : Nat} {l : List Nat} (hs : sSC L a) (hl : SC V a l) : ∀ (fu : Nat) (i : Nat), l.length - i = fu → 1 ≤ i ∧ i < 100 → (∀ k, k + 1 < i → k + 1 < l.length → ¬ l.getD (k + 1) 0 / 64 = l.getD k 0 / 64) → Z D z0 2 0 0 mX6_hasTwins 0 0 2 [some (.ref a), some (.int (nI i))] [] L V nx (zi (zb (tws l)) L V nx) := by
  intro fu
  induction fu using Nat.strongRecOn with
  | ind fu ih =>
    intro i h_fu h_0 h_1
    obtain ⟨h1, h2⟩ := hs
    have hn := hl.1
    have hn48 := hl.2.2.1
    refine z_iload_n dX6_hasTwins_2 rfl ?_
    refine z_aload_n dX6_hasTwins_3 rfl ?_
    refine z_getIe dX6_hasTwins_4 fX6_15 (by first | assumption | exact And.left (by assumption)) rfl (by first | assumption | exact zup_s _ _ _ _ | rfl) ?_
    have hi31 : i < 100 := h_0.2
    refine z_icmp_geN (tgt := 41) dX6_hasTwins_7 (by decide) (by omega) (by omega) (fun c_7 => ?_) (fun c_7 => ?_)
    · refine z_iconst (v := nI 0) dX6_hasTwins_41 rfl ?_
      refine z_zreturn dX6_hasTwins_42 (Nat.le_of_ble_eq_true rfl) (Nat.le_of_ble_eq_true rfl) rfl (by first | exact Or.inl rfl | exact Or.inr rfl | exact zb_01 _ | assumption) ?_
      exact zi_r (zb_f (fun q => by obtain ⟨k, q1, q2⟩ := q; exact h_1 k (by omega) q1 q2)).symm
    · refine z_aload_n dX6_hasTwins_10 rfl ?_
      refine z_getR dX6_hasTwins_11 fX6_9 (by first | assumption | exact And.left (by assumption)) rfl ?_
      refine z_iload_n dX6_hasTwins_14 rfl ?_
      refine z_ialdN dX6_hasTwins_15 (by first | assumption | exact And.left (by assumption)) (by omega) (by decide) (hl.2.1 i (by omega)) ?_
      have b1 := hl.lt (k := i) (by omega)
      have b2 := hl.lt (k := i - 1) (by omega)
      refine z_callS1i dX6_hasTwins_16 kX6_rankIn lX6_33 (s_rankIn (by omega)) (Nat.le_of_ble_eq_true rfl) (Nat.le_of_ble_eq_true rfl) ⟨Nat.le_of_ble_eq_true rfl, Nat.le_of_ble_eq_true rfl⟩ ?_
      refine z_aload_n dX6_hasTwins_19 rfl ?_
      refine z_getR dX6_hasTwins_20 fX6_9 (by first | assumption | exact And.left (by assumption)) rfl ?_
      refine z_iload_n dX6_hasTwins_23 rfl ?_
      refine z_iconst (v := nI 1) dX6_hasTwins_24 rfl ?_
      refine z_subN dX6_hasTwins_25 (by omega) ?_
      refine z_ialdN dX6_hasTwins_26 (by first | assumption | exact And.left (by assumption)) (by omega) (by decide) (hl.2.1 (i - 1) (by omega)) ?_
      refine z_callS1i dX6_hasTwins_27 kX6_rankIn lX6_33 (s_rankIn (by omega)) (Nat.le_of_ble_eq_true rfl) (Nat.le_of_ble_eq_true rfl) ⟨Nat.le_of_ble_eq_true rfl, Nat.le_of_ble_eq_true rfl⟩ ?_
      refine z_icmp_neN (tgt := 35) dX6_hasTwins_30 (by decide) (by omega) (by omega) (fun c_30 => ?_) (fun c_30 => ?_)
      · refine z_incN dX6_hasTwins_35 rfl rfl ?_
        refine z_goto (tgt := 2) dX6_hasTwins_38 (by decide) ?_
        exact ih _ (by omega) (i + 1) rfl (by omega) (fun k q1 q2 => by by_cases e : k + 1 = i <;> first | (rw [e, show k = i - 1 by omega]; exact c_30) | exact h_1 k (by omega) q2)
      · refine z_iconst (v := nI 1) dX6_hasTwins_33 rfl ?_
        refine z_zreturn dX6_hasTwins_34 (Nat.le_of_ble_eq_true rfl) (Nat.le_of_ble_eq_true rfl) rfl (by first | exact Or.inl rfl | exact Or.inr rfl | exact zb_01 _ | assumption) ?_
        exact zi_r (zb_t ⟨i - 1, by omega, by rw [show i - 1 + 1 = i by omega]; exact c_30⟩).symm

set_option maxHeartbeats 4000000 in
set_option maxRecDepth 100000 in
theorem s_twins {D : zD} {z0 nx : Nat} {L : zL} {V : zV} {a : Nat} {l : List Nat} (hs : sSC L a) (hl : SC V a l) : Sp D z0 2 0 0 mX6_hasTwins [.ref a] L V nx (zi (zb (tws l)) L V nx) := by
  refine Sp.of 1 (by decide) rfl rfl (Nat.le_of_ble_eq_true rfl) ?_
  refine z_iconst (v := nI 1) dX6_hasTwins_0 rfl ?_
  refine z_istore_n dX6_hasTwins_1 (Nat.le_of_ble_eq_true rfl) rfl ?_
  exact lp_twins hs hl _ 1 rfl (by omega) (fun k hk => absurd hk (by omega))

/-- an entry, if there is one, comes -/
def xInc (q : Option Nat) (x : Ix) : Ix := match q with
  | none => x
  | some c => (x.1, x.2.1, inc c x.2.2.1, x.2.2.2)
def xRow1 (x : Ix) : Ix := ((x.1.1, x.1.2.1, x.1.2.2.1 + 1, x.1.2.2.2), x.2)
noncomputable def xScan (v : Vs) (x : Ix) : Ix := if 48 ≤ x.1.2.2.1 + 1 then xGo (xRow1 (xInc (eo x.2.1 (vat (v x.1.2.2.1) x.1.2.1) x.1.2.2.1) x)) else xRow1 (xInc (eo x.2.1 (vat (v x.1.2.2.1) x.1.2.1) x.1.2.2.1) x)
def xEnd (sh mo : Nat) (x : Ix) : Ix := if x.2.2.2.2.length ≤ sh then xTurn ((3, x.1.2), x.2) else if mo ≤ x.1.2.2.2.1 then xClear 2 else xNext x
noncomputable def xJudge (x : Ix) : Ix := ((@ite _ (x.2.1.2.1 = true ∧ tws x.2.2.1) (Classical.propDecidable _) 5 4, x.1.2), x.2)
noncomputable def xUnit (v : Vs) (sh mo : Nat) (x : Ix) : Ix := if x.1.1 = 1 then xScan v x else match x.2.2.2.1 with
  | it :: t => xFirst x it t
  | [] => if x.1.1 = 3 then xJudge x else if x.1.1 = 2 then xEnd sh mo x else x
theorem eo_lt {x : Df} {v : Option Nat} {r : Nat} (hv : ∀ p, v = some p → p < 1000000) (hr : r < 64) : ∀ c, eo x v r = some c → c < 64000000 := by
  intro c hc
  cases v with
  | none => simp [eo] at hc
  | some p =>
    have h3 := (rk_3 x.1 (hv p rfl)).2.2
    unfold eo at hc
    simp only at hc
    split at hc
    · cases hc
    · cases hc; omega
theorem vv_ne1 {c : Nat} (h : c < 2147483648) : ¬ vv (some c) = -1 := nI_ne_m1 h

set_option maxHeartbeats 4000000 in
set_option maxRecDepth 100000 in
theorem s_scanRow2 {D : zD} {z0 nx : Nat} {L : zL} {V : zV} {a b : Nat} {v : Vs} {x : Ix} (hs : sIx L a) (h : IX V a x) (hn : x.1.2.2.1 < 48) (hr : x.1.2.2.2.1 < 999999) : ∀ q : Option Nat, (∀ c, q = some c → c < 64000000) → eo x.2.1 (vat (v x.1.2.2.1) x.1.2.1) x.1.2.2.1 = q → Z D z0 5 0 0 mX3_scanRow 0 0 24 [some (.ref a), some (.ref b), some (.int (vv q))] [] L V nx (zq none L nx (fun V' => zEq V V' a (a + 12) ∧ IX V' a (xScan v x))) := by
  intro q hq he
  have hs0 := hs
  have h0 := h
  obtain ⟨h1, h2, h3, h4, h5⟩ := hs
  obtain ⟨⟨⟨g1, g2, g3, g4, g5⟩, k1, k2, k3, k4, k5⟩, gd, ge, ⟨f, gn⟩, gl⟩ := h
  cases q with
  | none =>
    refine z_iload_n dX3_scanRow_24 rfl ?_
    refine z_iconst (v := (-1)) dX3_scanRow_25 rfl ?_
    refine z_icmp_eq (tgt := 37) dX3_scanRow_26 (by decide) (fun c_26 => ?_) (fun c_26 => ?_)
    · have i1 := h0
      have gx := g3
      have hE : zEq V V a (a + 12) := zEq.rf
      refine z_aload_n dX3_scanRow_37 rfl ?_
      refine z_dup dX3_scanRow_38 rfl ?_
      refine z_getIe dX3_scanRow_39 fX3_42 (by first | assumption | exact And.left (by assumption)) rfl gx ?_
      refine z_iconst (v := nI 1) dX3_scanRow_42 rfl ?_
      refine z_addN dX3_scanRow_43 ?_
      refine z_putI dX3_scanRow_44 fX3_42 (by first | assumption | exact And.left (by assumption)) rfl ?_
      refine z_aload_n dX3_scanRow_47 rfl ?_
      have i2 := IX_nr i1 (n := x.1.2.2.1 + 1) (by omega)
      refine z_getIe dX3_scanRow_48 fX3_42 (by first | assumption | exact And.left (by assumption)) rfl (by first | assumption | exact zup_s _ _ _ _ | rfl) ?_
      refine z_bipush (v := nI 48) dX3_scanRow_51 rfl ?_
      refine z_icmp_ltN (tgt := 60) dX3_scanRow_53 (by decide) (by omega) (by omega) (fun c_53 => ?_) (fun c_53 => ?_)
      · refine z_return dX3_scanRow_60 (Nat.le_of_ble_eq_true rfl) (Nat.le_of_ble_eq_true rfl) rfl ?_
        refine ⟨rfl, rfl, rfl, ?_, ?_⟩
        · first | exact (hE.up (by omega) (by omega)).trans hV2.1 | exact hE.up (by omega) (by omega)
        · unfold xScan
          rw [he]
          first | (rw [if_pos (by omega)]; exact hV2.2) | (rw [if_neg (by omega)]; exact i2)
      · refine z_aload_n dX3_scanRow_56 rfl ?_
        refine z_callV0w dX3_scanRow_57 kX3_goOn lX3_130 (by first | assumption | exact And.left (by assumption)) rfl (s_goOn (by assumption) (by assumption) (by omega)) (Nat.le_of_ble_eq_true rfl) (Nat.le_of_ble_eq_true rfl) ⟨Nat.le_of_ble_eq_true rfl, Nat.le_of_ble_eq_true rfl⟩ ?_
        intro V2 hV2
        refine z_return dX3_scanRow_60 (Nat.le_of_ble_eq_true rfl) (Nat.le_of_ble_eq_true rfl) rfl ?_
        refine ⟨rfl, rfl, rfl, ?_, ?_⟩
        · first | exact (hE.up (by omega) (by omega)).trans hV2.1 | exact hE.up (by omega) (by omega)
        · unfold xScan
          rw [he]
          first | (rw [if_pos (by omega)]; exact hV2.2) | (rw [if_neg (by omega)]; exact i2)
    · exact absurd rfl c_26
  | some c =>
    have hc := hq c rfl
    refine z_iload_n dX3_scanRow_24 rfl ?_
    refine z_iconst (v := (-1)) dX3_scanRow_25 rfl ?_
    refine z_icmp_eq (tgt := 37) dX3_scanRow_26 (by decide) (fun c_26 => ?_) (fun c_26 => ?_)
    · exact absurd c_26 (vv_ne1 (by omega))
    · refine z_aload_n dX3_scanRow_29 rfl ?_
      refine z_getR dX3_scanRow_30 fX3_21 (by first | assumption | exact And.left (by assumption)) rfl ?_
      refine z_iload_n dX3_scanRow_33 rfl ?_
      refine z_callV1w dX3_scanRow_34 kX6_include lX3_126 (by first | assumption | exact And.left (by assumption)) rfl (s_include (by assumption) (by assumption) (by omega)) (Nat.le_of_ble_eq_true rfl) (Nat.le_of_ble_eq_true rfl) ⟨Nat.le_of_ble_eq_true rfl, Nat.le_of_ble_eq_true rfl⟩ ?_
      intro V1 hV1
      have i1 := IX_en h0 hV1.1 hV1.2
      have gx : V1 a 2 = nI x.1.2.2.1 := i1.1.1.2.2.1
      have hE : zEq V V1 a (a + 12) := hV1.1.wide (by omega) (by omega)
      skip
      refine z_aload_n dX3_scanRow_37 rfl ?_
      refine z_dup dX3_scanRow_38 rfl ?_
      refine z_getIe dX3_scanRow_39 fX3_42 (by first | assumption | exact And.left (by assumption)) rfl gx ?_
      refine z_iconst (v := nI 1) dX3_scanRow_42 rfl ?_
      refine z_addN dX3_scanRow_43 ?_
      refine z_putI dX3_scanRow_44 fX3_42 (by first | assumption | exact And.left (by assumption)) rfl ?_
      refine z_aload_n dX3_scanRow_47 rfl ?_
      have i2 := IX_nr i1 (n := x.1.2.2.1 + 1) (by omega)
      refine z_getIe dX3_scanRow_48 fX3_42 (by first | assumption | exact And.left (by assumption)) rfl (by first | assumption | exact zup_s _ _ _ _ | rfl) ?_
      refine z_bipush (v := nI 48) dX3_scanRow_51 rfl ?_
      refine z_icmp_ltN (tgt := 60) dX3_scanRow_53 (by decide) (by omega) (by omega) (fun c_53 => ?_) (fun c_53 => ?_)
      · refine z_return dX3_scanRow_60 (Nat.le_of_ble_eq_true rfl) (Nat.le_of_ble_eq_true rfl) rfl ?_
        refine ⟨rfl, rfl, rfl, ?_, ?_⟩
        · first | exact (hE.up (by omega) (by omega)).trans hV2.1 | exact hE.up (by omega) (by omega)
        · unfold xScan
          rw [he]
          first | (rw [if_pos (by omega)]; exact hV2.2) | (rw [if_neg (by omega)]; exact i2)
      · refine z_aload_n dX3_scanRow_56 rfl ?_
        refine z_callV0w dX3_scanRow_57 kX3_goOn lX3_130 (by first | assumption | exact And.left (by assumption)) rfl (s_goOn (by assumption) (by assumption) (by omega)) (Nat.le_of_ble_eq_true rfl) (Nat.le_of_ble_eq_true rfl) ⟨Nat.le_of_ble_eq_true rfl, Nat.le_of_ble_eq_true rfl⟩ ?_
        intro V2 hV2
        refine z_return dX3_scanRow_60 (Nat.le_of_ble_eq_true rfl) (Nat.le_of_ble_eq_true rfl) rfl ?_
        refine ⟨rfl, rfl, rfl, ?_, ?_⟩
        · first | exact (hE.up (by omega) (by omega)).trans hV2.1 | exact hE.up (by omega) (by omega)
        · unfold xScan
          rw [he]
          first | (rw [if_pos (by omega)]; exact hV2.2) | (rw [if_neg (by omega)]; exact i2)

set_option maxHeartbeats 4000000 in
set_option maxRecDepth 100000 in
theorem s_scanRow {D : zD} {z0 nx : Nat} {L : zL} {V : zV} {a b : Nat} {v : Vs} {x : Ix} (hs : sIx L a) (h : IX V a x) (hs2 : sVe L b) (hv : VE V b v) (hab : a + 12 ≤ b ∨ b + 4 ≤ a) (hn : x.1.2.2.1 < 48) (hr : x.1.2.2.2.1 < 999999) : Sp D z0 5 0 0 mX3_scanRow [.ref a, .ref b] L V nx (zq none L nx (fun V' => zEq V V' a (a + 12) ∧ IX V' a (xScan v x))) := by
  have hs0 := hs
  have h0 := h
  obtain ⟨h1, h2, h3, h4, h5⟩ := hs
  obtain ⟨⟨⟨g1, g2, g3, g4, g5⟩, k1, k2, k3, k4, k5⟩, gd, ge, ⟨f, gn⟩, gl⟩ := h
  have hv0 := hv.vat (r := x.1.2.2.1) (by omega) x.1.2.1
  refine Sp.of 1 (by decide) rfl rfl (Nat.le_of_ble_eq_true rfl) ?_
  refine z_aload_n dX3_scanRow_0 rfl ?_
  refine z_getR dX3_scanRow_1 fX3_12 (by first | assumption | exact And.left (by assumption)) rfl ?_
  refine z_aload_n dX3_scanRow_4 rfl ?_
  refine z_aload_n dX3_scanRow_5 rfl ?_
  refine z_getIe dX3_scanRow_6 fX3_42 (by first | assumption | exact And.left (by assumption)) rfl (by first | assumption | exact zup_s _ _ _ _ | rfl) ?_
  refine z_aload_n dX3_scanRow_9 rfl ?_
  refine z_getIe dX3_scanRow_10 fX3_39 (by first | assumption | exact And.left (by assumption)) rfl (by first | assumption | exact zup_s _ _ _ _ | rfl) ?_
  refine z_callV2i dX3_scanRow_13 kX10_valueAt lX3_123 (by first | assumption | exact And.left (by assumption)) rfl (s_valueAt (by assumption) (by assumption) (by omega) (by omega)) (Nat.le_of_ble_eq_true rfl) (Nat.le_of_ble_eq_true rfl) ⟨Nat.le_of_ble_eq_true rfl, Nat.le_of_ble_eq_true rfl⟩ ?_
  refine z_aload_n dX3_scanRow_16 rfl ?_
  refine z_getIe dX3_scanRow_17 fX3_42 (by first | assumption | exact And.left (by assumption)) rfl (by first | assumption | exact zup_s _ _ _ _ | rfl) ?_
  refine z_callV2i dX3_scanRow_20 kX1_entryOf lX3_101 (by first | assumption | exact And.left (by assumption)) rfl (s_entryOf (by assumption) (by assumption) (by assumption) (by omega)) (Nat.le_of_ble_eq_true rfl) (Nat.le_of_ble_eq_true rfl) ⟨Nat.le_of_ble_eq_true rfl, Nat.le_of_ble_eq_true rfl⟩ ?_
  refine z_istore_n dX3_scanRow_23 (Nat.le_of_ble_eq_true rfl) rfl ?_
  exact s_scanRow2 hs0 h0 hn hr _ (eo_lt hv0 (by omega)) rfl

set_option maxHeartbeats 4000000 in
set_option maxRecDepth 100000 in
theorem s_endRound {D : zD} {z0 nx : Nat} {L : zL} {V : zV} {a sh mo : Nat} {x : Ix} (hs : sIx L a) (h : IX V a x) (h1 : sh < 1000) (h2 : mo < 1000) (hr : x.1.2.2.2.1 < 999999) : Sp D z0 5 0 0 mX3_endRound [.ref a, .int (nI sh), .int (nI mo)] L V nx (zq none L nx (fun V' => zEq V V' a (a + 12) ∧ IX V' a (xEnd sh mo x))) := by
  have b1 := h1
  have b2 := h2
  clear h1 h2
  have hs0 := hs
  have h0 := h
  obtain ⟨h1, h2, h3, h4, h5⟩ := hs
  obtain ⟨⟨⟨g1, g2, g3, g4, g5⟩, k1, k2, k3, k4, k5⟩, gd, ge, ⟨f, gn⟩, gl⟩ := h
  have hls := gl.2.1
  have hll := gl.2.2.1
  have h51 := h5.1
  refine Sp.of 0 (by decide) rfl rfl (Nat.le_of_ble_eq_true rfl) ?_
  refine z_aload_n dX3_endRound_0 rfl ?_
  refine z_getR dX3_endRound_1 fX3_32 (by first | assumption | exact And.left (by assumption)) rfl ?_
  refine z_getIe dX3_endRound_4 fX3_71 (by first | assumption | exact And.left (by assumption)) rfl (by first | assumption | exact zup_s _ _ _ _ | rfl) ?_
  refine z_iload_n dX3_endRound_7 rfl ?_
  refine z_icmp_gtN (tgt := 23) dX3_endRound_8 (by decide) (by omega) (by omega) (fun c_8 => ?_) (fun c_8 => ?_)
  · refine z_aload_n dX3_endRound_23 rfl ?_
    refine z_getIe dX3_endRound_24 fX3_45 (by first | assumption | exact And.left (by assumption)) rfl (by first | assumption | exact zup_s _ _ _ _ | rfl) ?_
    refine z_iload_n dX3_endRound_27 rfl ?_
    refine z_icmp_ltN (tgt := 39) dX3_endRound_28 (by decide) (by omega) (by omega) (fun c_28 => ?_) (fun c_28 => ?_)
    · refine z_aload_n dX3_endRound_39 rfl ?_
      refine z_callV0w dX3_endRound_40 kX3_nextRound lX3_64 (by first | assumption | exact And.left (by assumption)) rfl (s_nextRound (by assumption) (by assumption) (by omega)) (Nat.le_of_ble_eq_true rfl) (Nat.le_of_ble_eq_true rfl) ⟨Nat.le_of_ble_eq_true rfl, Nat.le_of_ble_eq_true rfl⟩ ?_
      intro V1 hV1
      refine z_return dX3_endRound_43 (Nat.le_of_ble_eq_true rfl) (Nat.le_of_ble_eq_true rfl) rfl ?_
      refine ⟨rfl, rfl, rfl, ?_, ?_⟩
      · first | exact (zEq.rf.up (by omega) (by omega)).trans hV1.1 | exact hV1.1
      · unfold xEnd
        first | (rw [if_pos (by omega)]; exact hV1.2) | (rw [if_neg (by omega), if_pos (by omega)]; exact hV1.2) | (rw [if_neg (by omega), if_neg (by omega)]; exact hV1.2)
    · refine z_aload_n dX3_endRound_31 rfl ?_
      refine z_iconst (v := nI 2) dX3_endRound_32 rfl ?_
      refine z_callV1w dX3_endRound_33 kX3_drop lX3_136 (by first | assumption | exact And.left (by assumption)) rfl (s_drop (by assumption) (by assumption) (by omega)) (Nat.le_of_ble_eq_true rfl) (Nat.le_of_ble_eq_true rfl) ⟨Nat.le_of_ble_eq_true rfl, Nat.le_of_ble_eq_true rfl⟩ ?_
      intro V1 hV1
      refine z_goto (tgt := 43) dX3_endRound_36 (by decide) ?_
      refine z_return dX3_endRound_43 (Nat.le_of_ble_eq_true rfl) (Nat.le_of_ble_eq_true rfl) rfl ?_
      refine ⟨rfl, rfl, rfl, ?_, ?_⟩
      · first | exact (zEq.rf.up (by omega) (by omega)).trans hV1.1 | exact hV1.1
      · unfold xEnd
        first | (rw [if_pos (by omega)]; exact hV1.2) | (rw [if_neg (by omega), if_pos (by omega)]; exact hV1.2) | (rw [if_neg (by omega), if_neg (by omega)]; exact hV1.2)
  · refine z_aload_n dX3_endRound_11 rfl ?_
    refine z_iconst (v := nI 3) dX3_endRound_12 rfl ?_
    refine z_putI dX3_endRound_13 fX3_35 (by first | assumption | exact And.left (by assumption)) rfl ?_
    refine z_aload_n dX3_endRound_16 rfl ?_
    have i1 := IX_st h0 (n := 3) (by omega)
    refine z_callV0w dX3_endRound_17 kX3_turnLogs lX3_133 (by first | assumption | exact And.left (by assumption)) rfl (s_turnLogs (by assumption) (by assumption)) (Nat.le_of_ble_eq_true rfl) (Nat.le_of_ble_eq_true rfl) ⟨Nat.le_of_ble_eq_true rfl, Nat.le_of_ble_eq_true rfl⟩ ?_
    intro V1 hV1
    refine z_goto (tgt := 43) dX3_endRound_20 (by decide) ?_
    refine z_return dX3_endRound_43 (Nat.le_of_ble_eq_true rfl) (Nat.le_of_ble_eq_true rfl) rfl ?_
    refine ⟨rfl, rfl, rfl, ?_, ?_⟩
    · first | exact (zEq.rf.up (by omega) (by omega)).trans hV1.1 | exact hV1.1
    · unfold xEnd
      first | (rw [if_pos (by omega)]; exact hV1.2) | (rw [if_neg (by omega), if_pos (by omega)]; exact hV1.2) | (rw [if_neg (by omega), if_neg (by omega)]; exact hV1.2)

set_option maxHeartbeats 4000000 in
set_option maxRecDepth 100000 in
theorem s_doUnit {D : zD} {z0 nx : Nat} {L : zL} {V : zV} {a b sh mo : Nat} {v : Vs} {x : Ix} (hs : sIx L a) (h : IX V a x) (hs2 : sVe L b) (hv : VE V b v) (hab : a + 12 ≤ b ∨ b + 4 ≤ a) (hn : x.1.1 = 1 → x.1.2.2.1 < 48) (hr : x.1.2.2.2.1 < 999999) (b1 : sh < 1000) (b2 : mo < 1000) : Sp D z0 6 0 0 mX3_doUnit [.ref a, .ref b, .int (nI sh), .int (nI mo)] L V nx (zq none L nx (fun V' => zEq V V' a (a + 12) ∧ IX V' a (xUnit v sh mo x))) := by
  have hs0 := hs
  have h0 := h
  obtain ⟨h1, h2, h3, h4, h5⟩ := hs
  obtain ⟨⟨⟨g1, g2, g3, g4, g5⟩, k1, k2, k3, k4, k5⟩, gd, ge, ⟨f, gn⟩, gl⟩ := h
  have hls := gn.2.1
  have h41 := h4.1
  have h21 := h2.1
  have gdu := gd.2.1
  have hll := gn.2.2.1
  refine Sp.of 0 (by decide) rfl rfl (Nat.le_of_ble_eq_true rfl) ?_
  cases hl : x.2.2.2.1 with
  | nil =>
    rw [hl] at hls hll
    simp only [List.length_nil] at hls hll
    refine z_aload_n dX3_doUnit_0 rfl ?_
    refine z_getIe dX3_doUnit_1 fX3_35 (by first | assumption | exact And.left (by assumption)) rfl (by first | assumption | exact zup_s _ _ _ _ | rfl) ?_
    refine z_iconst (v := nI 1) dX3_doUnit_4 rfl ?_
    refine z_icmp_neN (tgt := 16) dX3_doUnit_5 (by decide) (by omega) (by omega) (fun c_5 => ?_) (fun c_5 => ?_)
    · refine z_aload_n dX3_doUnit_16 rfl ?_
      refine z_getR dX3_doUnit_17 fX3_28 (by first | assumption | exact And.left (by assumption)) rfl ?_
      refine z_getIe dX3_doUnit_20 fX3_71 (by first | assumption | exact And.left (by assumption)) rfl (by first | assumption | exact zup_s _ _ _ _ | rfl) ?_
      refine z_if_leN (tgt := 33) dX3_doUnit_23 (by decide) (by omega) (fun c_23 => ?_) (fun c_23 => ?_)
      · refine z_aload_n dX3_doUnit_33 rfl ?_
        refine z_getIe dX3_doUnit_34 fX3_35 (by first | assumption | exact And.left (by assumption)) rfl (by first | assumption | exact zup_s _ _ _ _ | rfl) ?_
        refine z_iconst (v := nI 3) dX3_doUnit_37 rfl ?_
        refine z_icmp_neN (tgt := 73) dX3_doUnit_38 (by decide) (by omega) (by omega) (fun c_38 => ?_) (fun c_38 => ?_)
        · refine z_aload_n dX3_doUnit_73 rfl ?_
          refine z_getIe dX3_doUnit_74 fX3_35 (by first | assumption | exact And.left (by assumption)) rfl (by first | assumption | exact zup_s _ _ _ _ | rfl) ?_
          refine z_iconst (v := nI 2) dX3_doUnit_77 rfl ?_
          refine z_icmp_neN (tgt := 87) dX3_doUnit_78 (by decide) (by omega) (by omega) (fun c_78 => ?_) (fun c_78 => ?_)
          · refine z_return dX3_doUnit_87 (Nat.le_of_ble_eq_true rfl) (Nat.le_of_ble_eq_true rfl) rfl ?_
            refine ⟨rfl, rfl, rfl, ?_, ?_⟩
            · first | exact hV1.1 | exact zEq.rf.up (by omega) (by omega) | exact zEq.rf
            · unfold xUnit
              first
                | (rw [if_pos (by omega)]; exact hV1.2)
                | (rw [if_neg (by omega), hl]; exact hV1.2)
                | (rw [if_neg (by omega), hl]; simp only; rw [if_pos (by omega)]; unfold xJudge; rw [if_pos ⟨c_49, c_59⟩]; exact IX_st h0 (by omega))
                | (rw [if_neg (by omega), hl]; simp only; rw [if_pos (by omega)]; unfold xJudge; rw [if_neg (fun q => c_59 q.2)]; exact IX_st h0 (by omega))
                | (rw [if_neg (by omega), hl]; simp only; rw [if_pos (by omega)]; unfold xJudge; rw [if_neg (fun q => c_49 q.1)]; exact IX_st h0 (by omega))
                | (rw [if_neg (by omega), hl]; simp only; rw [if_neg (by omega), if_pos (by omega)]; exact hV1.2)
                | (rw [if_neg (by omega), hl]; simp only; rw [if_neg (by omega), if_neg (by omega)]; exact h0)
          · refine z_aload_n dX3_doUnit_81 rfl ?_
            refine z_iload_n dX3_doUnit_82 rfl ?_
            refine z_iload_n dX3_doUnit_83 rfl ?_
            refine z_callV2w dX3_doUnit_84 kX3_endRound lX3_85 (by first | assumption | exact And.left (by assumption)) rfl (s_endRound (by assumption) (by assumption) (by omega) (by omega) (by omega)) (Nat.le_of_ble_eq_true rfl) (Nat.le_of_ble_eq_true rfl) ⟨Nat.le_of_ble_eq_true rfl, Nat.le_of_ble_eq_true rfl⟩ ?_
            intro V1 hV1
            refine z_return dX3_doUnit_87 (Nat.le_of_ble_eq_true rfl) (Nat.le_of_ble_eq_true rfl) rfl ?_
            refine ⟨rfl, rfl, rfl, ?_, ?_⟩
            · first | exact hV1.1 | exact zEq.rf.up (by omega) (by omega) | exact zEq.rf
            · unfold xUnit
              first
                | (rw [if_pos (by omega)]; exact hV1.2)
                | (rw [if_neg (by omega), hl]; exact hV1.2)
                | (rw [if_neg (by omega), hl]; simp only; rw [if_pos (by omega)]; unfold xJudge; rw [if_pos ⟨c_49, c_59⟩]; exact IX_st h0 (by omega))
                | (rw [if_neg (by omega), hl]; simp only; rw [if_pos (by omega)]; unfold xJudge; rw [if_neg (fun q => c_59 q.2)]; exact IX_st h0 (by omega))
                | (rw [if_neg (by omega), hl]; simp only; rw [if_pos (by omega)]; unfold xJudge; rw [if_neg (fun q => c_49 q.1)]; exact IX_st h0 (by omega))
                | (rw [if_neg (by omega), hl]; simp only; rw [if_neg (by omega), if_pos (by omega)]; exact hV1.2)
                | (rw [if_neg (by omega), hl]; simp only; rw [if_neg (by omega), if_neg (by omega)]; exact h0)
        · refine z_aload_n dX3_doUnit_41 rfl ?_
          refine z_aload_n dX3_doUnit_42 rfl ?_
          refine z_getR dX3_doUnit_43 fX3_12 (by first | assumption | exact And.left (by assumption)) rfl ?_
          refine z_getIe dX3_doUnit_46 fX3_77 (by first | assumption | exact And.left (by assumption)) rfl (by first | assumption | exact zup_s _ _ _ _ | rfl) ?_
          refine z_if_eqB (tgt := 66) dX3_doUnit_49 (by decide) (fun c_49 => ?_) (fun c_49 => ?_)
          · refine z_iconst (v := nI 4) dX3_doUnit_66 rfl ?_
            refine z_putI dX3_doUnit_67 fX3_35 (by first | assumption | exact And.left (by assumption)) rfl ?_
            refine z_goto (tgt := 87) dX3_doUnit_70 (by decide) ?_
            refine z_return dX3_doUnit_87 (Nat.le_of_ble_eq_true rfl) (Nat.le_of_ble_eq_true rfl) rfl ?_
            refine ⟨rfl, rfl, rfl, ?_, ?_⟩
            · first | exact hV1.1 | exact zEq.rf.up (by omega) (by omega) | exact zEq.rf
            · unfold xUnit
              first
                | (rw [if_pos (by omega)]; exact hV1.2)
                | (rw [if_neg (by omega), hl]; exact hV1.2)
                | (rw [if_neg (by omega), hl]; simp only; rw [if_pos (by omega)]; unfold xJudge; rw [if_pos ⟨c_49, c_59⟩]; exact IX_st h0 (by omega))
                | (rw [if_neg (by omega), hl]; simp only; rw [if_pos (by omega)]; unfold xJudge; rw [if_neg (fun q => c_59 q.2)]; exact IX_st h0 (by omega))
                | (rw [if_neg (by omega), hl]; simp only; rw [if_pos (by omega)]; unfold xJudge; rw [if_neg (fun q => c_49 q.1)]; exact IX_st h0 (by omega))
                | (rw [if_neg (by omega), hl]; simp only; rw [if_neg (by omega), if_pos (by omega)]; exact hV1.2)
                | (rw [if_neg (by omega), hl]; simp only; rw [if_neg (by omega), if_neg (by omega)]; exact h0)
          · refine z_aload_n dX3_doUnit_52 rfl ?_
            refine z_getR dX3_doUnit_53 fX3_21 (by first | assumption | exact And.left (by assumption)) rfl ?_
            refine z_callV0i dX3_doUnit_56 kX6_hasTwins lX3_81 (by first | assumption | exact And.left (by assumption)) rfl (s_twins (by assumption) (by assumption)) (Nat.le_of_ble_eq_true rfl) (Nat.le_of_ble_eq_true rfl) ⟨Nat.le_of_ble_eq_true rfl, Nat.le_of_ble_eq_true rfl⟩ ?_
            refine z_if_eqB (tgt := 66) dX3_doUnit_59 (by decide) (fun c_59 => ?_) (fun c_59 => ?_)
            · refine z_iconst (v := nI 4) dX3_doUnit_66 rfl ?_
              refine z_putI dX3_doUnit_67 fX3_35 (by first | assumption | exact And.left (by assumption)) rfl ?_
              refine z_goto (tgt := 87) dX3_doUnit_70 (by decide) ?_
              refine z_return dX3_doUnit_87 (Nat.le_of_ble_eq_true rfl) (Nat.le_of_ble_eq_true rfl) rfl ?_
              refine ⟨rfl, rfl, rfl, ?_, ?_⟩
              · first | exact hV1.1 | exact zEq.rf.up (by omega) (by omega) | exact zEq.rf
              · unfold xUnit
                first
                  | (rw [if_pos (by omega)]; exact hV1.2)
                  | (rw [if_neg (by omega), hl]; exact hV1.2)
                  | (rw [if_neg (by omega), hl]; simp only; rw [if_pos (by omega)]; unfold xJudge; rw [if_pos ⟨c_49, c_59⟩]; exact IX_st h0 (by omega))
                  | (rw [if_neg (by omega), hl]; simp only; rw [if_pos (by omega)]; unfold xJudge; rw [if_neg (fun q => c_59 q.2)]; exact IX_st h0 (by omega))
                  | (rw [if_neg (by omega), hl]; simp only; rw [if_pos (by omega)]; unfold xJudge; rw [if_neg (fun q => c_49 q.1)]; exact IX_st h0 (by omega))
                  | (rw [if_neg (by omega), hl]; simp only; rw [if_neg (by omega), if_pos (by omega)]; exact hV1.2)
                  | (rw [if_neg (by omega), hl]; simp only; rw [if_neg (by omega), if_neg (by omega)]; exact h0)
            · refine z_iconst (v := nI 5) dX3_doUnit_62 rfl ?_
              refine z_goto (tgt := 67) dX3_doUnit_63 (by decide) ?_
              refine z_putI dX3_doUnit_67 fX3_35 (by first | assumption | exact And.left (by assumption)) rfl ?_
              refine z_goto (tgt := 87) dX3_doUnit_70 (by decide) ?_
              refine z_return dX3_doUnit_87 (Nat.le_of_ble_eq_true rfl) (Nat.le_of_ble_eq_true rfl) rfl ?_
              refine ⟨rfl, rfl, rfl, ?_, ?_⟩
              · first | exact hV1.1 | exact zEq.rf.up (by omega) (by omega) | exact zEq.rf
              · unfold xUnit
                first
                  | (rw [if_pos (by omega)]; exact hV1.2)
                  | (rw [if_neg (by omega), hl]; exact hV1.2)
                  | (rw [if_neg (by omega), hl]; simp only; rw [if_pos (by omega)]; unfold xJudge; rw [if_pos ⟨c_49, c_59⟩]; exact IX_st h0 (by omega))
                  | (rw [if_neg (by omega), hl]; simp only; rw [if_pos (by omega)]; unfold xJudge; rw [if_neg (fun q => c_59 q.2)]; exact IX_st h0 (by omega))
                  | (rw [if_neg (by omega), hl]; simp only; rw [if_pos (by omega)]; unfold xJudge; rw [if_neg (fun q => c_49 q.1)]; exact IX_st h0 (by omega))
                  | (rw [if_neg (by omega), hl]; simp only; rw [if_neg (by omega), if_pos (by omega)]; exact hV1.2)
                  | (rw [if_neg (by omega), hl]; simp only; rw [if_neg (by omega), if_neg (by omega)]; exact h0)
      · exact absurd c_23 (by simp)
    · refine z_aload_n dX3_doUnit_8 rfl ?_
      refine z_aload_n dX3_doUnit_9 rfl ?_
      refine z_callV1w dX3_doUnit_10 kX3_scanRow lX3_67 (by first | assumption | exact And.left (by assumption)) rfl (s_scanRow (by assumption) (by assumption) (by assumption) (by assumption) (by omega) (by omega) (by omega)) (Nat.le_of_ble_eq_true rfl) (Nat.le_of_ble_eq_true rfl) ⟨Nat.le_of_ble_eq_true rfl, Nat.le_of_ble_eq_true rfl⟩ ?_
      intro V1 hV1
      refine z_goto (tgt := 87) dX3_doUnit_13 (by decide) ?_
      refine z_return dX3_doUnit_87 (Nat.le_of_ble_eq_true rfl) (Nat.le_of_ble_eq_true rfl) rfl ?_
      refine ⟨rfl, rfl, rfl, ?_, ?_⟩
      · first | exact hV1.1 | exact zEq.rf.up (by omega) (by omega) | exact zEq.rf
      · unfold xUnit
        first
          | (rw [if_pos (by omega)]; exact hV1.2)
          | (rw [if_neg (by omega), hl]; exact hV1.2)
          | (rw [if_neg (by omega), hl]; simp only; rw [if_pos (by omega)]; unfold xJudge; rw [if_pos ⟨c_49, c_59⟩]; exact IX_st h0 (by omega))
          | (rw [if_neg (by omega), hl]; simp only; rw [if_pos (by omega)]; unfold xJudge; rw [if_neg (fun q => c_59 q.2)]; exact IX_st h0 (by omega))
          | (rw [if_neg (by omega), hl]; simp only; rw [if_pos (by omega)]; unfold xJudge; rw [if_neg (fun q => c_49 q.1)]; exact IX_st h0 (by omega))
          | (rw [if_neg (by omega), hl]; simp only; rw [if_neg (by omega), if_pos (by omega)]; exact hV1.2)
          | (rw [if_neg (by omega), hl]; simp only; rw [if_neg (by omega), if_neg (by omega)]; exact h0)
  | cons it t =>
    rw [hl] at hls hll
    simp only [List.length_cons] at hls hll
    refine z_aload_n dX3_doUnit_0 rfl ?_
    refine z_getIe dX3_doUnit_1 fX3_35 (by first | assumption | exact And.left (by assumption)) rfl (by first | assumption | exact zup_s _ _ _ _ | rfl) ?_
    refine z_iconst (v := nI 1) dX3_doUnit_4 rfl ?_
    refine z_icmp_neN (tgt := 16) dX3_doUnit_5 (by decide) (by omega) (by omega) (fun c_5 => ?_) (fun c_5 => ?_)
    · refine z_aload_n dX3_doUnit_16 rfl ?_
      refine z_getR dX3_doUnit_17 fX3_28 (by first | assumption | exact And.left (by assumption)) rfl ?_
      refine z_getIe dX3_doUnit_20 fX3_71 (by first | assumption | exact And.left (by assumption)) rfl (by first | assumption | exact zup_s _ _ _ _ | rfl) ?_
      refine z_if_leN (tgt := 33) dX3_doUnit_23 (by decide) (by omega) (fun c_23 => ?_) (fun c_23 => ?_)
      · exact absurd c_23 (by simp)
      · refine z_aload_n dX3_doUnit_26 rfl ?_
        refine z_callV0w dX3_doUnit_27 kX3_carryOutFirst lX3_74 (by first | assumption | exact And.left (by assumption)) rfl (s_carryFirst (by assumption) (by assumption) (by assumption)) (Nat.le_of_ble_eq_true rfl) (Nat.le_of_ble_eq_true rfl) ⟨Nat.le_of_ble_eq_true rfl, Nat.le_of_ble_eq_true rfl⟩ ?_
        intro V1 hV1
        refine z_goto (tgt := 87) dX3_doUnit_30 (by decide) ?_
        refine z_return dX3_doUnit_87 (Nat.le_of_ble_eq_true rfl) (Nat.le_of_ble_eq_true rfl) rfl ?_
        refine ⟨rfl, rfl, rfl, ?_, ?_⟩
        · first | exact hV1.1 | exact zEq.rf.up (by omega) (by omega) | exact zEq.rf
        · unfold xUnit
          first
            | (rw [if_pos (by omega)]; exact hV1.2)
            | (rw [if_neg (by omega), hl]; exact hV1.2)
            | (rw [if_neg (by omega), hl]; simp only; rw [if_pos (by omega)]; unfold xJudge; rw [if_pos ⟨c_49, c_59⟩]; exact IX_st h0 (by omega))
            | (rw [if_neg (by omega), hl]; simp only; rw [if_pos (by omega)]; unfold xJudge; rw [if_neg (fun q => c_59 q.2)]; exact IX_st h0 (by omega))
            | (rw [if_neg (by omega), hl]; simp only; rw [if_pos (by omega)]; unfold xJudge; rw [if_neg (fun q => c_49 q.1)]; exact IX_st h0 (by omega))
            | (rw [if_neg (by omega), hl]; simp only; rw [if_neg (by omega), if_pos (by omega)]; exact hV1.2)
            | (rw [if_neg (by omega), hl]; simp only; rw [if_neg (by omega), if_neg (by omega)]; exact h0)
    · refine z_aload_n dX3_doUnit_8 rfl ?_
      refine z_aload_n dX3_doUnit_9 rfl ?_
      refine z_callV1w dX3_doUnit_10 kX3_scanRow lX3_67 (by first | assumption | exact And.left (by assumption)) rfl (s_scanRow (by assumption) (by assumption) (by assumption) (by assumption) (by omega) (by omega) (by omega)) (Nat.le_of_ble_eq_true rfl) (Nat.le_of_ble_eq_true rfl) ⟨Nat.le_of_ble_eq_true rfl, Nat.le_of_ble_eq_true rfl⟩ ?_
      intro V1 hV1
      refine z_goto (tgt := 87) dX3_doUnit_13 (by decide) ?_
      refine z_return dX3_doUnit_87 (Nat.le_of_ble_eq_true rfl) (Nat.le_of_ble_eq_true rfl) rfl ?_
      refine ⟨rfl, rfl, rfl, ?_, ?_⟩
      · first | exact hV1.1 | exact zEq.rf.up (by omega) (by omega) | exact zEq.rf
      · unfold xUnit
        first
          | (rw [if_pos (by omega)]; exact hV1.2)
          | (rw [if_neg (by omega), hl]; exact hV1.2)
          | (rw [if_neg (by omega), hl]; simp only; rw [if_pos (by omega)]; unfold xJudge; rw [if_pos ⟨c_49, c_59⟩]; exact IX_st h0 (by omega))
          | (rw [if_neg (by omega), hl]; simp only; rw [if_pos (by omega)]; unfold xJudge; rw [if_neg (fun q => c_59 q.2)]; exact IX_st h0 (by omega))
          | (rw [if_neg (by omega), hl]; simp only; rw [if_pos (by omega)]; unfold xJudge; rw [if_neg (fun q => c_49 q.1)]; exact IX_st h0 (by omega))
          | (rw [if_neg (by omega), hl]; simp only; rw [if_neg (by omega), if_pos (by omega)]; exact hV1.2)
          | (rw [if_neg (by omega), hl]; simp only; rw [if_neg (by omega), if_neg (by omega)]; exact h0)

