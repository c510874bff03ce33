/-! Store, on: entries gathered, what hinders a commit, a commit, snaps, sweeping -/
def oinc (q : Option Nat) (l : List Nat) : List Nat := match q with
  | none => l
  | some c => inc c l
/-- the entries that rows give -/
noncomputable def gth (d : Df) (f : Nat → Option Nat) : Nat → List Nat
  | 0 => []
  | n + 1 => oinc (eo d (f n) n) (gth d f n)
/-- the table by somebody's writes -/
def wr (v : Vs) (w : Nat → Option (Option Nat)) (r : Nat) : Option Nat := match w r with
  | some x => x
  | none => (lst v r).2
theorem wr_y {v : Vs} {w : Nat → Option (Option Nat)} {r : Nat} {x : Option Nat} (h : w r = some x) : wr v w r = x := by unfold wr; rw [h]
theorem wr_n {v : Vs} {w : Nat → Option (Option Nat)} {r : Nat} (h : ¬ w r ≠ none) : wr v w r = (lst v r).2 := by
  unfold wr
  rw [show w r = none from Classical.byContradiction h]
section ZNl
variable {D : zD} {z0 d mc ms : Nat} {y : Mt} {cells slots pc : Nat} {lv : List (Option Value)} {st : List Value} {L : zL} {V : zV} {nx : Nat} {P : zP}
theorem z_aload_nN {n : Fin 4} (hd : decode y.2.1 pc = .ok (.aload_n n, 1)) (hx : lv[(n : Nat)]? = some (some .null)) (k : Z D z0 d mc ms y cells slots (pc + 1) lv (.null :: st) L V nx P) : Z D z0 d mc ms y cells slots pc lv st L V nx P := fun p l e s m args below meth c H locs Q ls hC hl hr hH hf => lv_aload_nN hC.1 hC.2.1 hd rfl (hl.2.2.2 _ _ hx) (k p l e s m args below meth c H locs Q ls hC hl hr hH hf)
end ZNl
theorem vv_m1' {v : Option Nat} (h : ∀ p, v = some p → p < 64000000) : vv v = -1 ↔ v = none := by
  cases v with
  | none => exact ⟨fun _ => rfl, fun _ => rfl⟩
  | some p => exact ⟨fun q => absurd q (nI_ne_m1 (by have := h p rfl; omega)), fun q => by cases q⟩

set_option maxHeartbeats 4000000 in
set_option maxRecDepth 100000 in
theorem lp_gathN {D : zD} {z0 nx : Nat} {L : zL} {V : zV} {a b e : Nat} {s : St} {d : Df} (hs : sSt L a) (h : ST V a s) (hd : sDf L b) (hD : DF V b d) (hse : sSC L e) (hbe : b + 5 ≤ e ∨ e + 2 ≤ b) (hae : a + 40 ≤ e ∨ e + 2 ≤ a) : ∀ (fu : Nat) (i : Nat) (V1 : zV), 48 - i = fu → i ≤ 48 → zEq V V1 e (e + 2) → SC V1 e (gth d (fun r => (lst s.2.1 r).2) i) → Z D z0 5 0 0 mX7_gatherEntries 0 0 7 [some (.ref a), some (.ref b), some (.null), some (.ref e), some (.int (nI i)), none, none, none] [] L V1 nx (zq none L nx (fun V' => zEq V V' e (e + 2) ∧ SC V' e (gth d (fun r => (lst s.2.1 r).2) 48))) := by
  intro fu
  induction fu using Nat.strongRecOn with
  | ind fu ih =>
    intro i V1 h_fu h_0 h_1 h_2
    have hs0 := hs
    have h0 := h.eq h_1 hae
    have hD1 := hD.eq h_1 hbe
    have hse0 := hse
    obtain ⟨h1, h2, h3, h4, h5, h6, h7⟩ := hs
    have h00 := h0
    obtain ⟨g1, g2, g3, g4⟩ := h00
    refine z_iload dX7_gatherEntries_7 rfl ?_
    refine z_bipush (v := nI 48) dX7_gatherEntries_9 rfl ?_
    refine z_icmp_geN (tgt := 88) dX7_gatherEntries_11 (by decide) (by omega) (by omega) (fun c_11 => ?_) (fun c_11 => ?_)
    · refine z_return dX7_gatherEntries_88 (Nat.le_of_ble_eq_true rfl) (Nat.le_of_ble_eq_true rfl) rfl ?_
      have e_i : i = 48 := by omega
      subst e_i
      exact ⟨rfl, rfl, rfl, h_1, h_2⟩
    · refine z_aload_nN dX7_gatherEntries_14 rfl ?_
      refine z_ifnullN (tgt := 31) dX7_gatherEntries_15 (by decide) ?_
      refine z_iconst (v := nI 0) dX7_gatherEntries_31 rfl ?_
      refine z_istore dX7_gatherEntries_32 (Nat.le_of_ble_eq_true rfl) rfl ?_
      refine z_iload dX7_gatherEntries_34 rfl ?_
      refine z_if_eqN (tgt := 49) dX7_gatherEntries_36 (by decide) (by omega) (fun c_36 => ?_) (fun c_36 => ?_)
      · refine z_aload_n dX7_gatherEntries_49 rfl ?_
        refine z_getR dX7_gatherEntries_50 fX7_21 (by first | assumption | exact And.left (by assumption)) rfl ?_
        refine z_iload dX7_gatherEntries_53 rfl ?_
        refine z_callV1i dX7_gatherEntries_55 kX10_latest lX7_56 (by first | assumption | exact And.left (by assumption)) rfl (s_latest (by assumption) (by assumption) (by omega)) (Nat.le_of_ble_eq_true rfl) (Nat.le_of_ble_eq_true rfl) ⟨Nat.le_of_ble_eq_true rfl, Nat.le_of_ble_eq_true rfl⟩ ?_
        have bv : ∀ p, (lst s.2.1 i).2 = some p → p < 1000000 := (g2.lst (r := i) (by omega)).2
        refine z_istore dX7_gatherEntries_58 (Nat.le_of_ble_eq_true rfl) rfl ?_
        refine z_aload_n dX7_gatherEntries_60 rfl ?_
        refine z_iload dX7_gatherEntries_61 rfl ?_
        refine z_iload dX7_gatherEntries_63 rfl ?_
        refine z_callV2i dX7_gatherEntries_65 kX1_entryOf lX7_123 (by first | assumption | exact And.left (by assumption)) rfl (s_entryOf (v := (fun r => (lst s.2.1 r).2) i) hd hD1 bv (by omega)) (Nat.le_of_ble_eq_true rfl) (Nat.le_of_ble_eq_true rfl) ⟨Nat.le_of_ble_eq_true rfl, Nat.le_of_ble_eq_true rfl⟩ ?_
        have eo_i := eo_lt (x := d) (v := (fun r => (lst s.2.1 r).2) i) bv (r := i) (by omega)
        refine z_istore dX7_gatherEntries_68 (Nat.le_of_ble_eq_true rfl) rfl ?_
        refine z_iload dX7_gatherEntries_70 rfl ?_
        refine z_iconst (v := (-1)) dX7_gatherEntries_72 rfl ?_
        refine z_icmp_eq (tgt := 82) dX7_gatherEntries_73 (by decide) (fun c_73 => ?_) (fun c_73 => ?_)
        · have en := (vv_m1' eo_i).mp c_73
          have eN : gth d (fun r => (lst s.2.1 r).2) (i + 1) = gth d (fun r => (lst s.2.1 r).2) i := by
            show oinc _ _ = _
            rw [en]
            rfl
          refine z_incN dX7_gatherEntries_82 rfl rfl ?_
          refine z_goto (tgt := 7) dX7_gatherEntries_85 (by decide) ?_
          refine z_fg 5 ?_
          refine z_fg 6 ?_
          refine z_fg 7 ?_
          first
            | exact ih _ (by omega) (i + 1) V1 rfl (by omega) h_1 (by rw [eN]; exact h_2)
            | exact ih _ (by omega) (i + 1) V2 rfl (by omega) (h_1.trans hV2.1) (by rw [eN]; exact hV2.2)
        · obtain ⟨q0, hq0⟩ := Option.ne_none_iff_exists'.mp (fun q => c_73 ((vv_m1' eo_i).mpr q))
          have eb := eo_i q0 hq0
          have eN : gth d (fun r => (lst s.2.1 r).2) (i + 1) = inc q0 (gth d (fun r => (lst s.2.1 r).2) i) := by
            show oinc _ _ = _
            rw [hq0]
            rfl
          rw [hq0, show vv (some q0) = nI q0 from rfl]
          refine z_aload_n dX7_gatherEntries_76 rfl ?_
          refine z_iload dX7_gatherEntries_77 rfl ?_
          refine z_callV1w dX7_gatherEntries_79 kX6_include lX7_128 (by first | assumption | exact And.left (by assumption)) rfl (s_include hse0 h_2 (by omega)) (Nat.le_of_ble_eq_true rfl) (Nat.le_of_ble_eq_true rfl) ⟨Nat.le_of_ble_eq_true rfl, Nat.le_of_ble_eq_true rfl⟩ ?_
          intro V2 hV2
          refine z_incN dX7_gatherEntries_82 rfl rfl ?_
          refine z_goto (tgt := 7) dX7_gatherEntries_85 (by decide) ?_
          refine z_fg 5 ?_
          refine z_fg 6 ?_
          refine z_fg 7 ?_
          first
            | exact ih _ (by omega) (i + 1) V1 rfl (by omega) h_1 (by rw [eN]; exact h_2)
            | exact ih _ (by omega) (i + 1) V2 rfl (by omega) (h_1.trans hV2.1) (by rw [eN]; exact hV2.2)
      · exact absurd c_36 (by omega)

set_option maxHeartbeats 4000000 in
set_option maxRecDepth 100000 in
theorem s_gathN {D : zD} {z0 nx : Nat} {L : zL} {V : zV} {a b e : Nat} {s : St} {d : Df} (hs : sSt L a) (h : ST V a s) (hd : sDf L b) (hD : DF V b d) (hse : sSC L e) (hbe : b + 5 ≤ e ∨ e + 2 ≤ b) (hae : a + 40 ≤ e ∨ e + 2 ≤ a) : Sp D z0 5 0 0 mX7_gatherEntries [.ref a, .ref b, .null, .ref e] L V nx (zq none L nx (fun V' => zEq V V' e (e + 2) ∧ SC V' e (gth d (fun r => (lst s.2.1 r).2) 48))) := by
  have hse0 := hse
  obtain ⟨y1, y2⟩ := hse
  refine Sp.of 4 (by decide) rfl rfl (Nat.le_of_ble_eq_true rfl) ?_
  refine z_aload_n dX7_gatherEntries_0 rfl ?_
  refine z_callV0w dX7_gatherEntries_1 kX6_clearAll lX7_118 (by first | assumption | exact And.left (by assumption)) rfl (s_SCclear hse0) (Nat.le_of_ble_eq_true rfl) (Nat.le_of_ble_eq_true rfl) ⟨Nat.le_of_ble_eq_true rfl, Nat.le_of_ble_eq_true rfl⟩ ?_
  intro V0 hV0
  refine z_iconst (v := nI 0) dX7_gatherEntries_4 rfl ?_
  refine z_istore dX7_gatherEntries_5 (Nat.le_of_ble_eq_true rfl) rfl ?_
  exact lp_gathN hs h hd hD hse0 hbe hae _ 0 V0 rfl (by omega) hV0.1 hV0.2

set_option maxHeartbeats 4000000 in
set_option maxRecDepth 100000 in
theorem lp_gathW {D : zD} {z0 nx : Nat} {L : zL} {V : zV} {a b c e : Nat} {s : St} {d : Df} {t : Tr} (hs : sSt L a) (h : ST V a s) (hd : sDf L b) (hD : DF V b d) (hse : sSC L e) (hbe : b + 5 ≤ e ∨ e + 2 ≤ b) (hae : a + 40 ≤ e ∨ e + 2 ≤ a) (hs2 : sTr L c) (ht : TR V c t) (hce : c + 2 ≤ e ∨ e + 2 ≤ c) : ∀ (fu : Nat) (i : Nat) (V1 : zV), 48 - i = fu → i ≤ 48 → zEq V V1 e (e + 2) → SC V1 e (gth d (wr s.2.1 t.2.2) i) → Z D z0 5 0 0 mX7_gatherEntries 0 0 7 [some (.ref a), some (.ref b), some (.ref c), some (.ref e), some (.int (nI i)), none, none, none] [] L V1 nx (zq none L nx (fun V' => zEq V V' e (e + 2) ∧ SC V' e (gth d (wr s.2.1 t.2.2) 48))) := by
  intro fu
  induction fu using Nat.strongRecOn with
  | ind fu ih =>
    intro i V1 h_fu h_0 h_1 h_2
    have hs0 := hs
    have h0 := h.eq h_1 hae
    have hD1 := hD.eq h_1 hbe
    have hse0 := hse
    obtain ⟨h1, h2, h3, h4, h5, h6, h7⟩ := hs
    have h00 := h0
    obtain ⟨g1, g2, g3, g4⟩ := h00
    have hs20 := hs2
    have ht0 := ht.eq h_1 hce
    have ht1 := ht0
    obtain ⟨p2, p3⟩ := hs2
    obtain ⟨m1, m2, m3, m4, m5, m6⟩ := ht1
    refine z_iload dX7_gatherEntries_7 rfl ?_
    refine z_bipush (v := nI 48) dX7_gatherEntries_9 rfl ?_
    refine z_icmp_geN (tgt := 88) dX7_gatherEntries_11 (by decide) (by omega) (by omega) (fun c_11 => ?_) (fun c_11 => ?_)
    · refine z_return dX7_gatherEntries_88 (Nat.le_of_ble_eq_true rfl) (Nat.le_of_ble_eq_true rfl) rfl ?_
      have e_i : i = 48 := by omega
      subst e_i
      exact ⟨rfl, rfl, rfl, h_1, h_2⟩
    · refine z_aload_n dX7_gatherEntries_14 rfl ?_
      refine z_ifnullR dX7_gatherEntries_15 ?_
      refine z_aload_n dX7_gatherEntries_18 rfl ?_
      refine z_iload dX7_gatherEntries_19 rfl ?_
      refine z_callV1i dX7_gatherEntries_21 kX9_hasWritten lX7_60 (by first | assumption | exact And.left (by assumption)) rfl (s_hasWritten (by assumption) (by assumption) (by omega)) (Nat.le_of_ble_eq_true rfl) (Nat.le_of_ble_eq_true rfl) ⟨Nat.le_of_ble_eq_true rfl, Nat.le_of_ble_eq_true rfl⟩ ?_
      refine z_if_eqB (tgt := 31) dX7_gatherEntries_24 (by decide) (fun c_24 => ?_) (fun c_24 => ?_)
      · have hwn := wr_n (v := s.2.1) c_24
        have bv : ∀ p, wr s.2.1 t.2.2 i = some p → p < 1000000 := by rw [hwn]; exact (g2.lst (r := i) (by omega)).2
        refine z_iconst (v := nI 0) dX7_gatherEntries_31 rfl ?_
        refine z_istore dX7_gatherEntries_32 (Nat.le_of_ble_eq_true rfl) rfl ?_
        refine z_iload dX7_gatherEntries_34 rfl ?_
        refine z_if_eqN (tgt := 49) dX7_gatherEntries_36 (by decide) (by omega) (fun c_36 => ?_) (fun c_36 => ?_)
        · refine z_aload_n dX7_gatherEntries_49 rfl ?_
          refine z_getR dX7_gatherEntries_50 fX7_21 (by first | assumption | exact And.left (by assumption)) rfl ?_
          refine z_iload dX7_gatherEntries_53 rfl ?_
          refine z_callV1i dX7_gatherEntries_55 kX10_latest lX7_56 (by first | assumption | exact And.left (by assumption)) rfl (s_latest (by assumption) (by assumption) (by omega)) (Nat.le_of_ble_eq_true rfl) (Nat.le_of_ble_eq_true rfl) ⟨Nat.le_of_ble_eq_true rfl, Nat.le_of_ble_eq_true rfl⟩ ?_
          rw [← hwn]
          refine z_istore dX7_gatherEntries_58 (Nat.le_of_ble_eq_true rfl) rfl ?_
          refine z_aload_n dX7_gatherEntries_60 rfl ?_
          refine z_iload dX7_gatherEntries_61 rfl ?_
          refine z_iload dX7_gatherEntries_63 rfl ?_
          refine z_callV2i dX7_gatherEntries_65 kX1_entryOf lX7_123 (by first | assumption | exact And.left (by assumption)) rfl (s_entryOf (v := (wr s.2.1 t.2.2) i) hd hD1 bv (by omega)) (Nat.le_of_ble_eq_true rfl) (Nat.le_of_ble_eq_true rfl) ⟨Nat.le_of_ble_eq_true rfl, Nat.le_of_ble_eq_true rfl⟩ ?_
          have eo_i := eo_lt (x := d) (v := (wr s.2.1 t.2.2) i) bv (r := i) (by omega)
          refine z_istore dX7_gatherEntries_68 (Nat.le_of_ble_eq_true rfl) rfl ?_
          refine z_iload dX7_gatherEntries_70 rfl ?_
          refine z_iconst (v := (-1)) dX7_gatherEntries_72 rfl ?_
          refine z_icmp_eq (tgt := 82) dX7_gatherEntries_73 (by decide) (fun c_73 => ?_) (fun c_73 => ?_)
          · have en := (vv_m1' eo_i).mp c_73
            have eN : gth d (wr s.2.1 t.2.2) (i + 1) = gth d (wr s.2.1 t.2.2) i := by
              show oinc _ _ = _
              rw [en]
              rfl
            refine z_incN dX7_gatherEntries_82 rfl rfl ?_
            refine z_goto (tgt := 7) dX7_gatherEntries_85 (by decide) ?_
            refine z_fg 5 ?_
            refine z_fg 6 ?_
            refine z_fg 7 ?_
            first
              | exact ih _ (by omega) (i + 1) V1 rfl (by omega) h_1 (by rw [eN]; exact h_2)
              | exact ih _ (by omega) (i + 1) V2 rfl (by omega) (h_1.trans hV2.1) (by rw [eN]; exact hV2.2)
          · obtain ⟨q0, hq0⟩ := Option.ne_none_iff_exists'.mp (fun q => c_73 ((vv_m1' eo_i).mpr q))
            have eb := eo_i q0 hq0
            have eN : gth d (wr s.2.1 t.2.2) (i + 1) = inc q0 (gth d (wr s.2.1 t.2.2) i) := by
              show oinc _ _ = _
              rw [hq0]
              rfl
            rw [hq0, show vv (some q0) = nI q0 from rfl]
            refine z_aload_n dX7_gatherEntries_76 rfl ?_
            refine z_iload dX7_gatherEntries_77 rfl ?_
            refine z_callV1w dX7_gatherEntries_79 kX6_include lX7_128 (by first | assumption | exact And.left (by assumption)) rfl (s_include hse0 h_2 (by omega)) (Nat.le_of_ble_eq_true rfl) (Nat.le_of_ble_eq_true rfl) ⟨Nat.le_of_ble_eq_true rfl, Nat.le_of_ble_eq_true rfl⟩ ?_
            intro V2 hV2
            refine z_incN dX7_gatherEntries_82 rfl rfl ?_
            refine z_goto (tgt := 7) dX7_gatherEntries_85 (by decide) ?_
            refine z_fg 5 ?_
            refine z_fg 6 ?_
            refine z_fg 7 ?_
            first
              | exact ih _ (by omega) (i + 1) V1 rfl (by omega) h_1 (by rw [eN]; exact h_2)
              | exact ih _ (by omega) (i + 1) V2 rfl (by omega) (h_1.trans hV2.1) (by rw [eN]; exact hV2.2)
        · exact absurd c_36 (by omega)
      · obtain ⟨u, hu⟩ := Option.ne_none_iff_exists'.mp c_24
        have hw : V1 (c + 1) i = vv (wr s.2.1 t.2.2 i) := by rw [m4 i (by omega), hu, wr_y hu] <;> rfl
        have bv : ∀ p, wr s.2.1 t.2.2 i = some p → p < 1000000 := fun p hp => m6 i p (by rw [hu, ← hp, wr_y hu])
        refine z_iconst (v := nI 1) dX7_gatherEntries_27 rfl ?_
        refine z_goto (tgt := 32) dX7_gatherEntries_28 (by decide) ?_
        refine z_istore dX7_gatherEntries_32 (Nat.le_of_ble_eq_true rfl) rfl ?_
        refine z_iload dX7_gatherEntries_34 rfl ?_
        refine z_if_eqN (tgt := 49) dX7_gatherEntries_36 (by decide) (by omega) (fun c_36 => ?_) (fun c_36 => ?_)
        · exact absurd c_36 (by omega)
        · refine z_aload_n dX7_gatherEntries_39 rfl ?_
          refine z_getR dX7_gatherEntries_40 fX7_64 (by first | assumption | exact And.left (by assumption)) rfl ?_
          refine z_iload dX7_gatherEntries_43 rfl ?_
          refine z_ialdN dX7_gatherEntries_45 (by first | assumption | exact And.left (by assumption)) (by omega) (by decide) hw ?_
          refine z_goto (tgt := 58) dX7_gatherEntries_46 (by decide) ?_
          refine z_istore dX7_gatherEntries_58 (Nat.le_of_ble_eq_true rfl) rfl ?_
          refine z_aload_n dX7_gatherEntries_60 rfl ?_
          refine z_iload dX7_gatherEntries_61 rfl ?_
          refine z_iload dX7_gatherEntries_63 rfl ?_
          refine z_callV2i dX7_gatherEntries_65 kX1_entryOf lX7_123 (by first | assumption | exact And.left (by assumption)) rfl (s_entryOf (v := (wr s.2.1 t.2.2) i) hd hD1 bv (by omega)) (Nat.le_of_ble_eq_true rfl) (Nat.le_of_ble_eq_true rfl) ⟨Nat.le_of_ble_eq_true rfl, Nat.le_of_ble_eq_true rfl⟩ ?_
          have eo_i := eo_lt (x := d) (v := (wr s.2.1 t.2.2) i) bv (r := i) (by omega)
          refine z_istore dX7_gatherEntries_68 (Nat.le_of_ble_eq_true rfl) rfl ?_
          refine z_iload dX7_gatherEntries_70 rfl ?_
          refine z_iconst (v := (-1)) dX7_gatherEntries_72 rfl ?_
          refine z_icmp_eq (tgt := 82) dX7_gatherEntries_73 (by decide) (fun c_73 => ?_) (fun c_73 => ?_)
          · have en := (vv_m1' eo_i).mp c_73
            have eN : gth d (wr s.2.1 t.2.2) (i + 1) = gth d (wr s.2.1 t.2.2) i := by
              show oinc _ _ = _
              rw [en]
              rfl
            refine z_incN dX7_gatherEntries_82 rfl rfl ?_
            refine z_goto (tgt := 7) dX7_gatherEntries_85 (by decide) ?_
            refine z_fg 5 ?_
            refine z_fg 6 ?_
            refine z_fg 7 ?_
            first
              | exact ih _ (by omega) (i + 1) V1 rfl (by omega) h_1 (by rw [eN]; exact h_2)
              | exact ih _ (by omega) (i + 1) V2 rfl (by omega) (h_1.trans hV2.1) (by rw [eN]; exact hV2.2)
          · obtain ⟨q0, hq0⟩ := Option.ne_none_iff_exists'.mp (fun q => c_73 ((vv_m1' eo_i).mpr q))
            have eb := eo_i q0 hq0
            have eN : gth d (wr s.2.1 t.2.2) (i + 1) = inc q0 (gth d (wr s.2.1 t.2.2) i) := by
              show oinc _ _ = _
              rw [hq0]
              rfl
            rw [hq0, show vv (some q0) = nI q0 from rfl]
            refine z_aload_n dX7_gatherEntries_76 rfl ?_
            refine z_iload dX7_gatherEntries_77 rfl ?_
            refine z_callV1w dX7_gatherEntries_79 kX6_include lX7_128 (by first | assumption | exact And.left (by assumption)) rfl (s_include hse0 h_2 (by omega)) (Nat.le_of_ble_eq_true rfl) (Nat.le_of_ble_eq_true rfl) ⟨Nat.le_of_ble_eq_true rfl, Nat.le_of_ble_eq_true rfl⟩ ?_
            intro V2 hV2
            refine z_incN dX7_gatherEntries_82 rfl rfl ?_
            refine z_goto (tgt := 7) dX7_gatherEntries_85 (by decide) ?_
            refine z_fg 5 ?_
            refine z_fg 6 ?_
            refine z_fg 7 ?_
            first
              | exact ih _ (by omega) (i + 1) V1 rfl (by omega) h_1 (by rw [eN]; exact h_2)
              | exact ih _ (by omega) (i + 1) V2 rfl (by omega) (h_1.trans hV2.1) (by rw [eN]; exact hV2.2)

set_option maxHeartbeats 4000000 in
set_option maxRecDepth 100000 in
theorem s_gathW {D : zD} {z0 nx : Nat} {L : zL} {V : zV} {a b c e : Nat} {s : St} {d : Df} {t : Tr} (hs : sSt L a) (h : ST V a s) (hd : sDf L b) (hD : DF V b d) (hse : sSC L e) (hbe : b + 5 ≤ e ∨ e + 2 ≤ b) (hae : a + 40 ≤ e ∨ e + 2 ≤ a) (hs2 : sTr L c) (ht : TR V c t) (hce : c + 2 ≤ e ∨ e + 2 ≤ c) : Sp D z0 5 0 0 mX7_gatherEntries [.ref a, .ref b, .ref c, .ref e] L V nx (zq none L nx (fun V' => zEq V V' e (e + 2) ∧ SC V' e (gth d (wr s.2.1 t.2.2) 48))) := by
  have hse0 := hse
  obtain ⟨y1, y2⟩ := hse
  refine Sp.of 4 (by decide) rfl rfl (Nat.le_of_ble_eq_true rfl) ?_
  refine z_aload_n dX7_gatherEntries_0 rfl ?_
  refine z_callV0w dX7_gatherEntries_1 kX6_clearAll lX7_118 (by first | assumption | exact And.left (by assumption)) rfl (s_SCclear hse0) (Nat.le_of_ble_eq_true rfl) (Nat.le_of_ble_eq_true rfl) ⟨Nat.le_of_ble_eq_true rfl, Nat.le_of_ble_eq_true rfl⟩ ?_
  intro V0 hV0
  refine z_iconst (v := nI 0) dX7_gatherEntries_4 rfl ?_
  refine z_istore dX7_gatherEntries_5 (Nat.le_of_ble_eq_true rfl) rfl ?_
  exact lp_gathW hs h hd hD hse0 hbe hae hs2 ht hce _ 0 V0 rfl (by omega) hV0.1 hV0.2

def mkA (s : St) (w : Nat → Option (Option Nat)) (k : Nat) : Prop := (s.2.2.2 k).1.1 = 4 ∧ (s.2.2.2 k).2.1.2.1 = true ∧ tws (gth (s.2.2.2 k).2.1 (wr s.2.1 w) 48)

set_option maxHeartbeats 4000000 in
set_option maxRecDepth 100000 in
theorem lp_mkA {D : zD} {z0 nx : Nat} {L : zL} {V : zV} {a c e : Nat} {s : St} {t : Tr} {l0 : List Nat} (hs : sSt L a) (h : ST V a s) (hs2 : sTr L c) (ht : TR V c t) (hse : sSC L e) (hl : SC V e l0) (hae : a + 40 ≤ e ∨ e + 2 ≤ a) (hce : c + 2 ≤ e ∨ e + 2 ≤ c) : ∀ (fu : Nat) (i : Nat) (V1 : zV), 2 - i = fu → i ≤ 2 → (∀ k, k < i → ¬ mkA s t.2.2 k) → zEq V V1 e (e + 2) → (∃ l, SC V1 e l) → Z D z0 6 0 0 mX7_makesAlike 0 0 2 [some (.ref a), some (.ref c), some (.ref e), some (.int (nI i)), none] [] L V1 nx (zq (some (.int (zb (∃ k, k < 2 ∧ mkA s t.2.2 k)))) L nx (fun V' => zEq V V' e (e + 2) ∧ ∃ l, SC V' e l)) := by
  intro fu
  induction fu using Nat.strongRecOn with
  | ind fu ih =>
    intro i V1 h_fu h_0 h_1 h_2 h_3
    have hs0 := hs
    have h0 := h.eq h_2 hae
    have h00 := h0
    obtain ⟨h1, h2, h3, h4, h5, h6, h7⟩ := hs
    obtain ⟨g1, g2, g3, g4⟩ := h00
    have ht0 := ht.eq h_2 hce
    have hse0 := hse
    obtain ⟨y1, y2⟩ := hse
    obtain ⟨l1, hl1⟩ := h_3
    refine z_iload_n dX7_makesAlike_2 rfl ?_
    refine z_iconst (v := nI 2) dX7_makesAlike_3 rfl ?_
    refine z_icmp_geN (tgt := 64) dX7_makesAlike_4 (by decide) (by omega) (by omega) (fun c_4 => ?_) (fun c_4 => ?_)
    · refine z_iconst (v := nI 0) dX7_makesAlike_64 rfl ?_
      refine z_zreturn dX7_makesAlike_65 (Nat.le_of_ble_eq_true rfl) (Nat.le_of_ble_eq_true rfl) rfl (by first | exact Or.inl rfl | exact Or.inr rfl | exact zb_01 _ | assumption) ?_
      exact ⟨by rw [zb_f (fun q => by obtain ⟨k, k1, k2⟩ := q; exact h_1 k (by omega) k2)] <;> rfl, rfl, rfl, h_2, _, hl1⟩
    · have q1 := i2_at a i (by omega)
      have p1 := h7 i (by omega)
      have p2 := p1.1
      have x0 := g4 i (by omega)
      obtain ⟨⟨⟨x1, x2, x3, x4, x5⟩, x6, x7, x8, x9, x10⟩, xd, xe, xn, xl⟩ := g4 i (by omega)
      obtain ⟨w1, w2, w3, w4, w5⟩ := p1
      have w20 := w2
      obtain ⟨w6, w7, w8⟩ := w2
      have xu := xd.2.1
      refine z_aload_n dX7_makesAlike_7 rfl ?_
      refine z_getR dX7_makesAlike_8 fX7_33 (by first | assumption | exact And.left (by assumption)) rfl ?_
      refine z_iload_n dX7_makesAlike_11 rfl ?_
      refine z_aaldN dX7_makesAlike_12 (by first | assumption | exact And.left (by assumption)) (fun _ => rfl) (by exact Nat.le_of_ble_eq_true rfl) (by assumption) ?_
      refine z_astore dX7_makesAlike_13 (Nat.le_of_ble_eq_true rfl) rfl ?_
      refine z_aload dX7_makesAlike_15 rfl ?_
      refine z_getIe dX7_makesAlike_17 fX7_111 (by first | assumption | exact And.left (by assumption)) rfl (by first | assumption | exact zup_s _ _ _ _ | rfl) ?_
      refine z_iconst (v := nI 4) dX7_makesAlike_20 rfl ?_
      refine z_icmp_neN (tgt := 58) dX7_makesAlike_21 (by decide) (by omega) (by omega) (fun c_21 => ?_) (fun c_21 => ?_)
      · refine z_incN dX7_makesAlike_58 rfl rfl ?_
        refine z_goto (tgt := 2) dX7_makesAlike_61 (by decide) ?_
        refine z_fg 4 ?_
        first
          | exact ih _ (by omega) (i + 1) V1 rfl (by omega) (lt_s h_1 (fun q => c_21 q.1)) h_2 ⟨_, hl1⟩
          | exact ih _ (by omega) (i + 1) V1 rfl (by omega) (lt_s h_1 (fun q => c_32 q.2.1)) h_2 ⟨_, hl1⟩
          | exact ih _ (by omega) (i + 1) V2 rfl (by omega) (lt_s h_1 (fun q => c_53 q.2.2)) (h_2.trans hV2.1) ⟨_, hV2.2⟩
      · refine z_aload dX7_makesAlike_24 rfl ?_
        refine z_getR dX7_makesAlike_26 fX7_138 (by first | assumption | exact And.left (by assumption)) rfl ?_
        refine z_getIe dX7_makesAlike_29 fX7_142 (by first | assumption | exact And.left (by assumption)) rfl (by first | assumption | exact zup_s _ _ _ _ | rfl) ?_
        refine z_if_neB (tgt := 38) dX7_makesAlike_32 (by decide) (fun c_32 => ?_) (fun c_32 => ?_)
        · refine z_aload_n dX7_makesAlike_38 rfl ?_
          refine z_aload dX7_makesAlike_39 rfl ?_
          refine z_getR dX7_makesAlike_41 fX7_138 (by first | assumption | exact And.left (by assumption)) rfl ?_
          refine z_aload_n dX7_makesAlike_44 rfl ?_
          refine z_aload_n dX7_makesAlike_45 rfl ?_
          refine z_callV3w dX7_makesAlike_46 kX7_gatherEntries lX7_145 (by first | assumption | exact And.left (by assumption)) rfl (s_gathW hs0 h0 w20 xd hse0 (by omega) hae hs2 ht0 hce) (Nat.le_of_ble_eq_true rfl) (Nat.le_of_ble_eq_true rfl) ⟨Nat.le_of_ble_eq_true rfl, Nat.le_of_ble_eq_true rfl⟩ ?_
          intro V2 hV2
          refine z_aload_n dX7_makesAlike_49 rfl ?_
          refine z_callV0i dX7_makesAlike_50 kX6_hasTwins lX7_149 (by first | assumption | exact And.left (by assumption)) rfl (s_twins hse0 hV2.2) (Nat.le_of_ble_eq_true rfl) (Nat.le_of_ble_eq_true rfl) ⟨Nat.le_of_ble_eq_true rfl, Nat.le_of_ble_eq_true rfl⟩ ?_
          refine z_if_eqB (tgt := 58) dX7_makesAlike_53 (by decide) (fun c_53 => ?_) (fun c_53 => ?_)
          · refine z_incN dX7_makesAlike_58 rfl rfl ?_
            refine z_goto (tgt := 2) dX7_makesAlike_61 (by decide) ?_
            refine z_fg 4 ?_
            first
              | exact ih _ (by omega) (i + 1) V1 rfl (by omega) (lt_s h_1 (fun q => c_21 q.1)) h_2 ⟨_, hl1⟩
              | exact ih _ (by omega) (i + 1) V1 rfl (by omega) (lt_s h_1 (fun q => c_32 q.2.1)) h_2 ⟨_, hl1⟩
              | exact ih _ (by omega) (i + 1) V2 rfl (by omega) (lt_s h_1 (fun q => c_53 q.2.2)) (h_2.trans hV2.1) ⟨_, hV2.2⟩
          · refine z_iconst (v := nI 1) dX7_makesAlike_56 rfl ?_
            refine z_zreturn dX7_makesAlike_57 (Nat.le_of_ble_eq_true rfl) (Nat.le_of_ble_eq_true rfl) rfl (by first | exact Or.inl rfl | exact Or.inr rfl | exact zb_01 _ | assumption) ?_
            exact ⟨by rw [zb_t ⟨i, by omega, c_21, c_32, c_53⟩] <;> rfl, rfl, rfl, h_2.trans hV2.1, _, hV2.2⟩
        · refine z_goto (tgt := 58) dX7_makesAlike_35 (by decide) ?_
          refine z_incN dX7_makesAlike_58 rfl rfl ?_
          refine z_goto (tgt := 2) dX7_makesAlike_61 (by decide) ?_
          refine z_fg 4 ?_
          first
            | exact ih _ (by omega) (i + 1) V1 rfl (by omega) (lt_s h_1 (fun q => c_21 q.1)) h_2 ⟨_, hl1⟩
            | exact ih _ (by omega) (i + 1) V1 rfl (by omega) (lt_s h_1 (fun q => c_32 q.2.1)) h_2 ⟨_, hl1⟩
            | exact ih _ (by omega) (i + 1) V2 rfl (by omega) (lt_s h_1 (fun q => c_53 q.2.2)) (h_2.trans hV2.1) ⟨_, hV2.2⟩

set_option maxHeartbeats 4000000 in
set_option maxRecDepth 100000 in
theorem s_mkA {D : zD} {z0 nx : Nat} {L : zL} {V : zV} {a c e : Nat} {s : St} {t : Tr} {l0 : List Nat} (hs : sSt L a) (h : ST V a s) (hs2 : sTr L c) (ht : TR V c t) (hse : sSC L e) (hl : SC V e l0) (hae : a + 40 ≤ e ∨ e + 2 ≤ a) (hce : c + 2 ≤ e ∨ e + 2 ≤ c) : Sp D z0 6 0 0 mX7_makesAlike [.ref a, .ref c, .ref e] L V nx (zq (some (.int (zb (∃ k, k < 2 ∧ mkA s t.2.2 k)))) L nx (fun V' => zEq V V' e (e + 2) ∧ ∃ l, SC V' e l)) := by
  refine Sp.of 2 (by decide) rfl rfl (Nat.le_of_ble_eq_true rfl) ?_
  refine z_iconst (v := nI 0) dX7_makesAlike_0 rfl ?_
  refine z_istore_n dX7_makesAlike_1 (Nat.le_of_ble_eq_true rfl) rfl ?_
  exact lp_mkA hs h hs2 ht hse hl hae hce _ 0 V rfl (by omega) (fun k hk => absurd hk (by omega)) zEq.rf ⟨_, hl⟩

/-- what hinders a commit -/
noncomputable def hnd (s : St) (t : Tr) : Nat :=
  @ite _ (cn (fun r => t.2.2 r ≠ none) 48 = 0) (Classical.propDecidable _) 0 (@ite _ (∃ k, k < 2 ∧ (s.2.2.2 k).1.1 = 3) (Classical.propDecidable _) 2 (@ite _ (∃ k, k < 48 ∧ (t.2.2 k ≠ none ∧ t.2.1 < (lst s.2.1 k).1)) (Classical.propDecidable _) 1 (@ite _ (∃ k, k < 48 ∧ (t.2.2 k ≠ none ∧ 8 ≤ (s.2.1 k).length)) (Classical.propDecidable _) 4 (@ite _ (∃ k, k < 2 ∧ mkA s t.2.2 k) (Classical.propDecidable _) 3 0))))

set_option maxHeartbeats 4000000 in
set_option maxRecDepth 100000 in
theorem s_hnd {D : zD} {z0 nx : Nat} {L : zL} {V : zV} {a c e : Nat} {s : St} {t : Tr} {l0 : List Nat} (hs : sSt L a) (h : ST V a s) (hs2 : sTr L c) (ht : TR V c t) (hse : sSC L e) (hl : SC V e l0) (hae : a + 40 ≤ e ∨ e + 2 ≤ a) (hce : c + 2 ≤ e ∨ e + 2 ≤ c) : Sp D z0 7 0 0 mX7_hindrance [.ref a, .ref c, .ref e] L V nx (zq (some (.int (nI (hnd s t)))) L nx (fun V' => zEq V V' e (e + 2) ∧ ∃ l, SC V' e l)) := by
  have hs0 := hs
  have h0 := h
  obtain ⟨h1, h2, h3, h4, h5, h6, h7⟩ := hs
  obtain ⟨g1, g2, g3, g4⟩ := h
  have hs20 := hs2
  have ht0 := ht
  obtain ⟨p2, p3⟩ := hs2
  obtain ⟨m1, m2, m3, m4, m5, m6⟩ := ht
  have hcl := cn_le (fun r => t.2.2 r ≠ none) 48
  refine Sp.of 0 (by decide) rfl rfl (Nat.le_of_ble_eq_true rfl) ?_
  refine z_aload_n dX7_hindrance_0 rfl ?_
  refine z_getIe dX7_hindrance_1 fX7_74 (by first | assumption | exact And.left (by assumption)) rfl (by first | assumption | exact zup_s _ _ _ _ | rfl) ?_
  refine z_if_neN (tgt := 9) dX7_hindrance_4 (by decide) (by omega) (fun c_4 => ?_) (fun c_4 => ?_)
  · refine z_aload_n dX7_hindrance_9 rfl ?_
    refine z_callV0i dX7_hindrance_10 kX7_hasLastRound lX7_77 (by first | assumption | exact And.left (by assumption)) rfl (s_lastRound hs0 h0) (Nat.le_of_ble_eq_true rfl) (Nat.le_of_ble_eq_true rfl) ⟨Nat.le_of_ble_eq_true rfl, Nat.le_of_ble_eq_true rfl⟩ ?_
    refine z_if_eqB (tgt := 18) dX7_hindrance_13 (by decide) (fun c_13 => ?_) (fun c_13 => ?_)
    · refine z_aload_n dX7_hindrance_18 rfl ?_
      refine z_aload_n dX7_hindrance_19 rfl ?_
      refine z_callV1i dX7_hindrance_20 kX7_hasConflict lX7_81 (by first | assumption | exact And.left (by assumption)) rfl (s_conflict hs0 h0 hs20 ht0) (Nat.le_of_ble_eq_true rfl) (Nat.le_of_ble_eq_true rfl) ⟨Nat.le_of_ble_eq_true rfl, Nat.le_of_ble_eq_true rfl⟩ ?_
      refine z_if_eqB (tgt := 28) dX7_hindrance_23 (by decide) (fun c_23 => ?_) (fun c_23 => ?_)
      · refine z_aload_n dX7_hindrance_28 rfl ?_
        refine z_aload_n dX7_hindrance_29 rfl ?_
        refine z_callV1i dX7_hindrance_30 kX7_hasFullRow lX7_85 (by first | assumption | exact And.left (by assumption)) rfl (s_fullRow hs0 h0 hs20 ht0) (Nat.le_of_ble_eq_true rfl) (Nat.le_of_ble_eq_true rfl) ⟨Nat.le_of_ble_eq_true rfl, Nat.le_of_ble_eq_true rfl⟩ ?_
        refine z_if_eqB (tgt := 38) dX7_hindrance_33 (by decide) (fun c_33 => ?_) (fun c_33 => ?_)
        · refine z_aload_n dX7_hindrance_38 rfl ?_
          refine z_aload_n dX7_hindrance_39 rfl ?_
          refine z_aload_n dX7_hindrance_40 rfl ?_
          refine z_callV2q dX7_hindrance_41 kX7_makesAlike lX7_88 (by first | assumption | exact And.left (by assumption)) rfl (s_mkA hs0 h0 hs20 ht0 hse hl hae hce) (Nat.le_of_ble_eq_true rfl) (Nat.le_of_ble_eq_true rfl) ⟨Nat.le_of_ble_eq_true rfl, Nat.le_of_ble_eq_true rfl⟩ ?_
          intro V1 hV1
          refine z_if_eqB (tgt := 51) dX7_hindrance_44 (by decide) (fun c_44 => ?_) (fun c_44 => ?_)
          · refine z_iconst (v := nI 0) dX7_hindrance_51 rfl ?_
            refine z_ireturn dX7_hindrance_52 (Nat.le_of_ble_eq_true rfl) (Nat.le_of_ble_eq_true rfl) rfl ?_
            exact ⟨by first | rw [hnd, if_neg (by omega), if_neg c_13, if_neg c_23, if_neg c_33, if_pos c_44] | rw [hnd, if_neg (by omega), if_neg c_13, if_neg c_23, if_neg c_33, if_neg c_44], rfl, rfl, hV1⟩
          · refine z_iconst (v := nI 3) dX7_hindrance_47 rfl ?_
            refine z_goto (tgt := 52) dX7_hindrance_48 (by decide) ?_
            refine z_ireturn dX7_hindrance_52 (Nat.le_of_ble_eq_true rfl) (Nat.le_of_ble_eq_true rfl) rfl ?_
            exact ⟨by first | rw [hnd, if_neg (by omega), if_neg c_13, if_neg c_23, if_neg c_33, if_pos c_44] | rw [hnd, if_neg (by omega), if_neg c_13, if_neg c_23, if_neg c_33, if_neg c_44], rfl, rfl, hV1⟩
        · refine z_iconst (v := nI 4) dX7_hindrance_36 rfl ?_
          refine z_ireturn dX7_hindrance_37 (Nat.le_of_ble_eq_true rfl) (Nat.le_of_ble_eq_true rfl) rfl ?_
          exact ⟨by rw [hnd, if_neg (by omega), if_neg c_13, if_neg c_23, if_pos c_33], rfl, rfl, zEq.rf, _, hl⟩
      · refine z_iconst (v := nI 1) dX7_hindrance_26 rfl ?_
        refine z_ireturn dX7_hindrance_27 (Nat.le_of_ble_eq_true rfl) (Nat.le_of_ble_eq_true rfl) rfl ?_
        exact ⟨by rw [hnd, if_neg (by omega), if_neg c_13, if_pos c_23], rfl, rfl, zEq.rf, _, hl⟩
    · refine z_iconst (v := nI 2) dX7_hindrance_16 rfl ?_
      refine z_ireturn dX7_hindrance_17 (Nat.le_of_ble_eq_true rfl) (Nat.le_of_ble_eq_true rfl) rfl ?_
      exact ⟨by rw [hnd, if_neg (by omega), if_pos c_13], rfl, rfl, zEq.rf, _, hl⟩
  · refine z_iconst (v := nI 0) dX7_hindrance_7 rfl ?_
    refine z_ireturn dX7_hindrance_8 (Nat.le_of_ble_eq_true rfl) (Nat.le_of_ble_eq_true rfl) rfl ?_
    exact ⟨by rw [hnd, if_pos (by omega)], rfl, rfl, zEq.rf, _, hl⟩

def vset (v : Vs) (w : Nat → Option (Option Nat)) (sq i : Nat) : Vs := fun q => if q < i then (match w q with | some x => v q ++ [(sq, x)] | none => v q) else v q
theorem vset_y {v : Vs} {w : Nat → Option (Option Nat)} {sq i : Nat} {x : Option Nat} (h : w i = some x) : vapp (vset v w sq i) i sq x = vset v w sq (i + 1) := by
  funext q
  simp only [vapp, vset]
  by_cases e : q = i
  · subst e; simp [h]
  · have : (q < i + 1) ↔ q < i := by omega
    simp [e, this]
theorem vset_n {v : Vs} {w : Nat → Option (Option Nat)} {sq i : Nat} (h : ¬ w i ≠ none) : vset v w sq i = vset v w sq (i + 1) := by
  funext q
  simp only [vset]
  by_cases e : q = i
  · subst e; simp [show w q = none from Classical.byContradiction h]
  · have : (q < i + 1) ↔ q < i := by omega
    simp [this]
theorem vset_0 (v : Vs) (w : Nat → Option (Option Nat)) (sq : Nat) : vset v w sq 0 = v := by
  funext q
  simp [vset]
theorem vset_i (v : Vs) (w : Nat → Option (Option Nat)) (sq i : Nat) : vset v w sq i i = v i := by simp [vset]
noncomputable def folI (s : St) (w : Nat → Option (Option Nat)) (i : Nat) : Nat → Ix := fun q => if q < i then xFol s.2.1 w (s.2.2.2 q) 48 else s.2.2.2 q
theorem folI_s {V : zV} {a i : Nat} {s : St} {w : Nat → Option (Option Nat)} (h : ST V a (s.1, s.2.1, s.2.2.1, up1 (folI s w i) i (xFol s.2.1 w (folI s w i i) 48))) : ST V a (s.1, s.2.1, s.2.2.1, folI s w (i + 1)) := by
  refine h.cg rfl (fun _ _ => rfl) (fun _ _ => rfl) (fun t ht => ?_)
  simp only [folI, up1]
  by_cases e : t = i
  · subst e; simp
  · have : (t < i + 1) ↔ t < i := by omega
    simp [e, this]
noncomputable def stl (s : St) (t : Nat) : St := @ite _ (cn (fun r => (s.2.2.1 t).2.2 r ≠ none) 48 = 0) (Classical.propDecidable _) (s.1, s.2.1, up1 s.2.2.1 t (false, 0, fun _ => none), s.2.2.2) ((s.1.1 + 1, s.1.2), vset s.2.1 (s.2.2.1 t).2.2 (s.1.1 + 1) 48, up1 s.2.2.1 t (false, 0, fun _ => none), folI s (s.2.2.1 t).2.2 2)

set_option maxHeartbeats 4000000 in
set_option maxRecDepth 100000 in
theorem lp_settleR {D : zD} {z0 nx : Nat} {L : zL} {V : zV} {a t : Nat} {s : St} (hs : sSt L a) (ht4 : t < 4) (hf : ∀ r, r < 48 → (s.2.2.1 t).2.2 r ≠ none → (s.2.1 r).length < 8) : ∀ (fu : Nat) (i : Nat) (V1 : zV), 48 - i = fu → i ≤ 48 → zEq V V1 a (a + 40) → ST V1 a (s.1, vset s.2.1 (s.2.2.1 t).2.2 s.1.1 i, s.2.2.1, s.2.2.2) → Z D z0 7 0 0 mX7_settle 0 0 46 [some (.ref a), some (.ref (a + 8 + 2 * t)), some (.int (nI i))] [] L V1 nx (zq none L nx (fun V' => zEq V V' a (a + 40) ∧ ST V' a ((s.1, vset s.2.1 (s.2.2.1 t).2.2 s.1.1 48, up1 s.2.2.1 t (false, 0, fun _ => none), s.2.2.2)))) := by
  intro fu
  induction fu using Nat.strongRecOn with
  | ind fu ih =>
    intro i V1 h_fu h_0 h_1 h_2
    have hs0 := hs
    obtain ⟨h1, h2, h3, h4, h5, h6, h7⟩ := hs
    have h00 : STn V1 a s.1 ∧ VE V1 (a + 1) (vset s.2.1 (s.2.2.1 t).2.2 s.1.1 i) ∧ (∀ t, t < 4 → TR V1 (a + 8 + 2 * t) (s.2.2.1 t)) ∧ ∀ j, j < 2 → IX V1 (a + 16 + 12 * j) (s.2.2.2 j) := h_2
    obtain ⟨g1, g2, g3, g4⟩ := h00
    have p1 := h6 t ht4
    obtain ⟨p2, p3⟩ := h6 t ht4
    have m0 := g3 t ht4
    have m00 := m0
    obtain ⟨m1, m2, m3, m4, m5, m6⟩ := m00
    refine z_iload_n dX7_settle_46 rfl ?_
    refine z_bipush (v := nI 48) dX7_settle_47 rfl ?_
    refine z_icmp_geN (tgt := 84) dX7_settle_49 (by decide) (by omega) (by omega) (fun c_49 => ?_) (fun c_49 => ?_)
    · refine z_aload_n dX7_settle_84 rfl ?_
      refine z_callV0w dX7_settle_85 kX9_end lX7_100 (by first | assumption | exact And.left (by assumption)) rfl (s_end p1) (Nat.le_of_ble_eq_true rfl) (Nat.le_of_ble_eq_true rfl) ⟨Nat.le_of_ble_eq_true rfl, Nat.le_of_ble_eq_true rfl⟩ ?_
      intro V2 hV2
      refine z_return dX7_settle_88 (Nat.le_of_ble_eq_true rfl) (Nat.le_of_ble_eq_true rfl) rfl ?_
      have e_i : i = 48 := by omega
      subst e_i
      exact ⟨rfl, rfl, rfl, h_1.trans (hV2.1.wide (by omega) (by omega)), ST_tr h_2 ht4 hV2.1 hV2.2⟩
    · refine z_aload_n dX7_settle_52 rfl ?_
      refine z_iload_n dX7_settle_53 rfl ?_
      refine z_callV1i dX7_settle_54 kX9_hasWritten lX7_60 (by first | assumption | exact And.left (by assumption)) rfl (s_hasWritten (by assumption) (by assumption) (by omega)) (Nat.le_of_ble_eq_true rfl) (Nat.le_of_ble_eq_true rfl) ⟨Nat.le_of_ble_eq_true rfl, Nat.le_of_ble_eq_true rfl⟩ ?_
      refine z_if_eqB (tgt := 78) dX7_settle_57 (by decide) (fun c_57 => ?_) (fun c_57 => ?_)
      · refine z_incN dX7_settle_78 rfl rfl ?_
        refine z_goto (tgt := 46) dX7_settle_81 (by decide) ?_
        first
          | exact ih _ (by omega) (i + 1) V2 rfl (by omega) (h_1.trans (hV2.1.wide (by omega) (by omega))) (by rw [← vset_y hu]; have hz9 := ST_ve h_2 (hV2.1.wide (by omega) (by omega)) hV2.2; exact hz9)
          | exact ih _ (by omega) (i + 1) V1 rfl (by omega) h_1 (by rw [← vset_n c_57]; exact h_2)
      · obtain ⟨u, hu⟩ := Option.ne_none_iff_exists'.mp c_57
        have hw := m4 i (by omega)
        rw [hu] at hw
        have hlen := hf i (by omega) c_57
        refine z_aload_n dX7_settle_60 rfl ?_
        refine z_getR dX7_settle_61 fX7_21 (by first | assumption | exact And.left (by assumption)) rfl ?_
        refine z_iload_n dX7_settle_64 rfl ?_
        have q1 := g1.1
        have q2 := g1.2.2.2.1
        refine z_aload_n dX7_settle_65 rfl ?_
        refine z_getIe dX7_settle_66 fX7_43 (by first | assumption | exact And.left (by assumption)) rfl (by first | assumption | exact zup_s _ _ _ _ | rfl) ?_
        refine z_aload_n dX7_settle_69 rfl ?_
        refine z_getR dX7_settle_70 fX7_64 (by first | assumption | exact And.left (by assumption)) rfl ?_
        refine z_iload_n dX7_settle_73 rfl ?_
        refine z_ialdN dX7_settle_74 (by first | assumption | exact And.left (by assumption)) (by omega) (by decide) hw ?_
        refine z_callV3w dX7_settle_75 kX10_append lX7_96 (by first | assumption | exact And.left (by assumption)) rfl (s_VEapp (x := u) h2 g2 (by omega) (by rw [vset_i]; exact hlen) (by omega) (fun p hp => m6 i p (by rw [hu, hp]))) (Nat.le_of_ble_eq_true rfl) (Nat.le_of_ble_eq_true rfl) ⟨Nat.le_of_ble_eq_true rfl, Nat.le_of_ble_eq_true rfl⟩ ?_
        intro V2 hV2
        refine z_incN dX7_settle_78 rfl rfl ?_
        refine z_goto (tgt := 46) dX7_settle_81 (by decide) ?_
        first
          | exact ih _ (by omega) (i + 1) V2 rfl (by omega) (h_1.trans (hV2.1.wide (by omega) (by omega))) (by rw [← vset_y hu]; have hz9 := ST_ve h_2 (hV2.1.wide (by omega) (by omega)) hV2.2; exact hz9)
          | exact ih _ (by omega) (i + 1) V1 rfl (by omega) h_1 (by rw [← vset_n c_57]; exact h_2)

set_option maxHeartbeats 4000000 in
set_option maxRecDepth 100000 in
theorem lp_settleI {D : zD} {z0 nx : Nat} {L : zL} {V : zV} {a t : Nat} {s : St} (hs : sSt L a) (ht4 : t < 4) (hq : s.1.1 < 899999) (hf : ∀ r, r < 48 → (s.2.2.1 t).2.2 r ≠ none → (s.2.1 r).length < 8) : ∀ (fu : Nat) (i : Nat) (V1 : zV), 2 - i = fu → i ≤ 2 → zEq V V1 a (a + 40) → ST V1 a (s.1, s.2.1, s.2.2.1, folI s (s.2.2.1 t).2.2 i) → Z D z0 7 0 0 mX7_settle 0 0 9 [some (.ref a), some (.ref (a + 8 + 2 * t)), some (.int (nI i))] [] L V1 nx (zq none L nx (fun V' => zEq V V' a (a + 40) ∧ ST V' a (((s.1.1 + 1, s.1.2), vset s.2.1 (s.2.2.1 t).2.2 (s.1.1 + 1) 48, up1 s.2.2.1 t (false, 0, fun _ => none), folI s (s.2.2.1 t).2.2 2)))) := by
  intro fu
  induction fu using Nat.strongRecOn with
  | ind fu ih =>
    intro i V1 h_fu h_0 h_1 h_2
    have hs0 := hs
    obtain ⟨h1, h2, h3, h4, h5, h6, h7⟩ := hs
    have h00 : STn V1 a s.1 ∧ VE V1 (a + 1) (s.2.1) ∧ (∀ t, t < 4 → TR V1 (a + 8 + 2 * t) (s.2.2.1 t)) ∧ ∀ j, j < 2 → IX V1 (a + 16 + 12 * j) (folI s (s.2.2.1 t).2.2 i j) := h_2
    obtain ⟨g1, g2, g3, g4⟩ := h00
    have p1 := h6 t ht4
    obtain ⟨p2, p3⟩ := h6 t ht4
    have m0 := g3 t ht4
    have m00 := m0
    obtain ⟨m1, m2, m3, m4, m5, m6⟩ := m00
    refine z_iload_n dX7_settle_9 rfl ?_
    refine z_iconst (v := nI 2) dX7_settle_10 rfl ?_
    refine z_icmp_geN (tgt := 34) dX7_settle_11 (by decide) (by omega) (by omega) (fun c_11 => ?_) (fun c_11 => ?_)
    · refine z_aload_n dX7_settle_34 rfl ?_
      refine z_dup dX7_settle_35 rfl ?_
      have q1 := g1.1
      have q2 := g1
      refine z_getIe dX7_settle_36 fX7_43 (by first | assumption | exact And.left (by assumption)) rfl (by first | assumption | exact zup_s _ _ _ _ | rfl) ?_
      refine z_iconst (v := nI 1) dX7_settle_39 rfl ?_
      refine z_addN dX7_settle_40 ?_
      refine z_putI dX7_settle_41 fX7_43 (by first | assumption | exact And.left (by assumption)) rfl ?_
      refine z_iconst (v := nI 0) dX7_settle_44 rfl ?_
      refine z_istore_n dX7_settle_45 (Nat.le_of_ble_eq_true rfl) rfl ?_
      have e_i : i = 2 := by omega
      subst e_i
      have z1 : zEq V1 (zup V1 a 0 (nI (s.1.1 + 1))) a (a + 1) := zEq.rf.up (by omega) (by omega)
      have z2 := ST_n h_2 z1 (n := (s.1.1 + 1, s.1.2)) ⟨by simp [zup], by simp [zup]; exact q2.2.1, by simp [zup]; exact q2.2.2.1, by show s.1.1 + 1 < _; omega, q2.2.2.2.2⟩
      have z3 := (lp_settleR (D := D) (z0 := z0) (nx := nx) (L := L) (V := V) (a := a) (t := t) (s := ((s.1.1 + 1, s.1.2), s.2.1, s.2.2.1, folI s (s.2.2.1 t).2.2 2)) hs0 ht4 hf _ 0 _ rfl (by omega) (h_1.trans (z1.wide (by omega) (by omega))) (by rw [vset_0]; exact z2))
      exact z3
    · have q1 := i2_at a i (by omega)
      have z1 := h7 i (by omega)
      refine z_aload_n dX7_settle_14 rfl ?_
      refine z_getR dX7_settle_15 fX7_33 (by first | assumption | exact And.left (by assumption)) rfl ?_
      refine z_iload_n dX7_settle_18 rfl ?_
      refine z_aaldN dX7_settle_19 (by first | assumption | exact And.left (by assumption)) (fun _ => rfl) (by exact Nat.le_of_ble_eq_true rfl) (by assumption) ?_
      refine z_aload_n dX7_settle_20 rfl ?_
      refine z_getR dX7_settle_21 fX7_21 (by first | assumption | exact And.left (by assumption)) rfl ?_
      refine z_aload_n dX7_settle_24 rfl ?_
      refine z_callV2w dX7_settle_25 kX3_follow lX7_92 (by first | assumption | exact And.left (by assumption)) rfl (s_follow z1 (g4 i (by omega)) h2 g2 p1 m0 (by omega) (by omega)) (Nat.le_of_ble_eq_true rfl) (Nat.le_of_ble_eq_true rfl) ⟨Nat.le_of_ble_eq_true rfl, Nat.le_of_ble_eq_true rfl⟩ ?_
      intro V2 hV2
      refine z_incN dX7_settle_28 rfl rfl ?_
      refine z_goto (tgt := 9) dX7_settle_31 (by decide) ?_
      exact ih _ (by omega) (i + 1) V2 rfl (by omega) (h_1.trans (hV2.1.wide (by omega) (by omega))) (folI_s (ST_ix h_2 (by omega) hV2.1 hV2.2))

set_option maxHeartbeats 4000000 in
set_option maxRecDepth 100000 in
theorem s_settle {D : zD} {z0 nx : Nat} {L : zL} {V : zV} {a t : Nat} {s : St} (hs : sSt L a) (h : ST V a s) (ht4 : t < 4) (hq : s.1.1 < 899999) (hf : ∀ r, r < 48 → (s.2.2.1 t).2.2 r ≠ none → (s.2.1 r).length < 8) : Sp D z0 7 0 0 mX7_settle [.ref a, .ref (a + 8 + 2 * t)] L V nx (zq none L nx (fun V' => zEq V V' a (a + 40) ∧ ST V' a (stl s t))) := by
  have hs0 := hs
  have h0 := h
  obtain ⟨h1, h2, h3, h4, h5, h6, h7⟩ := hs
  obtain ⟨g1, g2, g3, g4⟩ := h
  have p1 := h6 t ht4
  obtain ⟨p2, p3⟩ := h6 t ht4
  have m00 := g3 t ht4
  obtain ⟨m1, m2, m3, m4, m5, m6⟩ := m00
  have hcl := cn_le (fun r => (s.2.2.1 t).2.2 r ≠ none) 48
  refine Sp.of 1 (by decide) rfl rfl (Nat.le_of_ble_eq_true rfl) ?_
  refine z_aload_n dX7_settle_0 rfl ?_
  refine z_getIe dX7_settle_1 fX7_74 (by first | assumption | exact And.left (by assumption)) rfl (by first | assumption | exact zup_s _ _ _ _ | rfl) ?_
  refine z_if_leN (tgt := 84) dX7_settle_4 (by decide) (by omega) (fun c_4 => ?_) (fun c_4 => ?_)
  · refine z_aload_n dX7_settle_84 rfl ?_
    refine z_callV0w dX7_settle_85 kX9_end lX7_100 (by first | assumption | exact And.left (by assumption)) rfl (s_end p1) (Nat.le_of_ble_eq_true rfl) (Nat.le_of_ble_eq_true rfl) ⟨Nat.le_of_ble_eq_true rfl, Nat.le_of_ble_eq_true rfl⟩ ?_
    intro V2 hV2
    refine z_return dX7_settle_88 (Nat.le_of_ble_eq_true rfl) (Nat.le_of_ble_eq_true rfl) rfl ?_
    exact ⟨rfl, rfl, rfl, hV2.1.wide (by omega) (by omega), by rw [stl, if_pos (by omega)]; exact ST_tr h0 ht4 hV2.1 hV2.2⟩
  · refine z_iconst (v := nI 0) dX7_settle_7 rfl ?_
    refine z_istore_n dX7_settle_8 (Nat.le_of_ble_eq_true rfl) rfl ?_
    rw [stl, if_neg (by omega)]
    exact lp_settleI hs0 ht4 hq hf _ 0 V rfl (by omega) zEq.rf (h0.cg rfl (fun _ _ => rfl) (fun _ _ => rfl) (fun i hi => by simp [folI]))

def tsn (s : St) : Nat → List Nat
  | 0 => [s.1.1]
  | i + 1 => if (s.2.2.1 i).1 then tsn s i ++ [(s.2.2.1 i).2.1] else tsn s i
def isn (s : St) : Nat → List Nat
  | 0 => tsn s 4
  | i + 1 => if (s.2.2.2 i).1.1 = 1 then isn s i ++ [(s.2.2.2 i).1.2.1] else isn s i
theorem tsn_len (s : St) : ∀ i, (tsn s i).length ≤ i + 1
  | 0 => by simp [tsn]
  | i + 1 => by
    have := tsn_len s i
    unfold tsn
    split
    · simp; omega
    · omega
theorem isn_len (s : St) : ∀ i, (isn s i).length ≤ i + 5
  | 0 => tsn_len s 4
  | i + 1 => by
    have := isn_len s i
    unfold isn
    split
    · simp; omega
    · omega
theorem SN_app {V : zV} {b x : Nat} {S : List Nat} (h : SN V b S) (hl : S.length < 7) (hx : x < 1000000) : SN (zup V b S.length (nI x)) b (S ++ [x]) := by
  refine ⟨by simp; omega, fun k hk => ?_⟩
  simp at hk
  rw [getD_app S x k hk]
  split
  · rename_i q
    rw [zup_k (by omega)]
    exact h.2 k q
  · rename_i q
    have e : k = S.length := by omega
    subst e
    exact ⟨zup_s _ _ _ _, hx⟩

set_option maxHeartbeats 4000000 in
set_option maxRecDepth 100000 in
theorem lp_isn {D : zD} {z0 nx : Nat} {L : zL} {V : zV} {a : Nat} {s : St} (hs : sSt L a) (h : ST V a s) : ∀ (fu : Nat) (i : Nat) (V1 : zV), 2 - i = fu → i ≤ 2 → zEq V V1 (a + 7) (a + 8) → SN V1 (a + 7) (isn s i) → Z D z0 1 0 0 mX7_gatherSnaps 0 0 60 [some (.ref a), some (.int (nI (isn s i).length)), some (.int (nI i))] [] L V1 nx (zq (some (.int (nI (isn s 2).length))) L nx (fun V' => zEq V V' (a + 7) (a + 8) ∧ SN V' (a + 7) (isn s 2))) := by
  intro fu
  induction fu using Nat.strongRecOn with
  | ind fu ih =>
    intro i V1 h_fu h_0 h_1 h_2
    have hs0 := hs
    have h0 := h.eq7 h_1
    have h00 := h0
    obtain ⟨h1, h2, h3, h4, h5, h6, h7⟩ := hs
    obtain ⟨g1, g2, g3, g4⟩ := h00
    have hln := isn_len s i
    refine z_iload_n dX7_gatherSnaps_60 rfl ?_
    refine z_iconst (v := nI 2) dX7_gatherSnaps_61 rfl ?_
    refine z_icmp_geN (tgt := 102) dX7_gatherSnaps_62 (by decide) (by omega) (by omega) (fun c_62 => ?_) (fun c_62 => ?_)
    · refine z_iload_n dX7_gatherSnaps_102 rfl ?_
      refine z_ireturn dX7_gatherSnaps_103 (Nat.le_of_ble_eq_true rfl) (Nat.le_of_ble_eq_true rfl) rfl ?_
      have e_i : i = 2 := by omega
      subst e_i
      exact ⟨rfl, rfl, rfl, h_1, h_2⟩
    · have q1 := i2_at a i (by omega)
      have p1 := h7 i (by omega)
      have p2 := p1.1
      have x0 := g4 i (by omega)
      obtain ⟨⟨⟨x1, x2, x3, x4, x5⟩, x6, x7, x8, x9, x10⟩, xd, xe, xn, xl⟩ := g4 i (by omega)
      refine z_aload_n dX7_gatherSnaps_65 rfl ?_
      refine z_getR dX7_gatherSnaps_66 fX7_33 (by first | assumption | exact And.left (by assumption)) rfl ?_
      refine z_iload_n dX7_gatherSnaps_69 rfl ?_
      refine z_aaldN dX7_gatherSnaps_70 (by first | assumption | exact And.left (by assumption)) (fun _ => rfl) (by exact Nat.le_of_ble_eq_true rfl) (by assumption) ?_
      refine z_getIe dX7_gatherSnaps_71 fX7_111 (by first | assumption | exact And.left (by assumption)) rfl (by first | assumption | exact zup_s _ _ _ _ | rfl) ?_
      refine z_iconst (v := nI 1) dX7_gatherSnaps_74 rfl ?_
      refine z_icmp_neN (tgt := 96) dX7_gatherSnaps_75 (by decide) (by omega) (by omega) (fun c_75 => ?_) (fun c_75 => ?_)
      · have e_n : isn s (i + 1) = isn s i := by rw [isn, if_neg (by omega)]
        refine z_incN dX7_gatherSnaps_96 rfl rfl ?_
        refine z_goto (tgt := 60) dX7_gatherSnaps_99 (by decide) ?_
        first
          | (have hz := ih _ (by omega) (i + 1) (zup V1 (a + 7) (isn s i).length (nI (s.2.2.2 i).1.2.1)) rfl (by omega) (h_1.up (by omega) (by omega)) (by rw [e_n]; exact SN_app h_2 (by omega) x7); rw [e_l] at hz; exact hz)
          | (have hz := ih _ (by omega) (i + 1) V1 rfl (by omega) h_1 (by rw [e_n]; exact h_2); rw [e_n] at hz; exact hz)
      · have e_n : isn s (i + 1) = isn s i ++ [(s.2.2.2 i).1.2.1] := by rw [isn, if_pos (by omega)]
        have e_l : (isn s (i + 1)).length = (isn s i).length + 1 := by rw [e_n]; simp
        refine z_aload_n dX7_gatherSnaps_78 rfl ?_
        refine z_getR dX7_gatherSnaps_79 fX7_37 (by first | assumption | exact And.left (by assumption)) rfl ?_
        refine z_iload_n dX7_gatherSnaps_82 rfl ?_
        refine z_incN dX7_gatherSnaps_83 rfl rfl ?_
        refine z_aload_n dX7_gatherSnaps_86 rfl ?_
        refine z_getR dX7_gatherSnaps_87 fX7_33 (by first | assumption | exact And.left (by assumption)) rfl ?_
        refine z_iload_n dX7_gatherSnaps_90 rfl ?_
        refine z_aaldN dX7_gatherSnaps_91 (by first | assumption | exact And.left (by assumption)) (fun _ => rfl) (by exact Nat.le_of_ble_eq_true rfl) (by assumption) ?_
        refine z_getIe dX7_gatherSnaps_92 fX7_152 (by first | assumption | exact And.left (by assumption)) rfl (by first | assumption | exact zup_s _ _ _ _ | rfl) ?_
        refine z_iastN dX7_gatherSnaps_95 (by first | assumption | exact And.left (by assumption)) (by omega) (by decide) ?_
        refine z_incN dX7_gatherSnaps_96 rfl rfl ?_
        refine z_goto (tgt := 60) dX7_gatherSnaps_99 (by decide) ?_
        first
          | (have hz := ih _ (by omega) (i + 1) (zup V1 (a + 7) (isn s i).length (nI (s.2.2.2 i).1.2.1)) rfl (by omega) (h_1.up (by omega) (by omega)) (by rw [e_n]; exact SN_app h_2 (by omega) x7); rw [e_l] at hz; exact hz)
          | (have hz := ih _ (by omega) (i + 1) V1 rfl (by omega) h_1 (by rw [e_n]; exact h_2); rw [e_n] at hz; exact hz)

set_option maxHeartbeats 4000000 in
set_option maxRecDepth 100000 in
theorem lp_tsn {D : zD} {z0 nx : Nat} {L : zL} {V : zV} {a : Nat} {s : St} (hs : sSt L a) (h : ST V a s) : ∀ (fu : Nat) (i : Nat) (V1 : zV), 4 - i = fu → i ≤ 4 → zEq V V1 (a + 7) (a + 8) → SN V1 (a + 7) (tsn s i) → Z D z0 1 0 0 mX7_gatherSnaps 0 0 17 [some (.ref a), some (.int (nI (tsn s i).length)), some (.int (nI i))] [] L V1 nx (zq (some (.int (nI (isn s 2).length))) L nx (fun V' => zEq V V' (a + 7) (a + 8) ∧ SN V' (a + 7) (isn s 2))) := by
  intro fu
  induction fu using Nat.strongRecOn with
  | ind fu ih =>
    intro i V1 h_fu h_0 h_1 h_2
    have hs0 := hs
    have h0 := h.eq7 h_1
    have h00 := h0
    obtain ⟨h1, h2, h3, h4, h5, h6, h7⟩ := hs
    obtain ⟨g1, g2, g3, g4⟩ := h00
    have hln := tsn_len s i
    refine z_iload_n dX7_gatherSnaps_17 rfl ?_
    refine z_iconst (v := nI 4) dX7_gatherSnaps_18 rfl ?_
    refine z_icmp_geN (tgt := 58) dX7_gatherSnaps_19 (by decide) (by omega) (by omega) (fun c_19 => ?_) (fun c_19 => ?_)
    · refine z_iconst (v := nI 0) dX7_gatherSnaps_58 rfl ?_
      refine z_istore_n dX7_gatherSnaps_59 (Nat.le_of_ble_eq_true rfl) rfl ?_
      have e_i : i = 4 := by omega
      subst e_i
      exact lp_isn hs0 h _ 0 V1 rfl (by omega) h_1 h_2
    · have q1 := t4_at a i (by omega)
      have p1 := h6 i (by omega)
      obtain ⟨p2, p3⟩ := h6 i (by omega)
      have m0 := g3 i (by omega)
      obtain ⟨m1, m2, m3, m4, m5, m6⟩ := g3 i (by omega)
      refine z_aload_n dX7_gatherSnaps_22 rfl ?_
      refine z_getR dX7_gatherSnaps_23 fX7_27 (by first | assumption | exact And.left (by assumption)) rfl ?_
      refine z_iload_n dX7_gatherSnaps_26 rfl ?_
      refine z_aaldN dX7_gatherSnaps_27 (by first | assumption | exact And.left (by assumption)) (fun _ => rfl) (by exact Nat.le_of_ble_eq_true rfl) (by assumption) ?_
      refine z_getIe dX7_gatherSnaps_28 fX7_114 (by first | assumption | exact And.left (by assumption)) rfl (by first | assumption | exact zup_s _ _ _ _ | rfl) ?_
      refine z_if_eqB (tgt := 52) dX7_gatherSnaps_31 (by decide) (fun c_31 => ?_) (fun c_31 => ?_)
      · have e_n : tsn s (i + 1) = tsn s i := by rw [tsn, if_neg c_31]
        refine z_incN dX7_gatherSnaps_52 rfl rfl ?_
        refine z_goto (tgt := 17) dX7_gatherSnaps_55 (by decide) ?_
        first
          | (have hz := ih _ (by omega) (i + 1) (zup V1 (a + 7) (tsn s i).length (nI (s.2.2.1 i).2.1)) rfl (by omega) (h_1.up (by omega) (by omega)) (by rw [e_n]; exact SN_app h_2 (by omega) m5); rw [e_l] at hz; exact hz)
          | (have hz := ih _ (by omega) (i + 1) V1 rfl (by omega) h_1 (by rw [e_n]; exact h_2); rw [e_n] at hz; exact hz)
      · have e_n : tsn s (i + 1) = tsn s i ++ [(s.2.2.1 i).2.1] := by rw [tsn, if_pos c_31]
        have e_l : (tsn s (i + 1)).length = (tsn s i).length + 1 := by rw [e_n]; simp
        refine z_aload_n dX7_gatherSnaps_34 rfl ?_
        refine z_getR dX7_gatherSnaps_35 fX7_37 (by first | assumption | exact And.left (by assumption)) rfl ?_
        refine z_iload_n dX7_gatherSnaps_38 rfl ?_
        refine z_incN dX7_gatherSnaps_39 rfl rfl ?_
        refine z_aload_n dX7_gatherSnaps_42 rfl ?_
        refine z_getR dX7_gatherSnaps_43 fX7_27 (by first | assumption | exact And.left (by assumption)) rfl ?_
        refine z_iload_n dX7_gatherSnaps_46 rfl ?_
        refine z_aaldN dX7_gatherSnaps_47 (by first | assumption | exact And.left (by assumption)) (fun _ => rfl) (by exact Nat.le_of_ble_eq_true rfl) (by assumption) ?_
        refine z_getIe dX7_gatherSnaps_48 fX7_67 (by first | assumption | exact And.left (by assumption)) rfl (by first | assumption | exact zup_s _ _ _ _ | rfl) ?_
        refine z_iastN dX7_gatherSnaps_51 (by first | assumption | exact And.left (by assumption)) (by omega) (by decide) ?_
        refine z_incN dX7_gatherSnaps_52 rfl rfl ?_
        refine z_goto (tgt := 17) dX7_gatherSnaps_55 (by decide) ?_
        first
          | (have hz := ih _ (by omega) (i + 1) (zup V1 (a + 7) (tsn s i).length (nI (s.2.2.1 i).2.1)) rfl (by omega) (h_1.up (by omega) (by omega)) (by rw [e_n]; exact SN_app h_2 (by omega) m5); rw [e_l] at hz; exact hz)
          | (have hz := ih _ (by omega) (i + 1) V1 rfl (by omega) h_1 (by rw [e_n]; exact h_2); rw [e_n] at hz; exact hz)

set_option maxHeartbeats 4000000 in
set_option maxRecDepth 100000 in
theorem s_snaps {D : zD} {z0 nx : Nat} {L : zL} {V : zV} {a : Nat} {s : St} (hs : sSt L a) (h : ST V a s) : Sp D z0 1 0 0 mX7_gatherSnaps [.ref a] L V nx (zq (some (.int (nI (isn s 2).length))) L nx (fun V' => zEq V V' (a + 7) (a + 8) ∧ SN V' (a + 7) (isn s 2))) := by
  have hs0 := hs
  have h0 := h
  obtain ⟨h1, h2, h3, h4, h5, h6, h7⟩ := hs
  obtain ⟨g1, g2, g3, g4⟩ := h
  have q1 := g1.1
  have q2 := g1.2.2.2.1
  refine Sp.of 2 (by decide) rfl rfl (Nat.le_of_ble_eq_true rfl) ?_
  refine z_iconst (v := nI 0) dX7_gatherSnaps_0 rfl ?_
  refine z_istore_n dX7_gatherSnaps_1 (Nat.le_of_ble_eq_true rfl) rfl ?_
  refine z_aload_n dX7_gatherSnaps_2 rfl ?_
  refine z_getR dX7_gatherSnaps_3 fX7_37 (by first | assumption | exact And.left (by assumption)) rfl ?_
  refine z_iload_n dX7_gatherSnaps_6 rfl ?_
  refine z_incN dX7_gatherSnaps_7 rfl rfl ?_
  refine z_aload_n dX7_gatherSnaps_10 rfl ?_
  refine z_getIe dX7_gatherSnaps_11 fX7_43 (by first | assumption | exact And.left (by assumption)) rfl (by first | assumption | exact zup_s _ _ _ _ | rfl) ?_
  refine z_iastN dX7_gatherSnaps_14 (by first | assumption | exact And.left (by assumption)) (by omega) (by decide) ?_
  refine z_iconst (v := nI 0) dX7_gatherSnaps_15 rfl ?_
  refine z_istore_n dX7_gatherSnaps_16 (Nat.le_of_ble_eq_true rfl) rfl ?_
  exact lp_tsn hs0 h0 _ 0 _ rfl (by omega) (zEq.rf.up (by omega) (by omega)) (by
    have hz := SN_app (V := V) (b := a + 7) (S := []) (x := s.1.1) ⟨by simp, fun k hk => absurd hk (by simp)⟩ (by simp) (by omega)
    exact hz)

noncomputable def kvs (v : Vs) (S : List Nat) (i : Nat) : Vs := fun q => if q < i then kv (v q) S else v q
theorem kvs_i (v : Vs) (S : List Nat) (i : Nat) : kvs v S i i = v i := by simp [kvs]
theorem kvs_s (v : Vs) (S : List Nat) (i : Nat) : (fun q => if q = i then kv (kvs v S i i) S else kvs v S i q) = kvs v S (i + 1) := by
  funext q
  simp only [kvs]
  by_cases e : q = i
  · subst e; simp
  · have : (q < i + 1) ↔ q < i := by omega
    simp [e, this]
theorem kvs_0 (v : Vs) (S : List Nat) : kvs v S 0 = v := by
  funext q
  simp [kvs]
noncomputable def gone (v : Vs) (S : List Nat) (r : Nat) : Nat := (v r).length - (kl (kp (v r) S) (v r).length).length
noncomputable def swp (s : St) : St := (s.1, kvs s.2.1 (isn s 2) 48, s.2.2)

set_option maxHeartbeats 4000000 in
set_option maxRecDepth 100000 in
theorem lp_sweep {D : zD} {z0 nx : Nat} {L : zL} {V : zV} {a : Nat} {s : St} (hs : sSt L a) (h : ST V a s) (hkl : ∀ r, r < 48 → 1 ≤ (kl (kp (s.2.1 r) (isn s 2)) (s.2.1 r).length).length) : ∀ (fu : Nat) (i : Nat) (V1 : zV), 48 - i = fu → i ≤ 48 → zEq V V1 a (a + 40) → ST V1 a (s.1, kvs s.2.1 (isn s 2) i, s.2.2) → SN V1 (a + 7) (isn s 2) → sm (gone s.2.1 (isn s 2)) i ≤ i * 8 → Z D z0 3 0 0 mX7_sweepVersions 0 0 9 [some (.ref a), some (.int (nI (isn s 2).length)), some (.int (nI (sm (gone s.2.1 (isn s 2)) i))), some (.int (nI i))] [] L V1 nx (zq (some (.int (nI (sm (gone s.2.1 (isn s 2)) 48)))) L nx (fun V' => zEq V V' a (a + 40) ∧ ST V' a (swp s))) := by
  intro fu
  induction fu using Nat.strongRecOn with
  | ind fu ih =>
    intro i V1 h_fu h_0 h_1 h_2 h_3 h_4
    have hs0 := hs
    obtain ⟨h1, h2, h3, h4, h5, h6, h7⟩ := hs
    have g2 : VE V1 (a + 1) (kvs s.2.1 (isn s 2) i) := h_2.2.1
    refine z_iload_n dX7_sweepVersions_9 rfl ?_
    refine z_bipush (v := nI 48) dX7_sweepVersions_10 rfl ?_
    refine z_icmp_geN (tgt := 37) dX7_sweepVersions_12 (by decide) (by omega) (by omega) (fun c_12 => ?_) (fun c_12 => ?_)
    · refine z_iload_n dX7_sweepVersions_37 rfl ?_
      refine z_ireturn dX7_sweepVersions_38 (Nat.le_of_ble_eq_true rfl) (Nat.le_of_ble_eq_true rfl) rfl ?_
      have e_i : i = 48 := by omega
      subst e_i
      exact ⟨rfl, rfl, rfl, h_1, h_2⟩
    · refine z_iload_n dX7_sweepVersions_15 rfl ?_
      refine z_aload_n dX7_sweepVersions_16 rfl ?_
      refine z_getR dX7_sweepVersions_17 fX7_21 (by first | assumption | exact And.left (by assumption)) rfl ?_
      refine z_iload_n dX7_sweepVersions_20 rfl ?_
      refine z_aload_n dX7_sweepVersions_21 rfl ?_
      refine z_getR dX7_sweepVersions_22 fX7_37 (by first | assumption | exact And.left (by assumption)) rfl ?_
      refine z_iload_n dX7_sweepVersions_25 rfl ?_
      have hk := hkl i (by omega)
      have hg : (kvs s.2.1 (isn s 2) i i).length - (kl (kp (kvs s.2.1 (isn s 2) i i) (isn s 2)) (kvs s.2.1 (isn s 2) i i).length).length = gone s.2.1 (isn s 2) i := by rw [kvs_i] <;> rfl
      have h8 := (h.2.1 i (by omega)).2.2.1
      have hg8 : gone s.2.1 (isn s 2) i ≤ 8 := by unfold gone; omega
      refine z_callV3q dX7_sweepVersions_26 kX10_keepSeen lX7_107 (by first | assumption | exact And.left (by assumption)) rfl (s_keepSeen h2 g2 (by omega) h5 h_3 (by omega) rfl (by rw [kvs_i]; exact hk)) (Nat.le_of_ble_eq_true rfl) (Nat.le_of_ble_eq_true rfl) ⟨Nat.le_of_ble_eq_true rfl, Nat.le_of_ble_eq_true rfl⟩ ?_
      intro V2 hV2
      rw [hg]
      refine z_addN dX7_sweepVersions_29 ?_
      refine z_istore_n dX7_sweepVersions_30 (Nat.le_of_ble_eq_true rfl) rfl ?_
      refine z_incN dX7_sweepVersions_31 rfl rfl ?_
      refine z_goto (tgt := 9) dX7_sweepVersions_34 (by decide) ?_
      exact ih _ (by omega) (i + 1) V2 rfl (by omega) (h_1.trans (hV2.1.wide (by omega) (by omega))) (by rw [← kvs_s]; have hz9 := ST_ve h_2 (hV2.1.wide (by omega) (by omega)) hV2.2; exact hz9) (by unfold SN at h_3 ⊢; rw [hV2.1 (a + 7) (by omega)]; exact h_3) (by rw [sm]; omega)

set_option maxHeartbeats 4000000 in
set_option maxRecDepth 100000 in
theorem s_sweepV {D : zD} {z0 nx : Nat} {L : zL} {V : zV} {a : Nat} {s : St} (hs : sSt L a) (h : ST V a s) (hkl : ∀ r, r < 48 → 1 ≤ (kl (kp (s.2.1 r) (isn s 2)) (s.2.1 r).length).length) : Sp D z0 3 0 0 mX7_sweepVersions [.ref a] L V nx (zq (some (.int (nI (sm (gone s.2.1 (isn s 2)) 48)))) L nx (fun V' => zEq V V' a (a + 40) ∧ ST V' a (swp s))) := by
  have hs0 := hs
  have h0 := h
  obtain ⟨h1, h2, h3, h4, h5, h6, h7⟩ := hs
  obtain ⟨g1, g2, g3, g4⟩ := h
  refine Sp.of 3 (by decide) rfl rfl (Nat.le_of_ble_eq_true rfl) ?_
  refine z_aload_n dX7_sweepVersions_0 rfl ?_
  refine z_callV0q dX7_sweepVersions_1 kX7_gatherSnaps lX7_103 (by first | assumption | exact And.left (by assumption)) rfl (s_snaps hs0 h0) (Nat.le_of_ble_eq_true rfl) (Nat.le_of_ble_eq_true rfl) ⟨Nat.le_of_ble_eq_true rfl, Nat.le_of_ble_eq_true rfl⟩ ?_
  intro V1 hV1
  refine z_istore_n dX7_sweepVersions_4 (Nat.le_of_ble_eq_true rfl) rfl ?_
  refine z_iconst (v := nI 0) dX7_sweepVersions_5 rfl ?_
  refine z_istore_n dX7_sweepVersions_6 (Nat.le_of_ble_eq_true rfl) rfl ?_
  refine z_iconst (v := nI 0) dX7_sweepVersions_7 rfl ?_
  refine z_istore_n dX7_sweepVersions_8 (Nat.le_of_ble_eq_true rfl) rfl ?_
  exact lp_sweep hs0 h0 hkl _ 0 V1 rfl (by omega) (hV1.1.wide (by omega) (by omega)) (by rw [kvs_0]; exact h0.eq7 hV1.1) hV1.2 (by simp [sm])

