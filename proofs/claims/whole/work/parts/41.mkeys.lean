/-! the reference, on: writes, keys, entries -/
noncomputable def wpl (ws : List (Nat × Option Nat)) (r : Nat) : Nat := fs (fun k => (wk ws k).1 = r) ws.length
theorem wpl_y {f : Nat → Int32} {b r : Nat} {ws : List (Nat × Option Nat)} {t : Tr} (h : MTw f b ws t) (hk : wpl ws r < ws.length) : t.2.2 r = some (wk ws (wpl ws r)).2 ∧ AT f (b + 3 + 5 * wpl ws r) (wk ws (wpl ws r)).2 ∧ (wk ws (wpl ws r)).1 = r := by
  have h1 : (wk ws (wpl ws r)).1 = r := fs_yes (p := fun k => (wk ws k).1 = r) hk
  obtain ⟨-, -, -, h4, -⟩ := h
  obtain ⟨k1, k2, k3, k4⟩ := h4 _ hk
  rw [h1] at k4
  exact ⟨k4, k3, h1⟩
theorem wpl_n {f : Nat → Int32} {b r : Nat} {ws : List (Nat × Option Nat)} {t : Tr} (h : MTw f b ws t) (hr : r < 48) (hk : ¬ wpl ws r < ws.length) : t.2.2 r = none := by
  cases hq : t.2.2 r with
  | none => rfl
  | some x =>
    obtain ⟨-, -, -, -, -, h6⟩ := h
    obtain ⟨k, k1, k2⟩ := h6 r hr x hq
    exfalso
    have hle : wpl ws r ≤ ws.length := fs_le _ _
    exact fs_no (p := fun k => (wk ws k).1 = r) (n := ws.length) (k := k) (by unfold wpl at hk hle; omega) (by rw [k2])
theorem wpl_nn {f : Nat → Int32} {b r : Nat} {ws : List (Nat × Option Nat)} {t : Tr} (h : MTw f b ws t) (hr : r < 48) : wpl ws r < ws.length ↔ t.2.2 r ≠ none := by
  constructor
  · intro q
    rw [(wpl_y h q).1]
    exact fun e => by cases e
  · intro q
    exact Classical.byContradiction (fun e => q (wpl_n h hr e))

set_option maxHeartbeats 4000000 in
set_option maxRecDepth 100000 in
theorem lp_mWr {D : zD} {z0 nx : Nat} {L : zL} {V : zV} {m t r : Nat} {ws : List (Nat × Option Nat)} {x : Tr} (hm : sM L m) (ht : t < 4) (hr : r < 48) (hw : MTw (V (m + 1)) (1968 + 43 * t) ws x) : ∀ (fu : Nat) (j : Nat), ws.length - j = fu → j ≤ ws.length → (∀ k, k < j → ¬ (wk ws k).1 = r) → Z D z0 2 0 0 mX12_writeAt 0 0 14 [some (.ref m), some (.int (nI t)), some (.int (nI r)), some (.int (nI (1968 + 43 * t + 3))), some (.int (nI j))] [] L V nx (zi (if wpl ws r < ws.length then nI (1968 + 43 * t + 3 + 5 * wpl ws r) else -1) L V nx) := by
  intro fu
  induction fu using Nat.strongRecOn with
  | ind fu ih =>
    intro j h_fu h_0 h_1
    have hm0 := hm
    obtain ⟨a0, a1, a2, a3, a4, a5, a6, a7, a8, a9, a10, a11, a12, a13, a14, a15⟩ := hm
    obtain ⟨w1, w2, w3, w4, w5, w6⟩ := hw
    refine z_iload dX12_writeAt_14 rfl ?_
    refine z_aload_n dX12_writeAt_16 rfl ?_
    refine z_iload_n dX12_writeAt_17 rfl ?_
    refine z_iconst (v := nI 2) dX12_writeAt_18 rfl ?_
    refine z_callV2i dX12_writeAt_19 kX12_ofTransaction lX12_94 (by first | assumption | exact And.left (by assumption)) rfl (s_ofTr hm0 ht (by omega) w1) (Nat.le_of_ble_eq_true rfl) (Nat.le_of_ble_eq_true rfl) ⟨Nat.le_of_ble_eq_true rfl, Nat.le_of_ble_eq_true rfl⟩ ?_
    refine z_icmp_geN (tgt := 53) dX12_writeAt_22 (by decide) (by omega) (by omega) (fun c_22 => ?_) (fun c_22 => ?_)
    · refine z_iconst (v := (-1)) dX12_writeAt_53 rfl ?_
      refine z_ireturn dX12_writeAt_54 (Nat.le_of_ble_eq_true rfl) (Nat.le_of_ble_eq_true rfl) rfl ?_
      have e : wpl ws r = ws.length := fs_eq (fun k hk => h_1 k (by omega)) (by omega) (fun q => absurd q (by omega))
      exact zi_r (by rw [e, if_neg (by omega)])
    · refine z_aload_n dX12_writeAt_25 rfl ?_
      refine z_getR dX12_writeAt_26 fX12_13 (by first | assumption | exact And.left (by assumption)) rfl ?_
      refine z_iload_n dX12_writeAt_29 rfl ?_
      refine z_iconst (v := nI 5) dX12_writeAt_30 rfl ?_
      refine z_iload dX12_writeAt_31 rfl ?_
      refine z_mulN dX12_writeAt_33 ?_
      refine z_addN dX12_writeAt_34 ?_
      refine z_ialdN dX12_writeAt_35 (by first | assumption | exact And.left (by assumption)) (by omega) (by decide) (w4 j (by omega)).1 ?_
      have b1 := (w4 j (by omega)).2.1
      refine z_iload_n dX12_writeAt_36 rfl ?_
      refine z_icmp_neN (tgt := 47) dX12_writeAt_37 (by decide) (by omega) (by omega) (fun c_37 => ?_) (fun c_37 => ?_)
      · refine z_incN dX12_writeAt_47 rfl rfl ?_
        refine z_goto (tgt := 14) dX12_writeAt_50 (by decide) ?_
        exact ih _ (by omega) (j + 1) rfl (by omega) (lt_s h_1 c_37)
      · refine z_iload_n dX12_writeAt_40 rfl ?_
        refine z_iconst (v := nI 5) dX12_writeAt_41 rfl ?_
        refine z_iload dX12_writeAt_42 rfl ?_
        refine z_mulN dX12_writeAt_44 ?_
        refine z_addN dX12_writeAt_45 ?_
        refine z_ireturn dX12_writeAt_46 (Nat.le_of_ble_eq_true rfl) (Nat.le_of_ble_eq_true rfl) rfl ?_
        have e : wpl ws r = j := fs_eq h_1 (by omega) (fun _ => c_37)
        exact zi_r (by rw [e, if_pos (by omega)])

set_option maxHeartbeats 4000000 in
set_option maxRecDepth 100000 in
theorem s_mWr {D : zD} {z0 nx : Nat} {L : zL} {V : zV} {m t r : Nat} {ws : List (Nat × Option Nat)} {x : Tr} (hm : sM L m) (ht : t < 4) (hr : r < 48) (hw : MTw (V (m + 1)) (1968 + 43 * t) ws x) : Sp D z0 2 0 0 mX12_writeAt [.ref m, .int (nI t), .int (nI r)] L V nx (zi (if wpl ws r < ws.length then nI (1968 + 43 * t + 3 + 5 * wpl ws r) else -1) L V nx) := by
  refine Sp.of 2 (by decide) rfl rfl (Nat.le_of_ble_eq_true rfl) ?_
  refine z_sipush (v := nI 1968) dX12_writeAt_0 rfl ?_
  refine z_bipush (v := nI 43) dX12_writeAt_3 rfl ?_
  refine z_iload_n dX12_writeAt_5 rfl ?_
  refine z_mulN dX12_writeAt_6 ?_
  refine z_addN dX12_writeAt_7 ?_
  refine z_iconst (v := nI 3) dX12_writeAt_8 rfl ?_
  refine z_addN dX12_writeAt_9 ?_
  refine z_istore_n dX12_writeAt_10 (Nat.le_of_ble_eq_true rfl) rfl ?_
  refine z_iconst (v := nI 0) dX12_writeAt_11 rfl ?_
  refine z_istore dX12_writeAt_12 (Nat.le_of_ble_eq_true rfl) rfl ?_
  exact lp_mWr hm ht hr hw _ 0 rfl (by omega) (fun k hk => absurd hk (by omega))

theorem vj_vpl {l : List (Nat × Option Nat)} {s : Nat} (h0 : (vk l 0).1 ≤ s) : ∀ j, vj l s (j + 1) = (vk l (vpl l s j)).2
  | 0 => by rw [vj, if_pos h0, vpl]
  | j + 1 => by
    rw [vj, vpl]
    split
    · rfl
    · exact vj_vpl h0 j
theorem vat_vpl {l : List (Nat × Option Nat)} {s : Nat} (h0 : (vk l 0).1 ≤ s) (hl : 1 ≤ l.length) : vat l s = (vk l (vpl l s (l.length - 1))).2 := by
  unfold vat
  rw [show l.length = (l.length - 1) + 1 by omega]
  exact vj_vpl h0 (l.length - 1)
/-- where a transaction sees a row -/
noncomputable def sap (ws : List (Nat × Option Nat)) (l : List (Nat × Option Nat)) (t r sn : Nat) : Nat := if wpl ws r < ws.length then 1968 + 43 * t + 3 + 5 * wpl ws r else 40 * r + 5 * vpl l sn (l.length - 1)
theorem sap_lt {ws l : List (Nat × Option Nat)} {t r sn : Nat} (ht : t < 4) (hr : r < 48) (hw : ws.length ≤ 8) (h1 : 1 ≤ l.length) (h8 : l.length ≤ 8) : sap ws l t r sn + 5 ≤ 2140 := by
  have := vpl_le l sn (l.length - 1)
  unfold sap
  split <;> omega

set_option maxHeartbeats 4000000 in
set_option maxRecDepth 100000 in
theorem s_mSeenA {D : zD} {z0 nx : Nat} {L : zL} {V : zV} {m t r : Nat} {ws : List (Nat × Option Nat)} {x : Tr} (hm : sM L m) (ht : t < 4) (hr : r < 48) (hw : MTw (V (m + 1)) (1968 + 43 * t) ws x) {l : List (Nat × Option Nat)} (hx : MVr (V (m + 1)) r l) (hsn : V (m + 1) (1968 + 43 * t + 1) = nI x.2.1) (hs6 : x.2.1 < 1000000) (hp : wpl ws r < ws.length) : Sp D z0 3 0 0 mX12_seenAt [.ref m, .int (nI t), .int (nI r)] L V nx (zi (nI (sap ws l t r x.2.1)) L V nx) := by
  have hm0 := hm
  have hwl := hw.2.1
  have hq := s_mWr (D := D) (z0 := z0) (nx := nx) hm ht hr hw
  rw [if_pos hp] at hq
  refine Sp.of 1 (by decide) rfl rfl (Nat.le_of_ble_eq_true rfl) ?_
  refine z_aload_n dX12_seenAt_0 rfl ?_
  refine z_iload_n dX12_seenAt_1 rfl ?_
  refine z_iload_n dX12_seenAt_2 rfl ?_
  refine z_callV2i dX12_seenAt_3 kX12_writeAt lX12_98 (by first | assumption | exact And.left (by assumption)) rfl hq (Nat.le_of_ble_eq_true rfl) (Nat.le_of_ble_eq_true rfl) ⟨Nat.le_of_ble_eq_true rfl, Nat.le_of_ble_eq_true rfl⟩ ?_
  refine z_istore_n dX12_seenAt_6 (Nat.le_of_ble_eq_true rfl) rfl ?_
  refine z_iload_n dX12_seenAt_7 rfl ?_
  refine z_iconst (v := (-1)) dX12_seenAt_8 rfl ?_
  refine z_icmp_eq (tgt := 16) dX12_seenAt_9 (by decide) (fun c_9 => ?_) (fun c_9 => ?_)
  · exact absurd c_9 (nI_ne_m1 (by omega))
  · refine z_iload_n dX12_seenAt_12 rfl ?_
    refine z_goto (tgt := 27) dX12_seenAt_13 (by decide) ?_
    refine z_ireturn dX12_seenAt_27 (Nat.le_of_ble_eq_true rfl) (Nat.le_of_ble_eq_true rfl) rfl ?_
    exact zi_r (by rw [sap, if_pos hp])

set_option maxHeartbeats 4000000 in
set_option maxRecDepth 100000 in
theorem s_mSeenB {D : zD} {z0 nx : Nat} {L : zL} {V : zV} {m t r : Nat} {ws : List (Nat × Option Nat)} {x : Tr} (hm : sM L m) (ht : t < 4) (hr : r < 48) (hw : MTw (V (m + 1)) (1968 + 43 * t) ws x) {l : List (Nat × Option Nat)} (hx : MVr (V (m + 1)) r l) (hsn : V (m + 1) (1968 + 43 * t + 1) = nI x.2.1) (hs6 : x.2.1 < 1000000) (hp : ¬ wpl ws r < ws.length) : Sp D z0 3 0 0 mX12_seenAt [.ref m, .int (nI t), .int (nI r)] L V nx (zi (nI (sap ws l t r x.2.1)) L V nx) := by
  have hm0 := hm
  have hwl := hw.2.1
  have hq := s_mWr (D := D) (z0 := z0) (nx := nx) hm ht hr hw
  rw [if_neg hp] at hq
  refine Sp.of 1 (by decide) rfl rfl (Nat.le_of_ble_eq_true rfl) ?_
  refine z_aload_n dX12_seenAt_0 rfl ?_
  refine z_iload_n dX12_seenAt_1 rfl ?_
  refine z_iload_n dX12_seenAt_2 rfl ?_
  refine z_callV2i dX12_seenAt_3 kX12_writeAt lX12_98 (by first | assumption | exact And.left (by assumption)) rfl hq (Nat.le_of_ble_eq_true rfl) (Nat.le_of_ble_eq_true rfl) ⟨Nat.le_of_ble_eq_true rfl, Nat.le_of_ble_eq_true rfl⟩ ?_
  refine z_istore_n dX12_seenAt_6 (Nat.le_of_ble_eq_true rfl) rfl ?_
  refine z_iload_n dX12_seenAt_7 rfl ?_
  refine z_iconst (v := (-1)) dX12_seenAt_8 rfl ?_
  refine z_icmp_eq (tgt := 16) dX12_seenAt_9 (by decide) (fun c_9 => ?_) (fun c_9 => ?_)
  · refine z_aload_n dX12_seenAt_16 rfl ?_
    refine z_iload_n dX12_seenAt_17 rfl ?_
    refine z_aload_n dX12_seenAt_18 rfl ?_
    refine z_iload_n dX12_seenAt_19 rfl ?_
    refine z_iconst (v := nI 1) dX12_seenAt_20 rfl ?_
    refine z_callV2i dX12_seenAt_21 kX12_ofTransaction lX12_94 (by first | assumption | exact And.left (by assumption)) rfl (s_ofTr hm0 ht (by omega) hsn) (Nat.le_of_ble_eq_true rfl) (Nat.le_of_ble_eq_true rfl) ⟨Nat.le_of_ble_eq_true rfl, Nat.le_of_ble_eq_true rfl⟩ ?_
    refine z_callV2i dX12_seenAt_24 kX12_versionAt lX12_101 (by first | assumption | exact And.left (by assumption)) rfl (s_mVer hm0 hr hx hs6) (Nat.le_of_ble_eq_true rfl) (Nat.le_of_ble_eq_true rfl) ⟨Nat.le_of_ble_eq_true rfl, Nat.le_of_ble_eq_true rfl⟩ ?_
    refine z_ireturn dX12_seenAt_27 (Nat.le_of_ble_eq_true rfl) (Nat.le_of_ble_eq_true rfl) rfl ?_
    exact zi_r (by rw [sap, if_neg hp])
  · exact absurd rfl c_9

theorem s_mSeen {D : zD} {z0 nx : Nat} {L : zL} {V : zV} {m t r : Nat} {ws : List (Nat × Option Nat)} {x : Tr} (hm : sM L m) (ht : t < 4) (hr : r < 48) (hw : MTw (V (m + 1)) (1968 + 43 * t) ws x) {l : List (Nat × Option Nat)} (hx : MVr (V (m + 1)) r l) (hsn : V (m + 1) (1968 + 43 * t + 1) = nI x.2.1) (hs6 : x.2.1 < 1000000) : Sp D z0 3 0 0 mX12_seenAt [.ref m, .int (nI t), .int (nI r)] L V nx (zi (nI (sap ws l t r x.2.1)) L V nx) := by
  by_cases hp : wpl ws r < ws.length
  · exact s_mSeenA hm ht hr hw hx hsn hs6 hp
  · exact s_mSeenB hm ht hr hw hx hsn hs6 hp
theorem sap_at {f : Nat → Int32} {t r : Nat} {ws l : List (Nat × Option Nat)} {x : Tr} (hw : MTw f (1968 + 43 * t) ws x) (hx : MVr f r l) (hr : r < 48) (h0 : (vk l 0).1 ≤ x.2.1) : AT f (sap ws l t r x.2.1) (match x.2.2 r with | some y => y | none => vat l x.2.1) := by
  unfold sap
  by_cases hp : wpl ws r < ws.length
  · rw [if_pos hp, (wpl_y hw hp).1]
    exact (wpl_y hw hp).2.1
  · rw [if_neg hp, wpl_n hw hr hp]
    show AT f _ (vat l x.2.1)
    rw [vat_vpl h0 hx.2.1]
    have hv := vpl_le l x.2.1 (l.length - 1)
    exact (hx.2.2.2 _ (by have := hx.2.1; omega)).2.2

set_option maxHeartbeats 4000000 in
set_option maxRecDepth 100000 in
theorem s_mCol {D : zD} {z0 nx : Nat} {L : zL} {V : zV} {m i k : Nat} {d : Df} (hm : sM L m) (hi : i < 2) (hd : MXd (V (m + 1)) (2140 + 1600 * i) d) (hb : Dfb d) (hk : k < d.1.length) : Sp D z0 2 0 0 mX12_columnOf [.ref m, .int (nI i), .int (nI k)] L V nx (zi (nI (d.1.getD k (0, false)).1) L V nx) := by
  have hm0 := hm
  obtain ⟨d1, d2, d3, d4, d5, d6⟩ := hd
  obtain ⟨b1, b2, b3, b4, b5⟩ := hb
  have hc := d3 k (by omega)
  have hk2 := b2 k hk
  rw [tc, if_pos hk] at hc
  refine Sp.of 0 (by decide) rfl rfl (Nat.le_of_ble_eq_true rfl) ?_
  refine z_aload_n dX12_columnOf_0 rfl ?_
  refine z_iload_n dX12_columnOf_1 rfl ?_
  refine z_bipush (v := nI 6) dX12_columnOf_2 rfl ?_
  refine z_iload_n dX12_columnOf_4 rfl ?_
  refine z_addN dX12_columnOf_5 ?_
  refine z_callV2i dX12_columnOf_6 kX12_ofIndex lX12_104 (by first | assumption | exact And.left (by assumption)) rfl (s_ofIx hm0 hi (by omega) hc) (Nat.le_of_ble_eq_true rfl) (Nat.le_of_ble_eq_true rfl) ⟨Nat.le_of_ble_eq_true rfl, Nat.le_of_ble_eq_true rfl⟩ ?_
  refine z_bipush (v := nI 10) dX12_columnOf_9 rfl ?_
  have hlt : (d.1.getD k (0, false)).1 + (if (d.1.getD k (0, false)).2 then 10 else 0) < 20 := by split <;> omega
  refine z_remN dX12_columnOf_11 (by omega) (by omega) (by omega) ?_
  refine z_ireturn dX12_columnOf_12 (Nat.le_of_ble_eq_true rfl) (Nat.le_of_ble_eq_true rfl) rfl ?_
  exact zi_r (by split <;> (congr 1; omega))

set_option maxHeartbeats 4000000 in
set_option maxRecDepth 100000 in
theorem s_mDown {D : zD} {z0 nx : Nat} {L : zL} {V : zV} {m i k : Nat} {d : Df} (hm : sM L m) (hi : i < 2) (hd : MXd (V (m + 1)) (2140 + 1600 * i) d) (hb : Dfb d) (hk : k < d.1.length) : Sp D z0 2 0 0 mX12_isDown [.ref m, .int (nI i), .int (nI k)] L V nx (zi (zb ((d.1.getD k (0, false)).2 = true)) L V nx) := by
  have hm0 := hm
  obtain ⟨d1, d2, d3, d4, d5, d6⟩ := hd
  obtain ⟨b1, b2, b3, b4, b5⟩ := hb
  have hc := d3 k (by omega)
  have hk2 := b2 k hk
  rw [tc, if_pos hk] at hc
  have hlt : (d.1.getD k (0, false)).1 + (if (d.1.getD k (0, false)).2 then 10 else 0) < 20 := by split <;> omega
  refine Sp.of 0 (by decide) rfl rfl (Nat.le_of_ble_eq_true rfl) ?_
  refine z_aload_n dX12_isDown_0 rfl ?_
  refine z_iload_n dX12_isDown_1 rfl ?_
  refine z_bipush (v := nI 6) dX12_isDown_2 rfl ?_
  refine z_iload_n dX12_isDown_4 rfl ?_
  refine z_addN dX12_isDown_5 ?_
  refine z_callV2i dX12_isDown_6 kX12_ofIndex lX12_104 (by first | assumption | exact And.left (by assumption)) rfl (s_ofIx hm0 hi (by omega) hc) (Nat.le_of_ble_eq_true rfl) (Nat.le_of_ble_eq_true rfl) ⟨Nat.le_of_ble_eq_true rfl, Nat.le_of_ble_eq_true rfl⟩ ?_
  refine z_bipush (v := nI 10) dX12_isDown_9 rfl ?_
  refine z_icmp_ltN (tgt := 18) dX12_isDown_11 (by decide) (by omega) (by omega) (fun c_11 => ?_) (fun c_11 => ?_)
  · have hF : ¬ (d.1.getD k (0, false)).2 = true := fun q => by rw [if_pos q] at c_11; omega
    refine z_iconst (v := nI 0) dX12_isDown_18 rfl ?_
    refine z_zreturn dX12_isDown_19 (Nat.le_of_ble_eq_true rfl) (Nat.le_of_ble_eq_true rfl) rfl (by first | exact Or.inl rfl | exact Or.inr rfl | exact zb_01 _ | assumption) ?_
    exact zi_r (by first | exact (zb_t hY).symm | exact (zb_f hF).symm)
  · have hY : (d.1.getD k (0, false)).2 = true := Classical.byContradiction (fun q => by rw [if_neg q] at c_11; omega)
    refine z_iconst (v := nI 1) dX12_isDown_14 rfl ?_
    refine z_goto (tgt := 19) dX12_isDown_15 (by decide) ?_
    refine z_zreturn dX12_isDown_19 (Nat.le_of_ble_eq_true rfl) (Nat.le_of_ble_eq_true rfl) rfl (by first | exact Or.inl rfl | exact Or.inr rfl | exact zb_01 _ | assumption) ?_
    exact zi_r (by first | exact (zb_t hY).symm | exact (zb_f hF).symm)

set_option maxHeartbeats 4000000 in
set_option maxRecDepth 100000 in
theorem s_holds {D : zD} {z0 nx : Nat} {L : zL} {V : zV} {o x n : Nat} (ho : o < 4) (hx : x < 2147483648) (hn : n < 2147483648) : Sp D z0 1 0 0 mX12_holds [.int (nI o), .int (nI x), .int (nI n)] L V nx (zi (zb (ft o x n)) L V nx) := by
  refine Sp.of 0 (by decide) rfl rfl (Nat.le_of_ble_eq_true rfl) ?_
  rcases (show o = 0 ∨ o = 1 ∨ o = 2 ∨ o = 3 by omega) with rfl | rfl | rfl | rfl
  · refine z_iload_n dX12_holds_0 rfl ?_
    refine z_tableIn (tgt := 28) dX12_holds_1 (by decide) (by decide) rfl (by decide) ?_
    refine z_iload_n dX12_holds_28 rfl ?_
    refine z_iload_n dX12_holds_29 rfl ?_
    refine z_icmp_neN (tgt := 37) dX12_holds_30 (by decide) (by omega) (by omega) (fun c_30 => ?_) (fun c_30 => ?_)
    · refine z_iconst (v := nI 0) dX12_holds_37 rfl ?_
      refine z_zreturn dX12_holds_38 (Nat.le_of_ble_eq_true rfl) (Nat.le_of_ble_eq_true rfl) rfl (by first | exact Or.inl rfl | exact Or.inr rfl | exact zb_01 _ | assumption) ?_
      exact zi_r (by first | exact (zb_t (by first | assumption | omega)).symm | exact (zb_f (by intro q; simp only [ft] at q; omega)).symm)
    · refine z_iconst (v := nI 1) dX12_holds_33 rfl ?_
      refine z_goto (tgt := 38) dX12_holds_34 (by decide) ?_
      refine z_zreturn dX12_holds_38 (Nat.le_of_ble_eq_true rfl) (Nat.le_of_ble_eq_true rfl) rfl (by first | exact Or.inl rfl | exact Or.inr rfl | exact zb_01 _ | assumption) ?_
      exact zi_r (by first | exact (zb_t (by first | assumption | omega)).symm | exact (zb_f (by intro q; simp only [ft] at q; omega)).symm)
  · refine z_iload_n dX12_holds_0 rfl ?_
    refine z_tableIn (tgt := 39) dX12_holds_1 (by decide) (by decide) rfl (by decide) ?_
    refine z_iload_n dX12_holds_39 rfl ?_
    refine z_iload_n dX12_holds_40 rfl ?_
    refine z_icmp_eqN (tgt := 48) dX12_holds_41 (by decide) (by omega) (by omega) (fun c_41 => ?_) (fun c_41 => ?_)
    · refine z_iconst (v := nI 0) dX12_holds_48 rfl ?_
      refine z_zreturn dX12_holds_49 (Nat.le_of_ble_eq_true rfl) (Nat.le_of_ble_eq_true rfl) rfl (by first | exact Or.inl rfl | exact Or.inr rfl | exact zb_01 _ | assumption) ?_
      exact zi_r (by first | exact (zb_t (by first | assumption | omega)).symm | exact (zb_f (by intro q; simp only [ft] at q; omega)).symm)
    · refine z_iconst (v := nI 1) dX12_holds_44 rfl ?_
      refine z_goto (tgt := 49) dX12_holds_45 (by decide) ?_
      refine z_zreturn dX12_holds_49 (Nat.le_of_ble_eq_true rfl) (Nat.le_of_ble_eq_true rfl) rfl (by first | exact Or.inl rfl | exact Or.inr rfl | exact zb_01 _ | assumption) ?_
      exact zi_r (by first | exact (zb_t (by first | assumption | omega)).symm | exact (zb_f (by intro q; simp only [ft] at q; omega)).symm)
  · refine z_iload_n dX12_holds_0 rfl ?_
    refine z_tableIn (tgt := 50) dX12_holds_1 (by decide) (by decide) rfl (by decide) ?_
    refine z_iload_n dX12_holds_50 rfl ?_
    refine z_iload_n dX12_holds_51 rfl ?_
    refine z_icmp_geN (tgt := 59) dX12_holds_52 (by decide) (by omega) (by omega) (fun c_52 => ?_) (fun c_52 => ?_)
    · refine z_iconst (v := nI 0) dX12_holds_59 rfl ?_
      refine z_zreturn dX12_holds_60 (Nat.le_of_ble_eq_true rfl) (Nat.le_of_ble_eq_true rfl) rfl (by first | exact Or.inl rfl | exact Or.inr rfl | exact zb_01 _ | assumption) ?_
      exact zi_r (by first | exact (zb_t (by first | assumption | omega)).symm | exact (zb_f (by intro q; simp only [ft] at q; omega)).symm)
    · refine z_iconst (v := nI 1) dX12_holds_55 rfl ?_
      refine z_goto (tgt := 60) dX12_holds_56 (by decide) ?_
      refine z_zreturn dX12_holds_60 (Nat.le_of_ble_eq_true rfl) (Nat.le_of_ble_eq_true rfl) rfl (by first | exact Or.inl rfl | exact Or.inr rfl | exact zb_01 _ | assumption) ?_
      exact zi_r (by first | exact (zb_t (by first | assumption | omega)).symm | exact (zb_f (by intro q; simp only [ft] at q; omega)).symm)
  · refine z_iload_n dX12_holds_0 rfl ?_
    refine z_tableOut (tgt := 61) dX12_holds_1 (by decide) (by decide) ?_
    refine z_iload_n dX12_holds_61 rfl ?_
    refine z_iload_n dX12_holds_62 rfl ?_
    refine z_icmp_leN (tgt := 70) dX12_holds_63 (by decide) (by omega) (by omega) (fun c_63 => ?_) (fun c_63 => ?_)
    · refine z_iconst (v := nI 0) dX12_holds_70 rfl ?_
      refine z_zreturn dX12_holds_71 (Nat.le_of_ble_eq_true rfl) (Nat.le_of_ble_eq_true rfl) rfl (by first | exact Or.inl rfl | exact Or.inr rfl | exact zb_01 _ | assumption) ?_
      exact zi_r (by first | exact (zb_t (by first | assumption | omega)).symm | exact (zb_f (by intro q; simp only [ft] at q; omega)).symm)
    · refine z_iconst (v := nI 1) dX12_holds_66 rfl ?_
      refine z_goto (tgt := 71) dX12_holds_67 (by decide) ?_
      refine z_zreturn dX12_holds_71 (Nat.le_of_ble_eq_true rfl) (Nat.le_of_ble_eq_true rfl) rfl (by first | exact Or.inl rfl | exact Or.inr rfl | exact zb_01 _ | assumption) ?_
      exact zi_r (by first | exact (zb_t (by first | assumption | omega)).symm | exact (zb_f (by intro q; simp only [ft] at q; omega)).symm)

/-- whether a definition has an entry of what is there -/
def iso (d : Df) (v : Option Nat) : Prop := match v with
  | none => False
  | some p => ¬ (d.2.2.1 = true ∧ ¬ ft d.2.2.2.2.1 (pt p d.2.2.2.1) d.2.2.2.2.2)
theorem iso_eo {d : Df} {v : Option Nat} {r : Nat} : iso d v ↔ eo d v r ≠ none := by
  cases v with
  | none => exact ⟨fun q => absurd q (fun z => z), fun q => absurd rfl q⟩
  | some p =>
    unfold iso eo
    simp only
    split
    · rename_i c
      exact ⟨fun q => absurd c q, fun q => absurd rfl q⟩
    · rename_i c
      exact ⟨fun _ q => (by cases q), fun _ => c⟩

set_option maxHeartbeats 4000000 in
set_option maxRecDepth 100000 in
theorem s_isOfN {D : zD} {z0 nx : Nat} {L : zL} {V : zV} {m i p : Nat} {d : Df} (hm : sM L m) (hi : i < 2) (hd : MXd (V (m + 1)) (2140 + 1600 * i) d) (hb : Dfb d) (hp : p + 5 ≤ 5343) (ha : AT (V (m + 1)) p (none)) : Sp D z0 2 0 0 mX12_isOf [.ref m, .int (nI i), .int (nI p)] L V nx (zi (zb (iso d (none))) L V nx) := by
  obtain ⟨a0, a1, a2, a3, a4, a5, a6, a7, a8, a9, a10, a11, a12, a13, a14, a15⟩ := id hm
  have hm0 := hm
  obtain ⟨d1, d2, d3, d4, d5, d6⟩ := hd
  obtain ⟨b1, b2, b3, b4, b5⟩ := hb
  refine Sp.of 1 (by decide) rfl rfl (Nat.le_of_ble_eq_true rfl) ?_
  refine z_aload_n dX12_isOf_0 rfl ?_
  refine z_getR dX12_isOf_1 fX12_13 (by first | assumption | exact And.left (by assumption)) rfl ?_
  refine z_iload_n dX12_isOf_4 rfl ?_
  refine z_iconst (v := nI 1) dX12_isOf_5 rfl ?_
  refine z_addN dX12_isOf_6 ?_
  refine z_ialdN dX12_isOf_7 (by first | assumption | exact And.left (by assumption)) (by omega) (by decide) ha ?_
  refine z_if_neN (tgt := 13) dX12_isOf_8 (by decide) (by omega) (fun c_8 => ?_) (fun c_8 => ?_)
  · exact absurd rfl c_8
  · refine z_iconst (v := nI 0) dX12_isOf_11 rfl ?_
    refine z_zreturn dX12_isOf_12 (Nat.le_of_ble_eq_true rfl) (Nat.le_of_ble_eq_true rfl) rfl (by first | exact Or.inl rfl | exact Or.inr rfl | exact zb_01 _ | assumption) ?_
    exact zi_r (zb_f (fun q => q)).symm

set_option maxHeartbeats 4000000 in
set_option maxRecDepth 100000 in
theorem s_isOfS {D : zD} {z0 nx : Nat} {L : zL} {V : zV} {m i p q : Nat} {d : Df} (hm : sM L m) (hi : i < 2) (hd : MXd (V (m + 1)) (2140 + 1600 * i) d) (hb : Dfb d) (hp : p + 5 ≤ 5343) (ha : AT (V (m + 1)) p (some q)) : Sp D z0 2 0 0 mX12_isOf [.ref m, .int (nI i), .int (nI p)] L V nx (zi (zb (iso d (some q))) L V nx) := by
  obtain ⟨a0, a1, a2, a3, a4, a5, a6, a7, a8, a9, a10, a11, a12, a13, a14, a15⟩ := id hm
  have hm0 := hm
  obtain ⟨d1, d2, d3, d4, d5, d6⟩ := hd
  obtain ⟨b1, b2, b3, b4, b5⟩ := hb
  obtain ⟨t1, t2, t3⟩ := ha
  refine Sp.of 1 (by decide) rfl rfl (Nat.le_of_ble_eq_true rfl) ?_
  refine z_aload_n dX12_isOf_0 rfl ?_
  refine z_getR dX12_isOf_1 fX12_13 (by first | assumption | exact And.left (by assumption)) rfl ?_
  refine z_iload_n dX12_isOf_4 rfl ?_
  refine z_iconst (v := nI 1) dX12_isOf_5 rfl ?_
  refine z_addN dX12_isOf_6 ?_
  refine z_ialdN dX12_isOf_7 (by first | assumption | exact And.left (by assumption)) (by omega) (by decide) t1 ?_
  refine z_if_neN (tgt := 13) dX12_isOf_8 (by decide) (by omega) (fun c_8 => ?_) (fun c_8 => ?_)
  · refine z_aload_n dX12_isOf_13 rfl ?_
    refine z_iload_n dX12_isOf_14 rfl ?_
    refine z_bipush (v := nI 9) dX12_isOf_15 rfl ?_
    refine z_callV2i dX12_isOf_17 kX12_ofIndex lX12_104 (by first | assumption | exact And.left (by assumption)) rfl (s_ofIx hm0 hi (by omega) d4) (Nat.le_of_ble_eq_true rfl) (Nat.le_of_ble_eq_true rfl) ⟨Nat.le_of_ble_eq_true rfl, Nat.le_of_ble_eq_true rfl⟩ ?_
    refine z_istore_n dX12_isOf_20 (Nat.le_of_ble_eq_true rfl) rfl ?_
    refine z_iload_n dX12_isOf_21 rfl ?_
    refine z_iconst (v := (-1)) dX12_isOf_22 rfl ?_
    refine z_icmp_ne (tgt := 28) dX12_isOf_23 (by decide) (fun c_23 => ?_) (fun c_23 => ?_)
    · have hpt : d.2.2.1 = true := Classical.byContradiction (fun z => c_23 (if_neg z))
      rw [if_pos hpt]
      have hq3 := pt_lt d.2.2.2.1 t2
      have tv := t3 d.2.2.2.1 b3
      refine z_aload_n dX12_isOf_28 rfl ?_
      refine z_iload_n dX12_isOf_29 rfl ?_
      refine z_bipush (v := nI 10) dX12_isOf_30 rfl ?_
      refine z_callV2i dX12_isOf_32 kX12_ofIndex lX12_104 (by first | assumption | exact And.left (by assumption)) rfl (s_ofIx hm0 hi (by omega) d5) (Nat.le_of_ble_eq_true rfl) (Nat.le_of_ble_eq_true rfl) ⟨Nat.le_of_ble_eq_true rfl, Nat.le_of_ble_eq_true rfl⟩ ?_
      refine z_aload_n dX12_isOf_35 rfl ?_
      refine z_getR dX12_isOf_36 fX12_13 (by first | assumption | exact And.left (by assumption)) rfl ?_
      refine z_iload_n dX12_isOf_39 rfl ?_
      refine z_iconst (v := nI 2) dX12_isOf_40 rfl ?_
      refine z_addN dX12_isOf_41 ?_
      refine z_iload_n dX12_isOf_42 rfl ?_
      refine z_addN dX12_isOf_43 ?_
      refine z_ialdN dX12_isOf_44 (by first | assumption | exact And.left (by assumption)) (by omega) (by decide) tv ?_
      refine z_aload_n dX12_isOf_45 rfl ?_
      refine z_iload_n dX12_isOf_46 rfl ?_
      refine z_bipush (v := nI 11) dX12_isOf_47 rfl ?_
      refine z_callV2i dX12_isOf_49 kX12_ofIndex lX12_104 (by first | assumption | exact And.left (by assumption)) rfl (s_ofIx hm0 hi (by omega) d6) (Nat.le_of_ble_eq_true rfl) (Nat.le_of_ble_eq_true rfl) ⟨Nat.le_of_ble_eq_true rfl, Nat.le_of_ble_eq_true rfl⟩ ?_
      refine z_callS3i dX12_isOf_52 kX12_holds lX12_107 (s_holds (by omega) (by omega) (by omega)) (Nat.le_of_ble_eq_true rfl) (Nat.le_of_ble_eq_true rfl) ⟨Nat.le_of_ble_eq_true rfl, Nat.le_of_ble_eq_true rfl⟩ ?_
      refine z_zreturn dX12_isOf_55 (Nat.le_of_ble_eq_true rfl) (Nat.le_of_ble_eq_true rfl) rfl (by first | exact Or.inl rfl | exact Or.inr rfl | exact zb_01 _ | assumption) ?_
      exact zi_r (zb_iff ⟨fun z q9 => q9.2 z, fun z => Classical.byContradiction (fun q9 => z ⟨hpt, q9⟩)⟩)
    · have hpf : ¬ d.2.2.1 = true := fun z => by rw [if_pos z] at c_23; exact nI_ne_m1 (by omega) c_23
      refine z_iconst (v := nI 1) dX12_isOf_26 rfl ?_
      refine z_zreturn dX12_isOf_27 (Nat.le_of_ble_eq_true rfl) (Nat.le_of_ble_eq_true rfl) rfl (by first | exact Or.inl rfl | exact Or.inr rfl | exact zb_01 _ | assumption) ?_
      exact zi_r (zb_t (fun z => hpf z.1)).symm
  · exact absurd c_8 (by omega)

theorem s_isOf {D : zD} {z0 nx : Nat} {L : zL} {V : zV} {m i p : Nat} {d : Df} (hm : sM L m) (hi : i < 2) (hd : MXd (V (m + 1)) (2140 + 1600 * i) d) (hb : Dfb d) {v : Option Nat} (hp : p + 5 ≤ 5343) (ha : AT (V (m + 1)) p v) : Sp D z0 2 0 0 mX12_isOf [.ref m, .int (nI i), .int (nI p)] L V nx (zi (zb (iso d v)) L V nx) := by
  cases v with
  | none => exact s_isOfN hm hi hd hb hp ha
  | some q => exact s_isOfS hm hi hd hb hp ha

/-- the key at hand is that of a rank -/
def KR (V : zV) (m : Nat) (d : Df) (r : Nat) : Prop := ∀ j, j < d.1.length → V (m + 4) j = nI (kr d r j)
theorem KR.eq {V V' : zV} {m lo hi r : Nat} {d : Df} (h : KR V m d r) (he : zEq V V' lo hi) (hd : m + 5 ≤ lo ∨ hi ≤ m + 4) : KR V' m d r := fun j hj => by rw [he (m + 4) (by omega)]; exact h j hj
theorem tu_tu {b : Bool} {x : Nat} (h : x < 100) : tu b (tu b x) = x := by cases b <;> simp [tu] <;> omega
theorem pt_cat {a b c : Nat} (ha : a < 100) (hb : b < 100) (hc : c < 100) : pt ((a * 100 + b) * 100 + c) 0 = a ∧ pt ((a * 100 + b) * 100 + c) 1 = b ∧ pt ((a * 100 + b) * 100 + c) 2 = c := by
  refine ⟨?_, ?_, ?_⟩
  · show ((a * 100 + b) * 100 + c) / 10000 = a
    omega
  · show ((a * 100 + b) * 100 + c) / 100 % 100 = b
    omega
  · show ((a * 100 + b) * 100 + c) % 100 = c
    omega
theorem pt_rk {o : List (Nat × Bool)} {p k : Nat} (hp : p < 1000000) (hk : k < 3) : pt (rk o p 3) k = rs o p k := by
  have e : rk o p 3 = (rs o p 0 * 100 + rs o p 1) * 100 + rs o p 2 := by
    show ((0 * 100 + rs o p 0) * 100 + rs o p 1) * 100 + rs o p 2 = _
    omega
  have h := pt_cat (rs_lt o hp 0) (rs_lt o hp 1) (rs_lt o hp 2)
  rw [e]
  rcases (show k = 0 ∨ k = 1 ∨ k = 2 by omega) with rfl | rfl | rfl
  · exact h.1
  · exact h.2.1
  · exact h.2.2
theorem kr_rk {d : Df} {p k : Nat} (hb : Dfb d) (hp : p < 1000000) (hk : k < d.1.length) : kr d (rk d.1 p 3) k = pt p (d.1.getD k (0, false)).1 := by
  have h3 := hb.1
  unfold kr
  rw [pt_rk hp (by omega), rs, if_pos hk]
  exact tu_tu (pt_lt _ hp)
theorem RV_rk {d : Df} {p : Nat} (hp : p < 1000000) : RV d (rk d.1 p 3) := ⟨(rk_3 d.1 hp).2.2, fun k h1 h2 => by rw [pt_rk hp h2, rs, if_neg (by omega)]⟩
theorem pt_eq {a b : Nat} (ha : a < 1000000) (hb : b < 1000000) (h : ∀ k, k < 3 → pt a k = pt b k) : a = b := by
  have h0 := h 0 (by omega)
  have h1 := h 1 (by omega)
  have h2 := h 2 (by omega)
  have e0 : a / 10000 = b / 10000 := h0
  have e1 : a / 100 % 100 = b / 100 % 100 := h1
  have e2 : a % 100 = b % 100 := h2
  omega

set_option maxHeartbeats 4000000 in
set_option maxRecDepth 100000 in
theorem lp_lk {D : zD} {z0 nx : Nat} {L : zL} {V : zV} {m i p q : Nat} {d : Df} (hm : sM L m) (hi : i < 2) (hd : MXd (V (m + 1)) (2140 + 1600 * i) d) (hb : Dfb d) (hp : p + 5 ≤ 5343) (ha : AT (V (m + 1)) p (some q)) : ∀ (fu : Nat) (j : Nat) (V1 : zV), 3 - j = fu → j ≤ 3 → zEq V V1 (m + 4) (m + 5) → (∀ k, k < j → k < d.1.length → V1 (m + 4) k = nI (pt q (d.1.getD k (0, false)).1)) → Z D z0 3 0 0 mX12_laysKey 0 0 2 [some (.ref m), some (.int (nI i)), some (.int (nI p)), some (.int (nI j))] [] L V1 nx (zq none L nx (fun V' => zEq V V' (m + 4) (m + 5) ∧ KR V' m d (rk d.1 q 3))) := by
  intro fu
  induction fu using Nat.strongRecOn with
  | ind fu ih =>
    intro j V1 h_fu h_0 h_1 h_2
    have hm0 := hm
    obtain ⟨a0, a1, a2, a3, a4, a5, a6, a7, a8, a9, a10, a11, a12, a13, a14, a15⟩ := hm
    have hb0 := hb
    obtain ⟨t1, t2, t3⟩ := ha
    have hA : V1 (m + 1) = V (m + 1) := h_1 (m + 1) (by omega)
    have hd1 : MXd (V1 (m + 1)) (2140 + 1600 * i) d := by rw [hA]; exact hd
    obtain ⟨b1, b2, b3, b4, b5⟩ := hb
    refine z_iload_n dX12_laysKey_2 rfl ?_
    refine z_iconst (v := nI 3) dX12_laysKey_3 rfl ?_
    refine z_icmp_geN (tgt := 48) dX12_laysKey_4 (by decide) (by omega) (by omega) (fun c_4 => ?_) (fun c_4 => ?_)
    · refine z_return dX12_laysKey_48 (Nat.le_of_ble_eq_true rfl) (Nat.le_of_ble_eq_true rfl) rfl ?_
      exact ⟨rfl, rfl, rfl, h_1, fun k hk => by rw [kr_rk hb0 t2 hk]; exact h_2 k (by omega) hk⟩
    · refine z_aload_n dX12_laysKey_7 rfl ?_
      refine z_getR dX12_laysKey_8 fX12_25 (by first | assumption | exact And.left (by assumption)) rfl ?_
      refine z_iload_n dX12_laysKey_11 rfl ?_
      refine z_iload_n dX12_laysKey_12 rfl ?_
      refine z_aload_n dX12_laysKey_13 rfl ?_
      refine z_iload_n dX12_laysKey_14 rfl ?_
      refine z_iconst (v := nI 5) dX12_laysKey_15 rfl ?_
      refine z_callV2i dX12_laysKey_16 kX12_ofIndex lX12_104 (by first | assumption | exact And.left (by assumption)) rfl (s_ofIx hm0 hi (by omega) hd1.2.1) (Nat.le_of_ble_eq_true rfl) (Nat.le_of_ble_eq_true rfl) ⟨Nat.le_of_ble_eq_true rfl, Nat.le_of_ble_eq_true rfl⟩ ?_
      refine z_icmp_geN (tgt := 40) dX12_laysKey_19 (by decide) (by omega) (by omega) (fun c_19 => ?_) (fun c_19 => ?_)
      · refine z_iconst (v := nI 0) dX12_laysKey_40 rfl ?_
        refine z_iastN dX12_laysKey_41 (by first | assumption | exact And.left (by assumption)) (by omega) (by decide) ?_
        refine z_incN dX12_laysKey_42 rfl rfl ?_
        refine z_goto (tgt := 2) dX12_laysKey_45 (by decide) ?_
        refine ih _ (by omega) (j + 1) _ rfl (by omega) (h_1.up (by omega) (by omega)) (fun k hk hk2 => ?_)
        by_cases e : k = j
        · subst e
          rw [zup_s] <;> first | rfl | (exfalso; omega)
        · rw [zup_k e]
          exact h_2 k (by omega) hk2
      · have b2j := b2 j c_19
        have tv := t3 (d.1.getD j (0, false)).1 b2j
        refine z_aload_n dX12_laysKey_22 rfl ?_
        refine z_getR dX12_laysKey_23 fX12_13 (by first | assumption | exact And.left (by assumption)) rfl ?_
        refine z_iload_n dX12_laysKey_26 rfl ?_
        refine z_iconst (v := nI 2) dX12_laysKey_27 rfl ?_
        refine z_addN dX12_laysKey_28 ?_
        refine z_aload_n dX12_laysKey_29 rfl ?_
        refine z_iload_n dX12_laysKey_30 rfl ?_
        refine z_iload_n dX12_laysKey_31 rfl ?_
        refine z_callV2i dX12_laysKey_32 kX12_columnOf lX12_111 (by first | assumption | exact And.left (by assumption)) rfl (s_mCol hm0 hi hd1 hb0 c_19) (Nat.le_of_ble_eq_true rfl) (Nat.le_of_ble_eq_true rfl) ⟨Nat.le_of_ble_eq_true rfl, Nat.le_of_ble_eq_true rfl⟩ ?_
        refine z_addN dX12_laysKey_35 ?_
        refine z_ialdN dX12_laysKey_36 (by first | assumption | exact And.left (by assumption)) (by omega) (by decide) ((congrFun hA _).trans tv) ?_
        refine z_goto (tgt := 41) dX12_laysKey_37 (by decide) ?_
        refine z_iastN dX12_laysKey_41 (by first | assumption | exact And.left (by assumption)) (by omega) (by decide) ?_
        refine z_incN dX12_laysKey_42 rfl rfl ?_
        refine z_goto (tgt := 2) dX12_laysKey_45 (by decide) ?_
        refine ih _ (by omega) (j + 1) _ rfl (by omega) (h_1.up (by omega) (by omega)) (fun k hk hk2 => ?_)
        by_cases e : k = j
        · subst e
          rw [zup_s] <;> first | rfl | (exfalso; omega)
        · rw [zup_k e]
          exact h_2 k (by omega) hk2

set_option maxHeartbeats 4000000 in
set_option maxRecDepth 100000 in
theorem s_lk {D : zD} {z0 nx : Nat} {L : zL} {V : zV} {m i p q : Nat} {d : Df} (hm : sM L m) (hi : i < 2) (hd : MXd (V (m + 1)) (2140 + 1600 * i) d) (hb : Dfb d) (hp : p + 5 ≤ 5343) (ha : AT (V (m + 1)) p (some q)) : Sp D z0 3 0 0 mX12_laysKey [.ref m, .int (nI i), .int (nI p)] L V nx (zq none L nx (fun V' => zEq V V' (m + 4) (m + 5) ∧ KR V' m d (rk d.1 q 3))) := by
  refine Sp.of 1 (by decide) rfl rfl (Nat.le_of_ble_eq_true rfl) ?_
  refine z_iconst (v := nI 0) dX12_laysKey_0 rfl ?_
  refine z_istore_n dX12_laysKey_1 (Nat.le_of_ble_eq_true rfl) rfl ?_
  exact lp_lk hm hi hd hb hp ha _ 0 V rfl (by omega) zEq.rf (fun k hk => absurd hk (by omega))

theorem negI : ∀ k, k < 100 → 0 < k → -(nI k) < 0 ∧ ¬ 0 < -(nI k) ∧ ¬ -(nI k) = 0 := by decide +kernel
theorem dI_n {a b : Nat} (h : a < b) : nI a - nI b = -(nI (b - a)) := by rw [← pk_sub (by omega), Int32.neg_sub]
theorem dI_lt {a b : Nat} (ha : a < 100) (hb : b < 100) : (nI a - nI b < 0 ↔ a < b) ∧ (0 < nI a - nI b ↔ b < a) ∧ (nI a - nI b = 0 ↔ a = b) := by
  rcases Nat.lt_or_ge a b with h | h
  · rw [dI_n h]
    have n := negI (b - a) (by omega) (by omega)
    exact ⟨⟨fun _ => h, fun _ => n.1⟩, ⟨fun q => absurd q n.2.1, fun q => absurd q (by omega)⟩, ⟨fun q => absurd q n.2.2, fun q => absurd q (by omega)⟩⟩
  · rw [pk_sub h]
    refine ⟨⟨fun q => absurd q (nI_pos (by omega)), fun q => absurd q (by omega)⟩, ⟨fun q => ?_, fun q => nI_lt (a := 0) (by omega) (by omega)⟩, ⟨fun q => ?_, fun q => by rw [q, Nat.sub_self]; rfl⟩⟩
    · rcases Nat.lt_or_ge b a with h2 | h2
      · exact h2
      · rw [show a - b = 0 by omega] at q
        exact absurd q (by decide)
    · have := nI_inj (a := a - b) (b := 0) (by omega) (by omega) (show nI (a - b) = nI 0 from q)
      omega
/-- how a rank comes to another one, by their parts from k on, f of them -/
def cK (r2 r : Nat) : Nat → Nat → Int32
  | 0, _ => 0
  | f + 1, k => if pt r2 k = pt r k then cK r2 r f (k + 1) else nI (pt r2 k) - nI (pt r k)
theorem pt_lex {a b : Nat} (ha : a < 1000000) (hb : b < 1000000) : a < b ↔ (pt a 0 < pt b 0 ∨ pt a 0 = pt b 0 ∧ (pt a 1 < pt b 1 ∨ pt a 1 = pt b 1 ∧ pt a 2 < pt b 2)) := by
  show a < b ↔ (a / 10000 < b / 10000 ∨ a / 10000 = b / 10000 ∧ (a / 100 % 100 < b / 100 % 100 ∨ a / 100 % 100 = b / 100 % 100 ∧ a % 100 < b % 100))
  omega
theorem cK_3 {r2 r : Nat} (h2 : r2 < 1000000) (h1 : r < 1000000) : (cK r2 r 3 0 < 0 ↔ r2 < r) ∧ (cK r2 r 3 0 = 0 ↔ r2 = r) ∧ (0 < cK r2 r 3 0 ↔ r < r2) := by
  have l1 := pt_lex h2 h1
  have l2 := pt_lex h1 h2
  have p0 := pt_lt 0 h1
  have p1 := pt_lt 1 h1
  have p2 := pt_lt 2 h1
  have q0 := pt_lt 0 h2
  have q1 := pt_lt 1 h2
  have q2 := pt_lt 2 h2
  obtain ⟨d01, d02, d03⟩ := dI_lt q0 p0
  obtain ⟨d11, d12, d13⟩ := dI_lt q1 p1
  obtain ⟨d21, d22, d23⟩ := dI_lt q2 p2
  have hq : r2 = r → pt r2 0 = pt r 0 ∧ pt r2 1 = pt r 1 ∧ pt r2 2 = pt r 2 := fun q => by rw [q]; exact ⟨rfl, rfl, rfl⟩
  by_cases c0 : pt r2 0 = pt r 0
  · by_cases c1 : pt r2 1 = pt r 1
    · by_cases c2 : pt r2 2 = pt r 2
      · have e : cK r2 r 3 0 = 0 := by rw [cK, if_pos c0, cK, if_pos c1, cK, if_pos c2, cK]
        have er : r2 = r := pt_eq h2 h1 (fun k hk => by rcases (show k = 0 ∨ k = 1 ∨ k = 2 by omega) with rfl | rfl | rfl <;> assumption)
        rw [e]
        exact ⟨⟨fun q => absurd q (by decide), fun q => absurd q (by omega)⟩, ⟨fun _ => er, fun _ => rfl⟩, ⟨fun q => absurd q (by decide), fun q => absurd q (by omega)⟩⟩
      · have e : cK r2 r 3 0 = nI (pt r2 2) - nI (pt r 2) := by rw [cK, if_pos c0, cK, if_pos c1, cK, if_neg c2]
        rw [e, d21, d22, d23]
        exact ⟨by omega, ⟨fun q => absurd q c2, fun q => (hq q).2.2⟩, by omega⟩
    · have e : cK r2 r 3 0 = nI (pt r2 1) - nI (pt r 1) := by rw [cK, if_pos c0, cK, if_neg c1]
      rw [e, d11, d12, d13]
      exact ⟨by omega, ⟨fun q => absurd q c1, fun q => (hq q).2.1⟩, by omega⟩
  · have e : cK r2 r 3 0 = nI (pt r2 0) - nI (pt r 0) := by rw [cK, if_neg c0]
    rw [e, d01, d02, d03]
    exact ⟨by omega, ⟨fun q => absurd q c0, fun q => (hq q).1⟩, by omega⟩
theorem cK_z {r2 r n : Nat} (h4 : ∀ j, n ≤ j → j < 3 → pt r2 j = pt r j) : ∀ g j, n ≤ j → j + g = 3 → cK r2 r g j = 0
  | 0, _, _, _ => rfl
  | g + 1, j, j1, j2 => by
    unfold cK
    rw [if_pos (h4 j j1 (by omega))]
    exact cK_z h4 g (j + 1) (by omega) (by omega)
/-- parts behind the columns are alike -/
theorem cK_n {r2 r n : Nat} (h4 : ∀ j, n ≤ j → j < 3 → pt r2 j = pt r j) : ∀ (f k : Nat), n ≤ 3 → k + f = 3 → k ≤ n → cK r2 r (n - k) k = cK r2 r f k
  | 0, k, h1, h2, h3 => by rw [show n - k = 0 by omega]
  | f + 1, k, h1, h2, h3 => by
    by_cases e : k = n
    · subst e
      rw [show k - k = 0 by omega, cK_z h4 (f + 1) k (Nat.le_refl k) h2]
      rfl
    · rw [show n - k = (n - (k + 1)) + 1 by omega]
      unfold cK
      rw [cK_n h4 f (k + 1) h1 (by omega) (by omega)]
theorem cK_rv {d : Df} {r2 r : Nat} (hb : Dfb d) (h2 : RV d r2) (h1 : RV d r) : cK r2 r d.1.length 0 = cK r2 r 3 0 := by
  have := cK_n (r2 := r2) (r := r) (n := d.1.length) (fun j j1 j2 => by rw [h2.2 j j1 j2, h1.2 j j1 j2]) 3 0 hb.1 rfl (by omega)
  rw [← this]
  rfl
theorem kr_sub {d : Df} {r2 r k : Nat} (h2 : r2 < 1000000) (h1 : r < 1000000) : ((d.1.getD k (0, false)).2 = true → -(nI (kr d r2 k) - nI (kr d r k)) = nI (pt r2 k) - nI (pt r k)) ∧ (¬ (d.1.getD k (0, false)).2 = true → nI (kr d r2 k) - nI (kr d r k) = nI (pt r2 k) - nI (pt r k)) := by
  have q2 := pt_lt k h2
  have q1 := pt_lt k h1
  unfold kr
  constructor
  · intro h
    rw [h]
    show -(nI (99 - pt r2 k) - nI (99 - pt r k)) = _
    rw [Int32.neg_sub]
    rcases Nat.lt_or_ge (pt r2 k) (pt r k) with c | c
    · rw [dI_n c, dI_n (show 99 - pt r k < 99 - pt r2 k by omega)]
      congr 2
      omega
    · rw [pk_sub c, pk_sub (show 99 - pt r2 k ≤ 99 - pt r k by omega)]
      congr 1
      omega
  · intro h
    have hf : (d.1.getD k (0, false)).2 = false := by cases hq : (d.1.getD k (0, false)).2 with | false => rfl | true => exact absurd hq h
    rw [hf]
    rfl
theorem kr_lt {d : Df} {r k : Nat} (h : r < 1000000) : kr d r k < 100 := tu_lt _ (pt_lt k h)
theorem kr_inj {d : Df} {r2 r k : Nat} (h2 : r2 < 1000000) (h1 : r < 1000000) : kr d r2 k = kr d r k ↔ pt r2 k = pt r k := by
  have q2 := pt_lt k h2
  have q1 := pt_lt k h1
  unfold kr
  cases (d.1.getD k (0, false)).2 <;> simp [tu] <;> omega

set_option maxHeartbeats 4000000 in
set_option maxRecDepth 100000 in
theorem lp_ck {D : zD} {z0 nx : Nat} {L : zL} {V : zV} {m i p r r2 : Nat} {d : Df} (hm : sM L m) (hi : i < 2) (hd : MXd (V (m + 1)) (2140 + 1600 * i) d) (hb : Dfb d) (hp : p + 3 ≤ 5343) (hk : KR V m d r) (he : MK (V (m + 1)) p d r2) (h1 : r < 1000000) (h2 : r2 < 1000000) : ∀ (fu : Nat) (j : Nat), d.1.length - j = fu → j ≤ d.1.length → Z D z0 3 0 0 mX12_comparesKey 0 0 2 [some (.ref m), some (.int (nI i)), some (.int (nI p)), some (.int (nI j)), none] [] L V nx (zi (cK r2 r (d.1.length - j) j) L V nx) := by
  intro fu
  induction fu using Nat.strongRecOn with
  | ind fu ih =>
    intro j h_fu h_0
    have hm0 := hm
    obtain ⟨a0, a1, a2, a3, a4, a5, a6, a7, a8, a9, a10, a11, a12, a13, a14, a15⟩ := hm
    have hb0 := hb
    have hb1 := hb.1
    have hl2 := kr_lt (d := d) (k := j) h2
    have hl1 := kr_lt (d := d) (k := j) h1
    have hs := kr_sub (d := d) (k := j) h2 h1
    have hij := kr_inj (d := d) (k := j) h2 h1
    have hdz := (dI_lt hl2 hl1).2.2
    refine z_iload_n dX12_comparesKey_2 rfl ?_
    refine z_aload_n dX12_comparesKey_3 rfl ?_
    refine z_iload_n dX12_comparesKey_4 rfl ?_
    refine z_iconst (v := nI 5) dX12_comparesKey_5 rfl ?_
    refine z_callV2i dX12_comparesKey_6 kX12_ofIndex lX12_104 (by first | assumption | exact And.left (by assumption)) rfl (s_ofIx hm0 hi (by omega) hd.2.1) (Nat.le_of_ble_eq_true rfl) (Nat.le_of_ble_eq_true rfl) ⟨Nat.le_of_ble_eq_true rfl, Nat.le_of_ble_eq_true rfl⟩ ?_
    refine z_icmp_geN (tgt := 58) dX12_comparesKey_9 (by decide) (by omega) (by omega) (fun c_9 => ?_) (fun c_9 => ?_)
    · refine z_iconst (v := nI 0) dX12_comparesKey_58 rfl ?_
      refine z_ireturn dX12_comparesKey_59 (Nat.le_of_ble_eq_true rfl) (Nat.le_of_ble_eq_true rfl) rfl ?_
      exact zi_r (by rw [show d.1.length - j = 0 by omega] <;> rfl)
    · have eC : cK r2 r (d.1.length - j) j = if pt r2 j = pt r j then cK r2 r (d.1.length - (j + 1)) (j + 1) else nI (pt r2 j) - nI (pt r j) := by
        rw [show d.1.length - j = (d.1.length - (j + 1)) + 1 by omega]
        rfl
      refine z_aload_n dX12_comparesKey_12 rfl ?_
      refine z_getR dX12_comparesKey_13 fX12_13 (by first | assumption | exact And.left (by assumption)) rfl ?_
      refine z_iload_n dX12_comparesKey_16 rfl ?_
      refine z_iload_n dX12_comparesKey_17 rfl ?_
      refine z_addN dX12_comparesKey_18 ?_
      refine z_ialdN dX12_comparesKey_19 (by first | assumption | exact And.left (by assumption)) (by omega) (by decide) (he j (by omega)) ?_
      refine z_aload_n dX12_comparesKey_20 rfl ?_
      refine z_getR dX12_comparesKey_21 fX12_25 (by first | assumption | exact And.left (by assumption)) rfl ?_
      refine z_iload_n dX12_comparesKey_24 rfl ?_
      refine z_ialdN dX12_comparesKey_25 (by first | assumption | exact And.left (by assumption)) (by omega) (by decide) (hk j (by omega)) ?_
      refine z_isub dX12_comparesKey_26 ?_
      refine z_istore dX12_comparesKey_27 (Nat.le_of_ble_eq_true rfl) rfl ?_
      refine z_iload dX12_comparesKey_29 rfl ?_
      refine z_if_eq (tgt := 52) dX12_comparesKey_31 (by decide) (fun c_31 => ?_) (fun c_31 => ?_)
      · have eE : pt r2 j = pt r j := hij.mp (hdz.mp c_31)
        rw [if_pos eE] at eC
        refine z_incN dX12_comparesKey_52 rfl rfl ?_
        refine z_goto (tgt := 2) dX12_comparesKey_55 (by decide) ?_
        refine z_fg 4 ?_
        have hz := ih _ (by omega) (j + 1) rfl (by omega)
        rw [← eC] at hz
        exact hz
      · have eE : ¬ pt r2 j = pt r j := fun q => c_31 (hdz.mpr (hij.mpr q))
        rw [if_neg eE] at eC
        refine z_aload_n dX12_comparesKey_34 rfl ?_
        refine z_iload_n dX12_comparesKey_35 rfl ?_
        refine z_iload_n dX12_comparesKey_36 rfl ?_
        refine z_callV2i dX12_comparesKey_37 kX12_isDown lX12_114 (by first | assumption | exact And.left (by assumption)) rfl (s_mDown hm0 hi hd hb0 (by omega)) (Nat.le_of_ble_eq_true rfl) (Nat.le_of_ble_eq_true rfl) ⟨Nat.le_of_ble_eq_true rfl, Nat.le_of_ble_eq_true rfl⟩ ?_
        refine z_if_eqB (tgt := 49) dX12_comparesKey_40 (by decide) (fun c_40 => ?_) (fun c_40 => ?_)
        · refine z_iload dX12_comparesKey_49 rfl ?_
          refine z_ireturn dX12_comparesKey_51 (Nat.le_of_ble_eq_true rfl) (Nat.le_of_ble_eq_true rfl) rfl ?_
          exact zi_r (by rw [eC]; first | exact hs.1 c_40 | exact hs.2 c_40)
        · refine z_iload dX12_comparesKey_43 rfl ?_
          refine z_ineg dX12_comparesKey_45 ?_
          refine z_goto (tgt := 51) dX12_comparesKey_46 (by decide) ?_
          refine z_ireturn dX12_comparesKey_51 (Nat.le_of_ble_eq_true rfl) (Nat.le_of_ble_eq_true rfl) rfl ?_
          exact zi_r (by rw [eC]; first | exact hs.1 c_40 | exact hs.2 c_40)

set_option maxHeartbeats 4000000 in
set_option maxRecDepth 100000 in
theorem s_ck {D : zD} {z0 nx : Nat} {L : zL} {V : zV} {m i p r r2 : Nat} {d : Df} (hm : sM L m) (hi : i < 2) (hd : MXd (V (m + 1)) (2140 + 1600 * i) d) (hb : Dfb d) (hp : p + 3 ≤ 5343) (hk : KR V m d r) (he : MK (V (m + 1)) p d r2) (h1 : r < 1000000) (h2 : r2 < 1000000) : Sp D z0 3 0 0 mX12_comparesKey [.ref m, .int (nI i), .int (nI p)] L V nx (zi (cK r2 r d.1.length 0) L V nx) := by
  refine Sp.of 2 (by decide) rfl rfl (Nat.le_of_ble_eq_true rfl) ?_
  refine z_iconst (v := nI 0) dX12_comparesKey_0 rfl ?_
  refine z_istore_n dX12_comparesKey_1 (Nat.le_of_ble_eq_true rfl) rfl ?_
  exact lp_ck hm hi hd hb hp hk he h1 h2 _ 0 rfl (by omega)

set_option maxHeartbeats 4000000 in
set_option maxRecDepth 100000 in
theorem s_entAt {D : zD} {z0 nx : Nat} {L : zL} {V : zV} {m i k : Nat} (hi : i < 2) (hk : k < 1000) : Sp D z0 1 0 0 mX12_entryAt [.ref m, .int (nI i), .int (nI k)] L V nx (zi (nI (2140 + 1600 * i + 16 + 4 * k)) L V nx) := by
  refine Sp.of 0 (by decide) rfl rfl (Nat.le_of_ble_eq_true rfl) ?_
  refine z_sipush (v := nI 2140) dX12_entryAt_0 rfl ?_
  refine z_sipush (v := nI 1600) dX12_entryAt_3 rfl ?_
  refine z_iload_n dX12_entryAt_6 rfl ?_
  refine z_mulN dX12_entryAt_7 ?_
  refine z_addN dX12_entryAt_8 ?_
  refine z_bipush (v := nI 16) dX12_entryAt_9 rfl ?_
  refine z_addN dX12_entryAt_11 ?_
  refine z_iconst (v := nI 4) dX12_entryAt_12 rfl ?_
  refine z_iload_n dX12_entryAt_13 rfl ?_
  refine z_mulN dX12_entryAt_14 ?_
  refine z_addN dX12_entryAt_15 ?_
  refine z_ireturn dX12_entryAt_16 (Nat.le_of_ble_eq_true rfl) (Nat.le_of_ble_eq_true rfl) rfl ?_
  exact zi_r rfl

