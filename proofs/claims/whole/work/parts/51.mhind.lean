/-! the reference: what hinders a commit -/
theorem MB.st {f : Nat → Int32} {s s' : St} (h : MB f s) (h1 : s'.1 = s.1) (h2 : ∀ r, r < 48 → s'.2.1 r = s.2.1 r) (h3 : ∀ t, t < 4 → s'.2.2.1 t = s.2.2.1 t) (h4 : ∀ i, i < 2 → s'.2.2.2 i = s.2.2.2 i) : MB f s' := ⟨by rw [h1]; exact h.1, fun r hr => by rw [h2 r hr]; exact h.2.1 r hr, fun t ht => by rw [h3 t ht]; exact h.2.2.1 t ht, fun i hi => by rw [h4 i hi]; exact h.2.2.2 i hi⟩
noncomputable def wap (ws l : List (Nat × Option Nat)) (t r : Nat) : Nat := if wpl ws r < ws.length then 1968 + 43 * t + 3 + 5 * wpl ws r else 40 * r + 5 * (l.length - 1)
theorem wap_lt {ws l : List (Nat × Option Nat)} {t r : Nat} (ht : t < 4) (hr : r < 48) (hw : ws.length ≤ 8) (h1 : 1 ≤ l.length) (h8 : l.length ≤ 8) : wap ws l t r + 5 ≤ 2140 := by
  unfold wap
  split <;> omega
theorem wap_at {f : Nat → Int32} {t r : Nat} {ws : List (Nat × Option Nat)} {v : Vs} {x : Tr} (hw : MTw f (1968 + 43 * t) ws x) (hx : MVr f r (v r)) (hr : r < 48) : AT f (wap ws (v r) t r) (wr v x.2.2 r) := by
  unfold wap
  by_cases hp : wpl ws r < ws.length
  · rw [if_pos hp, wr_y (wpl_y hw hp).1]
    exact (wpl_y hw hp).2.1
  · rw [if_neg hp, wr_n (fun q => q (wpl_n hw hr hp))]
    exact (hx.2.2.2 _ (by have := hx.2.1; omega)).2.2
def twin (d : Df) (vo vn : Option Nat) : Prop := ∃ a b, vo = some a ∧ vn = some b ∧ rk d.1 a 3 = rk d.1 b 3
def mrB (d : Df) (v : Vs) (w : Nat → Option (Option Nat)) (r q : Nat) : Prop := ¬ q = r ∧ iso d (wr v w q) ∧ twin d (wr v w r) (wr v w q)
def mrR (d : Df) (v : Vs) (w : Nat → Option (Option Nat)) (r : Nat) : Prop := w r ≠ none ∧ iso d (wr v w r) ∧ ∃ q, q < 48 ∧ mrB d v w r q
def mrA (s : St) (w : Nat → Option (Option Nat)) (i : Nat) : Prop := (s.2.2.2 i).1.1 = 4 ∧ (s.2.2.2 i).2.1.2.1 = true ∧ ∃ r, r < 48 ∧ mrR (s.2.2.2 i).2.1 s.2.1 w r

set_option maxHeartbeats 4000000 in
set_option maxRecDepth 100000 in
theorem lp_mCnf {D : zD} {z0 nx : Nat} {L : zL} {V : zV} {m t : Nat} {s : St} (hm : sM L m) (hB : MB (V (m + 1)) s) (ht : t < 4) : ∀ (fu : Nat) (i : Nat), 48 - i = fu → i ≤ 48 → (∀ k, k < i → ¬ ((s.2.2.1 t).2.2 k ≠ none ∧ (s.2.2.1 t).2.1 < (lst s.2.1 k).1)) → Z D z0 3 0 0 mX12_isConflict 0 0 2 [some (.ref m), some (.int (nI t)), some (.int (nI i))] [] L V nx (zi (zb (∃ k, k < 48 ∧ ((s.2.2.1 t).2.2 k ≠ none ∧ (s.2.2.1 t).2.1 < (lst s.2.1 k).1))) L V nx) := by
  intro fu
  induction fu using Nat.strongRecOn with
  | ind fu ih =>
    intro i h_fu h_0 h_1
    have hm0 := hm
    have hB0 := hB
    obtain ⟨a0, a1, a2, a3, a4, a5, a6, a7, a8, a9, a10, a11, a12, a13, a14, a15⟩ := hm
    have hT0 := hB.2.2.1 t ht
    obtain ⟨x1, x2, x3, ws, xw⟩ := hB.2.2.1 t ht
    have xw0 := xw
    obtain ⟨w1, w2, w3, w4, w5, w6⟩ := xw
    refine z_iload_n dX12_isConflict_2 rfl ?_
    refine z_bipush (v := nI 48) dX12_isConflict_3 rfl ?_
    refine z_icmp_geN (tgt := 45) dX12_isConflict_5 (by decide) (by omega) (by omega) (fun c_5 => ?_) (fun c_5 => ?_)
    · refine z_iconst (v := nI 0) dX12_isConflict_45 rfl ?_
      refine z_zreturn dX12_isConflict_46 (Nat.le_of_ble_eq_true rfl) (Nat.le_of_ble_eq_true rfl) rfl (by first | exact Or.inl rfl | exact Or.inr rfl | exact zb_01 _ | assumption) ?_
      exact zi_r (zb_f (fun ⟨k, q1, q2⟩ => h_1 k (by omega) q2)).symm
    · refine z_aload_n dX12_isConflict_8 rfl ?_
      refine z_iload_n dX12_isConflict_9 rfl ?_
      refine z_iload_n dX12_isConflict_10 rfl ?_
      refine z_callV2i dX12_isConflict_11 kX12_writeAt lX12_98 (by first | assumption | exact And.left (by assumption)) rfl (s_mWr hm0 ht (by omega) xw0) (Nat.le_of_ble_eq_true rfl) (Nat.le_of_ble_eq_true rfl) ⟨Nat.le_of_ble_eq_true rfl, Nat.le_of_ble_eq_true rfl⟩ ?_
      refine z_iconst (v := (-1)) dX12_isConflict_14 rfl ?_
      refine z_icmp_eq (tgt := 39) dX12_isConflict_15 (by decide) (fun c_15 => ?_) (fun c_15 => ?_)
      · have hw : ¬ wpl ws i < ws.length := fun z => by rw [if_pos z] at c_15; exact nI_ne_m1 (by omega) c_15
        have hwn : (s.2.2.1 t).2.2 i = none := wpl_n xw0 (by omega) hw
        have hno : ¬ ((s.2.2.1 t).2.2 i ≠ none ∧ (s.2.2.1 t).2.1 < (lst s.2.1 i).1) := fun z => z.1 hwn
        refine z_incN dX12_isConflict_39 rfl rfl ?_
        refine z_goto (tgt := 2) dX12_isConflict_42 (by decide) ?_
        exact ih _ (by omega) (i + 1) rfl (by omega) (lt_s h_1 hno)
      · have hw : wpl ws i < ws.length := Classical.byContradiction (fun z => c_15 (if_neg z))
        have hwn := (wpl_nn xw0 (r := i) (by omega)).mp hw
        have hv0 := hB0.2.1 i (by omega)
        obtain ⟨v1, v2, v3, v4⟩ := hB0.2.1 i (by omega)
        obtain ⟨u1, u2, u3⟩ := v4 ((s.2.1 i).length - 1) (by omega)
        have u4 : V (m + 1) (40 * i + 5 * ((s.2.1 i).length - 1)) = nI (lst s.2.1 i).1 := u1
        have u5 : (lst s.2.1 i).1 < 1000000 := u2
        refine z_aload_n dX12_isConflict_18 rfl ?_
        refine z_getR dX12_isConflict_19 fX12_13 (by first | assumption | exact And.left (by assumption)) rfl ?_
        refine z_aload_n dX12_isConflict_22 rfl ?_
        refine z_iload_n dX12_isConflict_23 rfl ?_
        refine z_callV1i dX12_isConflict_24 kX12_latest lX12_171 (by first | assumption | exact And.left (by assumption)) rfl (s_mLatest hm0 (by omega) hv0) (Nat.le_of_ble_eq_true rfl) (Nat.le_of_ble_eq_true rfl) ⟨Nat.le_of_ble_eq_true rfl, Nat.le_of_ble_eq_true rfl⟩ ?_
        refine z_ialdN dX12_isConflict_27 (by first | assumption | exact And.left (by assumption)) (by omega) (by decide) u4 ?_
        refine z_aload_n dX12_isConflict_28 rfl ?_
        refine z_iload_n dX12_isConflict_29 rfl ?_
        refine z_iconst (v := nI 1) dX12_isConflict_30 rfl ?_
        refine z_callV2i dX12_isConflict_31 kX12_ofTransaction lX12_94 (by first | assumption | exact And.left (by assumption)) rfl (s_ofTr hm0 ht (by omega) x2) (Nat.le_of_ble_eq_true rfl) (Nat.le_of_ble_eq_true rfl) ⟨Nat.le_of_ble_eq_true rfl, Nat.le_of_ble_eq_true rfl⟩ ?_
        refine z_icmp_leN (tgt := 39) dX12_isConflict_34 (by decide) (by omega) (by omega) (fun c_34 => ?_) (fun c_34 => ?_)
        · have hno : ¬ ((s.2.2.1 t).2.2 i ≠ none ∧ (s.2.2.1 t).2.1 < (lst s.2.1 i).1) := fun z => by have := z.2; omega
          refine z_incN dX12_isConflict_39 rfl rfl ?_
          refine z_goto (tgt := 2) dX12_isConflict_42 (by decide) ?_
          exact ih _ (by omega) (i + 1) rfl (by omega) (lt_s h_1 hno)
        · refine z_iconst (v := nI 1) dX12_isConflict_37 rfl ?_
          refine z_zreturn dX12_isConflict_38 (Nat.le_of_ble_eq_true rfl) (Nat.le_of_ble_eq_true rfl) rfl (by first | exact Or.inl rfl | exact Or.inr rfl | exact zb_01 _ | assumption) ?_
          exact zi_r (zb_t ⟨i, by omega, hwn, by omega⟩).symm

set_option maxHeartbeats 4000000 in
set_option maxRecDepth 100000 in
theorem s_mCnf {D : zD} {z0 nx : Nat} {L : zL} {V : zV} {m t : Nat} {s : St} (hm : sM L m) (hB : MB (V (m + 1)) s) (ht : t < 4) : Sp D z0 3 0 0 mX12_isConflict [.ref m, .int (nI t)] L V nx (zi (zb (∃ k, k < 48 ∧ ((s.2.2.1 t).2.2 k ≠ none ∧ (s.2.2.1 t).2.1 < (lst s.2.1 k).1))) L V nx) := by
  refine Sp.of 1 (by decide) rfl rfl (Nat.le_of_ble_eq_true rfl) ?_
  refine z_iconst (v := nI 0) dX12_isConflict_0 rfl ?_
  refine z_istore_n dX12_isConflict_1 (Nat.le_of_ble_eq_true rfl) rfl ?_
  exact lp_mCnf hm hB ht _ 0 rfl (by omega) (fun k hk => absurd hk (by omega))

set_option maxHeartbeats 4000000 in
set_option maxRecDepth 100000 in
theorem lp_mFull {D : zD} {z0 nx : Nat} {L : zL} {V : zV} {m t : Nat} {s : St} (hm : sM L m) (hB : MB (V (m + 1)) s) (ht : t < 4) : ∀ (fu : Nat) (i : Nat), 48 - i = fu → i ≤ 48 → (∀ k, k < i → ¬ ((s.2.2.1 t).2.2 k ≠ none ∧ 8 ≤ (s.2.1 k).length)) → Z D z0 3 0 0 mX12_isFull 0 0 2 [some (.ref m), some (.int (nI t)), some (.int (nI i))] [] L V nx (zi (zb (∃ k, k < 48 ∧ ((s.2.2.1 t).2.2 k ≠ none ∧ 8 ≤ (s.2.1 k).length))) L V nx) := by
  intro fu
  induction fu using Nat.strongRecOn with
  | ind fu ih =>
    intro i h_fu h_0 h_1
    have hm0 := hm
    have hB0 := hB
    obtain ⟨a0, a1, a2, a3, a4, a5, a6, a7, a8, a9, a10, a11, a12, a13, a14, a15⟩ := hm
    have hT0 := hB.2.2.1 t ht
    obtain ⟨x1, x2, x3, ws, xw⟩ := hB.2.2.1 t ht
    have xw0 := xw
    obtain ⟨w1, w2, w3, w4, w5, w6⟩ := xw
    refine z_iload_n dX12_isFull_2 rfl ?_
    refine z_bipush (v := nI 48) dX12_isFull_3 rfl ?_
    refine z_icmp_geN (tgt := 41) dX12_isFull_5 (by decide) (by omega) (by omega) (fun c_5 => ?_) (fun c_5 => ?_)
    · refine z_iconst (v := nI 0) dX12_isFull_41 rfl ?_
      refine z_zreturn dX12_isFull_42 (Nat.le_of_ble_eq_true rfl) (Nat.le_of_ble_eq_true rfl) rfl (by first | exact Or.inl rfl | exact Or.inr rfl | exact zb_01 _ | assumption) ?_
      exact zi_r (zb_f (fun ⟨k, q1, q2⟩ => h_1 k (by omega) q2)).symm
    · refine z_aload_n dX12_isFull_8 rfl ?_
      refine z_iload_n dX12_isFull_9 rfl ?_
      refine z_iload_n dX12_isFull_10 rfl ?_
      refine z_callV2i dX12_isFull_11 kX12_writeAt lX12_98 (by first | assumption | exact And.left (by assumption)) rfl (s_mWr hm0 ht (by omega) xw0) (Nat.le_of_ble_eq_true rfl) (Nat.le_of_ble_eq_true rfl) ⟨Nat.le_of_ble_eq_true rfl, Nat.le_of_ble_eq_true rfl⟩ ?_
      refine z_iconst (v := (-1)) dX12_isFull_14 rfl ?_
      refine z_icmp_eq (tgt := 35) dX12_isFull_15 (by decide) (fun c_15 => ?_) (fun c_15 => ?_)
      · have hw : ¬ wpl ws i < ws.length := fun z => by rw [if_pos z] at c_15; exact nI_ne_m1 (by omega) c_15
        have hwn : (s.2.2.1 t).2.2 i = none := wpl_n xw0 (by omega) hw
        have hno : ¬ ((s.2.2.1 t).2.2 i ≠ none ∧ 8 ≤ (s.2.1 i).length) := fun z => z.1 hwn
        refine z_incN dX12_isFull_35 rfl rfl ?_
        refine z_goto (tgt := 2) dX12_isFull_38 (by decide) ?_
        exact ih _ (by omega) (i + 1) rfl (by omega) (lt_s h_1 hno)
      · have hw : wpl ws i < ws.length := Classical.byContradiction (fun z => c_15 (if_neg z))
        have hwn := (wpl_nn xw0 (r := i) (by omega)).mp hw
        have hv0 := hB0.2.1 i (by omega)
        obtain ⟨v1, v2, v3, v4⟩ := hB0.2.1 i (by omega)
        refine z_aload_n dX12_isFull_18 rfl ?_
        refine z_getR dX12_isFull_19 fX12_13 (by first | assumption | exact And.left (by assumption)) rfl ?_
        refine z_sipush (v := nI 1920) dX12_isFull_22 rfl ?_
        refine z_iload_n dX12_isFull_25 rfl ?_
        refine z_addN dX12_isFull_26 ?_
        refine z_ialdN dX12_isFull_27 (by first | assumption | exact And.left (by assumption)) (by omega) (by decide) v1 ?_
        refine z_bipush (v := nI 8) dX12_isFull_28 rfl ?_
        refine z_icmp_neN (tgt := 35) dX12_isFull_30 (by decide) (by omega) (by omega) (fun c_30 => ?_) (fun c_30 => ?_)
        · have hno : ¬ ((s.2.2.1 t).2.2 i ≠ none ∧ 8 ≤ (s.2.1 i).length) := fun z => by have := z.2; omega
          refine z_incN dX12_isFull_35 rfl rfl ?_
          refine z_goto (tgt := 2) dX12_isFull_38 (by decide) ?_
          exact ih _ (by omega) (i + 1) rfl (by omega) (lt_s h_1 hno)
        · refine z_iconst (v := nI 1) dX12_isFull_33 rfl ?_
          refine z_zreturn dX12_isFull_34 (Nat.le_of_ble_eq_true rfl) (Nat.le_of_ble_eq_true rfl) rfl (by first | exact Or.inl rfl | exact Or.inr rfl | exact zb_01 _ | assumption) ?_
          exact zi_r (zb_t ⟨i, by omega, hwn, by omega⟩).symm

set_option maxHeartbeats 4000000 in
set_option maxRecDepth 100000 in
theorem s_mFull {D : zD} {z0 nx : Nat} {L : zL} {V : zV} {m t : Nat} {s : St} (hm : sM L m) (hB : MB (V (m + 1)) s) (ht : t < 4) : Sp D z0 3 0 0 mX12_isFull [.ref m, .int (nI t)] L V nx (zi (zb (∃ k, k < 48 ∧ ((s.2.2.1 t).2.2 k ≠ none ∧ 8 ≤ (s.2.1 k).length))) L V nx) := by
  refine Sp.of 1 (by decide) rfl rfl (Nat.le_of_ble_eq_true rfl) ?_
  refine z_iconst (v := nI 0) dX12_isFull_0 rfl ?_
  refine z_istore_n dX12_isFull_1 (Nat.le_of_ble_eq_true rfl) rfl ?_
  exact lp_mFull hm hB ht _ 0 rfl (by omega) (fun k hk => absurd hk (by omega))

set_option maxHeartbeats 4000000 in
set_option maxRecDepth 100000 in
theorem lp_mWait {D : zD} {z0 nx : Nat} {L : zL} {V : zV} {m : Nat} {s : St} (hm : sM L m) (hB : MB (V (m + 1)) s) : ∀ (fu : Nat) (i : Nat), 2 - i = fu → i ≤ 2 → (∀ k, k < i → ¬ ((s.2.2.2 k).1.1 = 3)) → Z D z0 2 0 0 mX12_doWait 0 0 2 [some (.ref m), some (.int (nI i))] [] L V nx (zi (zb (∃ k, k < 2 ∧ ((s.2.2.2 k).1.1 = 3))) L V nx) := by
  intro fu
  induction fu using Nat.strongRecOn with
  | ind fu ih =>
    intro i h_fu h_0 h_1
    have hm0 := hm
    have hB0 := hB
    obtain ⟨a0, a1, a2, a3, a4, a5, a6, a7, a8, a9, a10, a11, a12, a13, a14, a15⟩ := hm
    refine z_iload_n dX12_doWait_2 rfl ?_
    refine z_iconst (v := nI 2) dX12_doWait_3 rfl ?_
    refine z_icmp_geN (tgt := 25) dX12_doWait_4 (by decide) (by omega) (by omega) (fun c_4 => ?_) (fun c_4 => ?_)
    · refine z_iconst (v := nI 0) dX12_doWait_25 rfl ?_
      refine z_zreturn dX12_doWait_26 (Nat.le_of_ble_eq_true rfl) (Nat.le_of_ble_eq_true rfl) rfl (by first | exact Or.inl rfl | exact Or.inr rfl | exact zb_01 _ | assumption) ?_
      exact zi_r (zb_f (fun ⟨k, q1, q2⟩ => h_1 k (by omega) q2)).symm
    · refine z_aload_n dX12_doWait_7 rfl ?_
      refine z_iload_n dX12_doWait_8 rfl ?_
      refine z_iconst (v := nI 0) dX12_doWait_9 rfl ?_
      obtain ⟨y1, y2, y3, y4, y5, y6⟩ := hB0.2.2.2 i (by omega)
      have y9 := y1.1
      have y8 := y6.1
      refine z_callV2i dX12_doWait_10 kX12_ofIndex lX12_104 (by first | assumption | exact And.left (by assumption)) rfl (s_ofIx hm0 (by omega) (by omega) y9) (Nat.le_of_ble_eq_true rfl) (Nat.le_of_ble_eq_true rfl) ⟨Nat.le_of_ble_eq_true rfl, Nat.le_of_ble_eq_true rfl⟩ ?_
      refine z_iconst (v := nI 3) dX12_doWait_13 rfl ?_
      refine z_icmp_neN (tgt := 19) dX12_doWait_14 (by decide) (by omega) (by omega) (fun c_14 => ?_) (fun c_14 => ?_)
      · have hno : ¬ (s.2.2.2 i).1.1 = 3 := c_14
        refine z_incN dX12_doWait_19 rfl rfl ?_
        refine z_goto (tgt := 2) dX12_doWait_22 (by decide) ?_
        exact ih _ (by omega) (i + 1) rfl (by omega) (lt_s h_1 hno)
      · refine z_iconst (v := nI 1) dX12_doWait_17 rfl ?_
        refine z_zreturn dX12_doWait_18 (Nat.le_of_ble_eq_true rfl) (Nat.le_of_ble_eq_true rfl) rfl (by first | exact Or.inl rfl | exact Or.inr rfl | exact zb_01 _ | assumption) ?_
        exact zi_r (zb_t ⟨i, by omega, c_14⟩).symm

set_option maxHeartbeats 4000000 in
set_option maxRecDepth 100000 in
theorem s_mWait {D : zD} {z0 nx : Nat} {L : zL} {V : zV} {m : Nat} {s : St} (hm : sM L m) (hB : MB (V (m + 1)) s) : Sp D z0 2 0 0 mX12_doWait [.ref m] L V nx (zi (zb (∃ k, k < 2 ∧ ((s.2.2.2 k).1.1 = 3))) L V nx) := by
  refine Sp.of 1 (by decide) rfl rfl (Nat.le_of_ble_eq_true rfl) ?_
  refine z_iconst (v := nI 0) dX12_doWait_0 rfl ?_
  refine z_istore_n dX12_doWait_1 (Nat.le_of_ble_eq_true rfl) rfl ?_
  exact lp_mWait hm hB _ 0 rfl (by omega) (fun k hk => absurd hk (by omega))

set_option maxHeartbeats 4000000 in
set_option maxRecDepth 100000 in
theorem s_wouldAt {D : zD} {z0 nx : Nat} {L : zL} {V : zV} {m t r : Nat} {s : St} (hm : sM L m) (hB : MB (V (m + 1)) s) (ht : t < 4) (hr : r < 48) {ws : List (Nat × Option Nat)} (xw0 : MTw (V (m + 1)) (1968 + 43 * t) ws (s.2.2.1 t)) : Sp D z0 3 0 0 mX12_wouldAt [.ref m, .int (nI t), .int (nI r)] L V nx (zi (nI (wap ws (s.2.1 r) t r)) L V nx) := by
  have hm0 := hm
  have hB0 := hB
  have w2 := xw0.2.1
  refine Sp.of 1 (by decide) rfl rfl (Nat.le_of_ble_eq_true rfl) ?_
  refine z_aload_n dX12_wouldAt_0 rfl ?_
  refine z_iload_n dX12_wouldAt_1 rfl ?_
  refine z_iload_n dX12_wouldAt_2 rfl ?_
  refine z_callV2i dX12_wouldAt_3 kX12_writeAt lX12_98 (by first | assumption | exact And.left (by assumption)) rfl (s_mWr hm0 ht hr xw0) (Nat.le_of_ble_eq_true rfl) (Nat.le_of_ble_eq_true rfl) ⟨Nat.le_of_ble_eq_true rfl, Nat.le_of_ble_eq_true rfl⟩ ?_
  refine z_istore_n dX12_wouldAt_6 (Nat.le_of_ble_eq_true rfl) rfl ?_
  refine z_iload_n dX12_wouldAt_7 rfl ?_
  refine z_iconst (v := (-1)) dX12_wouldAt_8 rfl ?_
  refine z_icmp_eq (tgt := 16) dX12_wouldAt_9 (by decide) (fun c_9 => ?_) (fun c_9 => ?_)
  · have hw : ¬ wpl ws r < ws.length := fun z => by rw [if_pos z] at c_9; exact nI_ne_m1 (by omega) c_9
    have e9 : wap ws (s.2.1 r) t r = 40 * r + 5 * ((s.2.1 r).length - 1) := if_neg hw
    refine z_aload_n dX12_wouldAt_16 rfl ?_
    refine z_iload_n dX12_wouldAt_17 rfl ?_
    refine z_callV1i dX12_wouldAt_18 kX12_latest lX12_171 (by first | assumption | exact And.left (by assumption)) rfl (s_mLatest hm0 hr (hB0.2.1 r hr)) (Nat.le_of_ble_eq_true rfl) (Nat.le_of_ble_eq_true rfl) ⟨Nat.le_of_ble_eq_true rfl, Nat.le_of_ble_eq_true rfl⟩ ?_
    refine z_ireturn dX12_wouldAt_21 (Nat.le_of_ble_eq_true rfl) (Nat.le_of_ble_eq_true rfl) rfl ?_
    exact zi_r (by rw [e9])
  · have hw : wpl ws r < ws.length := Classical.byContradiction (fun z => c_9 (if_neg z))
    have e9 : wap ws (s.2.1 r) t r = 1968 + 43 * t + 3 + 5 * wpl ws r := if_pos hw
    rw [if_pos hw]
    refine z_iload_n dX12_wouldAt_12 rfl ?_
    refine z_goto (tgt := 21) dX12_wouldAt_13 (by decide) ?_
    refine z_ireturn dX12_wouldAt_21 (Nat.le_of_ble_eq_true rfl) (Nat.le_of_ble_eq_true rfl) rfl ?_
    exact zi_r (by rw [e9])

set_option maxHeartbeats 4000000 in
set_option maxRecDepth 100000 in
theorem lp_wbi {D : zD} {z0 nx : Nat} {L : zL} {V : zV} {m t i r : Nat} {s : St} (hm : sM L m) (hB : MB (V (m + 1)) s) (ht : t < 4) (hi : i < 2) (hr : r < 48) (h4 : (s.2.2.2 i).1.1 = 4) (hu : (s.2.2.2 i).2.1.2.1 = true) (hwr : (s.2.2.1 t).2.2 r ≠ none) (his : iso (s.2.2.2 i).2.1 (wr s.2.1 (s.2.2.1 t).2.2 r)) {P : zP} (K1 : ∀ V2, zEq V V2 (m + 4) (m + 5) → (∃ q, q < 48 ∧ mrB (s.2.2.2 i).2.1 s.2.1 (s.2.2.1 t).2.2 r q) → P (some (.int (nI 1))) L V2 nx) (K : ∀ V2, zEq V V2 (m + 4) (m + 5) → (¬ ∃ q, q < 48 ∧ mrB (s.2.2.2 i).2.1 s.2.1 (s.2.2.1 t).2.2 r q) → Z D z0 6 0 0 mX12_wouldBeAlike 0 0 116 [some (.ref m), some (.int (nI t)), some (.int (nI i)), some (.int (nI r)), some (.int (nI 48))] [] L V2 nx P) : ∀ (fu : Nat) (q : Nat) (V1 : zV), 48 - q = fu → q ≤ 48 → zEq V V1 (m + 4) (m + 5) → (∀ k, k < q → ¬ mrB (s.2.2.2 i).2.1 s.2.1 (s.2.2.1 t).2.2 r k) → Z D z0 6 0 0 mX12_wouldBeAlike 0 0 59 [some (.ref m), some (.int (nI t)), some (.int (nI i)), some (.int (nI r)), some (.int (nI q))] [] L V1 nx (P) := by
  intro fu
  induction fu using Nat.strongRecOn with
  | ind fu ih =>
    intro q V1 h_fu h_0 h_1 h_2
    have hm0 := hm
    have hB0 := hB
    obtain ⟨a0, a1, a2, a3, a4, a5, a6, a7, a8, a9, a10, a11, a12, a13, a14, a15⟩ := hm
    have hT0 := hB.2.2.1 t ht
    obtain ⟨x1, x2, x3, ws, xw⟩ := hB.2.2.1 t ht
    have xw0 := xw
    obtain ⟨w1, w2, w3, w4, w5, w6⟩ := xw
    obtain ⟨y1, y2, y3, y4, y5, y6⟩ := hB0.2.2.2 i hi
    have yb := y6.2.2.2.2.2.1
    have e1 := h_1
    have hA : V1 (m + 1) = V (m + 1) := e1 (m + 1) (by omega)
    have hB1 : MB (V1 (m + 1)) s := by rw [hA]; exact hB0
    have xw1 : MTw (V1 (m + 1)) (1968 + 43 * t) ws (s.2.2.1 t) := by rw [hA]; exact xw0
    have y2b : MXd (V1 (m + 1)) (2140 + 1600 * i) (s.2.2.2 i).2.1 := by rw [hA]; exact y2
    obtain ⟨p, hp⟩ := iso_some his
    have hwl := (wpl_nn xw0 hr).mpr hwr
    have hat1 := wap_at (v := s.2.1) xw1 (hB1.2.1 r hr) hr
    have epl : wap ws (s.2.1 r) t r = 1968 + 43 * t + 3 + 5 * wpl ws r := if_pos hwl
    rw [epl, hp] at hat1
    refine z_iload dX12_wouldBeAlike_59 rfl ?_
    refine z_bipush (v := nI 48) dX12_wouldBeAlike_61 rfl ?_
    refine z_icmp_geN (tgt := 116) dX12_wouldBeAlike_63 (by decide) (by omega) (by omega) (fun c_63 => ?_) (fun c_63 => ?_)
    · have e48 : q = 48 := by omega
      subst e48
      exact K V1 h_1 (fun ⟨k, q1, q2⟩ => h_2 k q1 q2)
    · have hatq := wap_at (v := s.2.1) xw1 (hB1.2.1 q (by omega)) (r := q) (by omega)
      have hvq := hB1.2.1 q (by omega)
      have hlq := wap_lt (ws := ws) (l := s.2.1 q) ht (show q < 48 by omega) w2 hvq.2.1 hvq.2.2.1
      refine z_iload dX12_wouldBeAlike_66 rfl ?_
      refine z_iload_n dX12_wouldBeAlike_68 rfl ?_
      refine z_icmp_eqN (tgt := 110) dX12_wouldBeAlike_69 (by decide) (by omega) (by omega) (fun c_69 => ?_) (fun c_69 => ?_)
      · have hno : ¬ mrB (s.2.2.2 i).2.1 s.2.1 (s.2.2.1 t).2.2 r q := fun z => z.1 c_69
        refine z_incN dX12_wouldBeAlike_110 rfl rfl ?_
        refine z_goto (tgt := 59) dX12_wouldBeAlike_113 (by decide) ?_
        first
          | exact ih _ (by omega) (q + 1) V2 rfl (by omega) e2 (lt_s h_2 hno)
          | exact ih _ (by omega) (q + 1) V1 rfl (by omega) h_1 (lt_s h_2 hno)
      · refine z_aload_n dX12_wouldBeAlike_72 rfl ?_
        refine z_iload_n dX12_wouldBeAlike_73 rfl ?_
        refine z_aload_n dX12_wouldBeAlike_74 rfl ?_
        refine z_iload_n dX12_wouldBeAlike_75 rfl ?_
        refine z_iload dX12_wouldBeAlike_76 rfl ?_
        refine z_callV2i dX12_wouldBeAlike_78 kX12_wouldAt lX12_175 (by first | assumption | exact And.left (by assumption)) rfl (s_wouldAt hm0 hB1 ht (by omega) xw1) (Nat.le_of_ble_eq_true rfl) (Nat.le_of_ble_eq_true rfl) ⟨Nat.le_of_ble_eq_true rfl, Nat.le_of_ble_eq_true rfl⟩ ?_
        refine z_callV2i dX12_wouldBeAlike_81 kX12_isOf lX12_136 (by first | assumption | exact And.left (by assumption)) rfl (s_isOf hm0 hi y2b yb (by omega) hatq) (Nat.le_of_ble_eq_true rfl) (Nat.le_of_ble_eq_true rfl) ⟨Nat.le_of_ble_eq_true rfl, Nat.le_of_ble_eq_true rfl⟩ ?_
        refine z_if_eqB (tgt := 110) dX12_wouldBeAlike_84 (by decide) (fun c_84 => ?_) (fun c_84 => ?_)
        · have hno : ¬ mrB (s.2.2.2 i).2.1 s.2.1 (s.2.2.1 t).2.2 r q := fun z => c_84 z.2.1
          refine z_incN dX12_wouldBeAlike_110 rfl rfl ?_
          refine z_goto (tgt := 59) dX12_wouldBeAlike_113 (by decide) ?_
          first
            | exact ih _ (by omega) (q + 1) V2 rfl (by omega) e2 (lt_s h_2 hno)
            | exact ih _ (by omega) (q + 1) V1 rfl (by omega) h_1 (lt_s h_2 hno)
        · obtain ⟨b, hb9⟩ := iso_some c_84
          rw [hb9] at hatq
          refine z_aload_n dX12_wouldBeAlike_87 rfl ?_
          refine z_iload_n dX12_wouldBeAlike_88 rfl ?_
          refine z_aload_n dX12_wouldBeAlike_89 rfl ?_
          refine z_iload_n dX12_wouldBeAlike_90 rfl ?_
          refine z_iload_n dX12_wouldBeAlike_91 rfl ?_
          refine z_callV2i dX12_wouldBeAlike_92 kX12_writeAt lX12_98 (by first | assumption | exact And.left (by assumption)) rfl (s_mWr hm0 ht hr xw1) (Nat.le_of_ble_eq_true rfl) (Nat.le_of_ble_eq_true rfl) ⟨Nat.le_of_ble_eq_true rfl, Nat.le_of_ble_eq_true rfl⟩ ?_
          rw [if_pos hwl]
          refine z_aload_n dX12_wouldBeAlike_95 rfl ?_
          refine z_iload_n dX12_wouldBeAlike_96 rfl ?_
          refine z_iload dX12_wouldBeAlike_97 rfl ?_
          refine z_callV2i dX12_wouldBeAlike_99 kX12_wouldAt lX12_175 (by first | assumption | exact And.left (by assumption)) rfl (s_wouldAt hm0 hB1 ht (by omega) xw1) (Nat.le_of_ble_eq_true rfl) (Nat.le_of_ble_eq_true rfl) ⟨Nat.le_of_ble_eq_true rfl, Nat.le_of_ble_eq_true rfl⟩ ?_
          refine z_callV3q dX12_wouldBeAlike_102 kX12_areAlike lX12_139 (by first | assumption | exact And.left (by assumption)) rfl (s_mAlike hm0 hi y2b yb (by omega) (by omega) hat1 hatq) (Nat.le_of_ble_eq_true rfl) (Nat.le_of_ble_eq_true rfl) ⟨Nat.le_of_ble_eq_true rfl, Nat.le_of_ble_eq_true rfl⟩ ?_
          intro V2 hV2
          have e2 := h_1.trans hV2
          refine z_if_eqB (tgt := 110) dX12_wouldBeAlike_105 (by decide) (fun c_105 => ?_) (fun c_105 => ?_)
          · have hno : ¬ mrB (s.2.2.2 i).2.1 s.2.1 (s.2.2.1 t).2.2 r q := fun z => by
              obtain ⟨a9, b8, z1, z2, z3⟩ := z.2.2
              rw [hp] at z1
              rw [hb9] at z2
              cases z1
              cases z2
              exact c_105 z3
            refine z_incN dX12_wouldBeAlike_110 rfl rfl ?_
            refine z_goto (tgt := 59) dX12_wouldBeAlike_113 (by decide) ?_
            first
              | exact ih _ (by omega) (q + 1) V2 rfl (by omega) e2 (lt_s h_2 hno)
              | exact ih _ (by omega) (q + 1) V1 rfl (by omega) h_1 (lt_s h_2 hno)
          · refine z_iconst (v := nI 1) dX12_wouldBeAlike_108 rfl ?_
            refine z_zreturn dX12_wouldBeAlike_109 (Nat.le_of_ble_eq_true rfl) (Nat.le_of_ble_eq_true rfl) rfl (by first | exact Or.inl rfl | exact Or.inr rfl | exact zb_01 _ | assumption) ?_
            exact K1 _ e2 ⟨q, by omega, c_69, c_84, p, b, hp, hb9, c_105⟩

set_option maxHeartbeats 4000000 in
set_option maxRecDepth 100000 in
theorem lp_wbo {D : zD} {z0 nx : Nat} {L : zL} {V : zV} {m t i : Nat} {s : St} (hm : sM L m) (hB : MB (V (m + 1)) s) (ht : t < 4) (hi : i < 2) (h4 : (s.2.2.2 i).1.1 = 4) (hu : (s.2.2.2 i).2.1.2.1 = true) : ∀ (fu : Nat) (r : Nat) (V1 : zV), 48 - r = fu → r ≤ 48 → zEq V V1 (m + 4) (m + 5) → (∀ k, k < r → ¬ mrR (s.2.2.2 i).2.1 s.2.1 (s.2.2.1 t).2.2 k) → Z D z0 6 0 0 mX12_wouldBeAlike 0 0 23 [some (.ref m), some (.int (nI t)), some (.int (nI i)), some (.int (nI r)), none] [] L V1 nx (zq (some (.int (zb (mrA s (s.2.2.1 t).2.2 i)))) L nx (fun V' => zEq V V' (m + 4) (m + 5))) := by
  intro fu
  induction fu using Nat.strongRecOn with
  | ind fu ih =>
    intro r V1 h_fu h_0 h_1 h_2
    have hm0 := hm
    have hB0 := hB
    obtain ⟨a0, a1, a2, a3, a4, a5, a6, a7, a8, a9, a10, a11, a12, a13, a14, a15⟩ := hm
    have hT0 := hB.2.2.1 t ht
    obtain ⟨x1, x2, x3, ws, xw⟩ := hB.2.2.1 t ht
    have xw0 := xw
    obtain ⟨w1, w2, w3, w4, w5, w6⟩ := xw
    obtain ⟨y1, y2, y3, y4, y5, y6⟩ := hB0.2.2.2 i hi
    have yb := y6.2.2.2.2.2.1
    have e1 := h_1
    have hA : V1 (m + 1) = V (m + 1) := e1 (m + 1) (by omega)
    have hB1 : MB (V1 (m + 1)) s := by rw [hA]; exact hB0
    have xw1 : MTw (V1 (m + 1)) (1968 + 43 * t) ws (s.2.2.1 t) := by rw [hA]; exact xw0
    have y2b : MXd (V1 (m + 1)) (2140 + 1600 * i) (s.2.2.2 i).2.1 := by rw [hA]; exact y2
    refine z_iload_n dX12_wouldBeAlike_23 rfl ?_
    refine z_bipush (v := nI 48) dX12_wouldBeAlike_24 rfl ?_
    refine z_icmp_geN (tgt := 122) dX12_wouldBeAlike_26 (by decide) (by omega) (by omega) (fun c_26 => ?_) (fun c_26 => ?_)
    · refine z_iconst (v := nI 0) dX12_wouldBeAlike_122 rfl ?_
      refine z_zreturn dX12_wouldBeAlike_123 (Nat.le_of_ble_eq_true rfl) (Nat.le_of_ble_eq_true rfl) rfl (by first | exact Or.inl rfl | exact Or.inr rfl | exact zb_01 _ | assumption) ?_
      have hF : ¬ mrA s (s.2.2.1 t).2.2 i := fun z => by
        obtain ⟨k, q1, q2⟩ := z.2.2
        exact h_2 k (by omega) q2
      exact ⟨by rw [zb_f hF] <;> rfl, rfl, rfl, h_1⟩
    · refine z_aload_n dX12_wouldBeAlike_29 rfl ?_
      refine z_iload_n dX12_wouldBeAlike_30 rfl ?_
      refine z_iload_n dX12_wouldBeAlike_31 rfl ?_
      refine z_callV2i dX12_wouldBeAlike_32 kX12_writeAt lX12_98 (by first | assumption | exact And.left (by assumption)) rfl (s_mWr hm0 ht (by omega) xw1) (Nat.le_of_ble_eq_true rfl) (Nat.le_of_ble_eq_true rfl) ⟨Nat.le_of_ble_eq_true rfl, Nat.le_of_ble_eq_true rfl⟩ ?_
      refine z_iconst (v := (-1)) dX12_wouldBeAlike_35 rfl ?_
      refine z_icmp_eq (tgt := 116) dX12_wouldBeAlike_36 (by decide) (fun c_36 => ?_) (fun c_36 => ?_)
      · have hw : ¬ wpl ws r < ws.length := fun z => by rw [if_pos z] at c_36; exact nI_ne_m1 (by omega) c_36
        have hwn : (s.2.2.1 t).2.2 r = none := wpl_n xw0 (by omega) hw
        have hno : ¬ mrR (s.2.2.2 i).2.1 s.2.1 (s.2.2.1 t).2.2 r := fun z => z.1 hwn
        refine z_incN dX12_wouldBeAlike_116 rfl rfl ?_
        refine z_goto (tgt := 23) dX12_wouldBeAlike_119 (by decide) ?_
        refine z_fg 4 ?_
        exact ih _ (by omega) (r + 1) V1 rfl (by omega) h_1 (lt_s h_2 hno)
      · have hw : wpl ws r < ws.length := Classical.byContradiction (fun z => c_36 (if_neg z))
        have hwn := (wpl_nn xw0 (r := r) (by omega)).mp hw
        have hat1 := wap_at (v := s.2.1) xw1 (hB1.2.1 r (by omega)) (r := r) (by omega)
        have epl : wap ws (s.2.1 r) t r = 1968 + 43 * t + 3 + 5 * wpl ws r := if_pos hw
        rw [epl] at hat1
        refine z_aload_n dX12_wouldBeAlike_39 rfl ?_
        refine z_iload_n dX12_wouldBeAlike_40 rfl ?_
        refine z_aload_n dX12_wouldBeAlike_41 rfl ?_
        refine z_iload_n dX12_wouldBeAlike_42 rfl ?_
        refine z_iload_n dX12_wouldBeAlike_43 rfl ?_
        refine z_callV2i dX12_wouldBeAlike_44 kX12_writeAt lX12_98 (by first | assumption | exact And.left (by assumption)) rfl (s_mWr hm0 ht (by omega) xw1) (Nat.le_of_ble_eq_true rfl) (Nat.le_of_ble_eq_true rfl) ⟨Nat.le_of_ble_eq_true rfl, Nat.le_of_ble_eq_true rfl⟩ ?_
        rw [if_pos hw]
        refine z_callV2i dX12_wouldBeAlike_47 kX12_isOf lX12_136 (by first | assumption | exact And.left (by assumption)) rfl (s_isOf hm0 hi y2b yb (by omega) hat1) (Nat.le_of_ble_eq_true rfl) (Nat.le_of_ble_eq_true rfl) ⟨Nat.le_of_ble_eq_true rfl, Nat.le_of_ble_eq_true rfl⟩ ?_
        refine z_if_neB (tgt := 56) dX12_wouldBeAlike_50 (by decide) (fun c_50 => ?_) (fun c_50 => ?_)
        · refine z_iconst (v := nI 0) dX12_wouldBeAlike_56 rfl ?_
          refine z_istore dX12_wouldBeAlike_57 (Nat.le_of_ble_eq_true rfl) rfl ?_
          refine lp_wbi hm0 hB0 ht hi (by omega) h4 hu hwn c_50 (fun V2 e2 hex => ?_) (fun V2 e2 hnx => ?_) _ 0 V1 rfl (by omega) h_1 (fun k hk => absurd hk (by omega))
          · exact ⟨by rw [zb_t (show mrA s (s.2.2.1 t).2.2 i from ⟨h4, hu, r, by omega, hwn, c_50, hex⟩)] <;> rfl, rfl, rfl, e2⟩
          · refine z_incN dX12_wouldBeAlike_116 rfl rfl ?_
            refine z_goto (tgt := 23) dX12_wouldBeAlike_119 (by decide) ?_
            refine z_fg 4 ?_
            exact ih _ (by omega) (r + 1) V2 rfl (by omega) e2 (lt_s h_2 (fun z => hnx z.2.2))
        · have hno : ¬ mrR (s.2.2.2 i).2.1 s.2.1 (s.2.2.1 t).2.2 r := fun z => c_50 z.2.1
          refine z_goto (tgt := 116) dX12_wouldBeAlike_53 (by decide) ?_
          refine z_incN dX12_wouldBeAlike_116 rfl rfl ?_
          refine z_goto (tgt := 23) dX12_wouldBeAlike_119 (by decide) ?_
          refine z_fg 4 ?_
          exact ih _ (by omega) (r + 1) V1 rfl (by omega) h_1 (lt_s h_2 hno)

set_option maxHeartbeats 4000000 in
set_option maxRecDepth 100000 in
theorem s_wba {D : zD} {z0 nx : Nat} {L : zL} {V : zV} {m t i : Nat} {s : St} (hm : sM L m) (hB : MB (V (m + 1)) s) (ht : t < 4) (hi : i < 2) : Sp D z0 6 0 0 mX12_wouldBeAlike [.ref m, .int (nI t), .int (nI i)] L V nx (zq (some (.int (zb (mrA s (s.2.2.1 t).2.2 i)))) L nx (fun V' => zEq V V' (m + 4) (m + 5))) := by
  have hm0 := hm
  have hB0 := hB
  obtain ⟨a0, a1, a2, a3, a4, a5, a6, a7, a8, a9, a10, a11, a12, a13, a14, a15⟩ := hm
  have hT0 := hB.2.2.1 t ht
  obtain ⟨x1, x2, x3, ws, xw⟩ := hB.2.2.1 t ht
  have xw0 := xw
  obtain ⟨w1, w2, w3, w4, w5, w6⟩ := xw
  obtain ⟨y1, y2, y3, y4, y5, y6⟩ := hB0.2.2.2 i hi
  have yb := y6.2.2.2.2.2.1
  have y9 := y1.1
  have y8 := y6.1
  have yu := y2.1
  refine Sp.of 2 (by decide) rfl rfl (Nat.le_of_ble_eq_true rfl) ?_
  refine z_aload_n dX12_wouldBeAlike_0 rfl ?_
  refine z_iload_n dX12_wouldBeAlike_1 rfl ?_
  refine z_iconst (v := nI 0) dX12_wouldBeAlike_2 rfl ?_
  refine z_callV2i dX12_wouldBeAlike_3 kX12_ofIndex lX12_104 (by first | assumption | exact And.left (by assumption)) rfl (s_ofIx hm0 hi (by omega) y9) (Nat.le_of_ble_eq_true rfl) (Nat.le_of_ble_eq_true rfl) ⟨Nat.le_of_ble_eq_true rfl, Nat.le_of_ble_eq_true rfl⟩ ?_
  refine z_iconst (v := nI 4) dX12_wouldBeAlike_6 rfl ?_
  refine z_icmp_neN (tgt := 19) dX12_wouldBeAlike_7 (by decide) (by omega) (by omega) (fun c_7 => ?_) (fun c_7 => ?_)
  · have hF : ¬ mrA s (s.2.2.1 t).2.2 i := fun z => c_7 z.1
    refine z_iconst (v := nI 0) dX12_wouldBeAlike_19 rfl ?_
    refine z_zreturn dX12_wouldBeAlike_20 (Nat.le_of_ble_eq_true rfl) (Nat.le_of_ble_eq_true rfl) rfl (by first | exact Or.inl rfl | exact Or.inr rfl | exact zb_01 _ | assumption) ?_
    exact ⟨by rw [zb_f hF] <;> rfl, rfl, rfl, zEq.rf⟩
  · refine z_aload_n dX12_wouldBeAlike_10 rfl ?_
    refine z_iload_n dX12_wouldBeAlike_11 rfl ?_
    refine z_iconst (v := nI 4) dX12_wouldBeAlike_12 rfl ?_
    refine z_callV2i dX12_wouldBeAlike_13 kX12_ofIndex lX12_104 (by first | assumption | exact And.left (by assumption)) rfl (s_ofIx hm0 hi (by omega) yu) (Nat.le_of_ble_eq_true rfl) (Nat.le_of_ble_eq_true rfl) ⟨Nat.le_of_ble_eq_true rfl, Nat.le_of_ble_eq_true rfl⟩ ?_
    refine z_if_neB (tgt := 21) dX12_wouldBeAlike_16 (by decide) (fun c_16 => ?_) (fun c_16 => ?_)
    · refine z_iconst (v := nI 0) dX12_wouldBeAlike_21 rfl ?_
      refine z_istore_n dX12_wouldBeAlike_22 (Nat.le_of_ble_eq_true rfl) rfl ?_
      exact lp_wbo hm0 hB0 ht hi c_7 c_16 _ 0 V rfl (by omega) zEq.rf (fun k hk => absurd hk (by omega))
    · have hF : ¬ mrA s (s.2.2.1 t).2.2 i := fun z => c_16 z.2.1
      refine z_iconst (v := nI 0) dX12_wouldBeAlike_19 rfl ?_
      refine z_zreturn dX12_wouldBeAlike_20 (Nat.le_of_ble_eq_true rfl) (Nat.le_of_ble_eq_true rfl) rfl (by first | exact Or.inl rfl | exact Or.inr rfl | exact zb_01 _ | assumption) ?_
      exact ⟨by rw [zb_f hF] <;> rfl, rfl, rfl, zEq.rf⟩

