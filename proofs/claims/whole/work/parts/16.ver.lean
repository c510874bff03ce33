/-! Versions -/
abbrev Vs : Type := Nat → List (Nat × Option Nat)
def sVe (L : zL) (a : Nat) : Prop := L a = some (.inr (.inr (10, [some (.ref (a + 1)), some (.ref (a + 2)), some (.ref (a + 3))]))) ∧ L (a + 1) = some (.inl (0, 384)) ∧ L (a + 2) = some (.inl (0, 384)) ∧ L (a + 3) = some (.inl (0, 48))
/-- the k-th version of a row -/
def vk (l : List (Nat × Option Nat)) (k : Nat) : Nat × Option Nat := l.getD k (0, none)
def VE (V : zV) (a : Nat) (v : Vs) : Prop := ∀ r, r < 48 → V (a + 3) r = nI (v r).length ∧ 1 ≤ (v r).length ∧ (v r).length ≤ 8 ∧ ∀ k, k < (v r).length → V (a + 1) (r * 8 + k) = nI (vk (v r) k).1 ∧ V (a + 2) (r * 8 + k) = vv (vk (v r) k).2 ∧ (vk (v r) k).1 < 1000000 ∧ ∀ p, (vk (v r) k).2 = some p → p < 1000000
theorem VE.eq {V V' : zV} {a lo hi : Nat} {v : Vs} (h : VE V a v) (he : zEq V V' lo hi) (hd : a + 4 ≤ lo ∨ hi ≤ a) : VE V' a v := by
  unfold VE at h ⊢
  rw [he (a + 1) (by omega), he (a + 2) (by omega), he (a + 3) (by omega)]
  exact h
/-- the latest version of a row -/
def lst (v : Vs) (r : Nat) : Nat × Option Nat := vk (v r) ((v r).length - 1)
theorem VE.lst {V : zV} {a r : Nat} {v : Vs} (h : VE V a v) (hr : r < 48) : (lst v r).1 < 1000000 ∧ ∀ p, (lst v r).2 = some p → p < 1000000 := by
  obtain ⟨_, h1, _, h2⟩ := h r hr
  have := h2 ((v r).length - 1) (by omega)
  exact this.2.2
/-- what is seen at a snap, of the first j versions -/
def vj (l : List (Nat × Option Nat)) (s : Nat) : Nat → Option Nat
  | 0 => none
  | j + 1 => if (vk l j).1 ≤ s then (vk l j).2 else vj l s j
def vat (l : List (Nat × Option Nat)) (s : Nat) : Option Nat := vj l s l.length
theorem vj_lt {l : List (Nat × Option Nat)} {s : Nat} (h : ∀ k, k < l.length → ∀ p, (vk l k).2 = some p → p < 1000000) : ∀ j, j ≤ l.length → ∀ p, vj l s j = some p → p < 1000000
  | 0, _, p, hp => by simp [vj] at hp
  | j + 1, hj, p, hp => by
    unfold vj at hp
    split at hp
    · exact h j (by omega) p hp
    · exact vj_lt h j (by omega) p hp
theorem VE.vat {V : zV} {a r : Nat} {v : Vs} (h : VE V a v) (hr : r < 48) (s : Nat) : ∀ p, vat (v r) s = some p → p < 1000000 := vj_lt (fun k hk => ((h r hr).2.2.2 k hk).2.2.2) _ (Nat.le_refl _)
/-- a counter that goes down, below 0 at its end -/
def dj : Nat → Int32
  | 0 => -1
  | k + 1 => nI k
theorem dj_m1 (k : Nat) : nI k + Int32.ofInt (-1) = dj k := by
  cases k with
  | zero => rfl
  | succ k => exact pk_m1 k

set_option maxHeartbeats 4000000 in
set_option maxRecDepth 100000 in
theorem s_lastPlace {D : zD} {z0 nx : Nat} {L : zL} {V : zV} {a r : Nat} {v : Vs} (hs : sVe L a) (h : VE V a v) (hr : r < 48) : Sp D z0 1 0 0 mX10_lastPlace [.ref a, .int (nI r)] L V nx (zi (nI (r * 8 + (v r).length - 1)) L V nx) := by
  have hs0 := hs
  have h0 := h
  obtain ⟨h1, h2, h3, h4⟩ := hs
  obtain ⟨g1, g2, g3, g4⟩ := h r hr
  refine Sp.of 0 (by decide) rfl rfl (Nat.le_of_ble_eq_true rfl) ?_
  refine z_iload_n dX10_lastPlace_0 rfl ?_
  refine z_bipush (v := nI 8) dX10_lastPlace_1 rfl ?_
  refine z_mulN dX10_lastPlace_3 ?_
  refine z_aload_n dX10_lastPlace_4 rfl ?_
  refine z_getR dX10_lastPlace_5 fX10_18 (by first | assumption | exact And.left (by assumption)) rfl ?_
  refine z_iload_n dX10_lastPlace_8 rfl ?_
  refine z_ialdN dX10_lastPlace_9 (by first | assumption | exact And.left (by assumption)) (by omega) (by decide) (by first | assumption | exact zup_s _ _ _ _ | rfl) ?_
  refine z_addN dX10_lastPlace_10 ?_
  refine z_iconst (v := nI 1) dX10_lastPlace_11 rfl ?_
  refine z_subN dX10_lastPlace_12 (by omega) ?_
  refine z_ireturn dX10_lastPlace_13 (Nat.le_of_ble_eq_true rfl) (Nat.le_of_ble_eq_true rfl) rfl ?_
  exact zi_r rfl

set_option maxHeartbeats 4000000 in
set_option maxRecDepth 100000 in
theorem s_latest {D : zD} {z0 nx : Nat} {L : zL} {V : zV} {a r : Nat} {v : Vs} (hs : sVe L a) (h : VE V a v) (hr : r < 48) : Sp D z0 2 0 0 mX10_latest [.ref a, .int (nI r)] L V nx (zi (vv (lst v r).2) L V nx) := by
  have hs0 := hs
  have h0 := h
  obtain ⟨h1, h2, h3, h4⟩ := hs
  obtain ⟨g1, g2, g3, g4⟩ := h r hr
  have g5 := (g4 ((v r).length - 1) (by omega)).2.1
  rw [show r * 8 + ((v r).length - 1) = r * 8 + (v r).length - 1 by omega] at g5
  refine Sp.of 0 (by decide) rfl rfl (Nat.le_of_ble_eq_true rfl) ?_
  refine z_aload_n dX10_latest_0 rfl ?_
  refine z_getR dX10_latest_1 fX10_15 (by first | assumption | exact And.left (by assumption)) rfl ?_
  refine z_aload_n dX10_latest_4 rfl ?_
  refine z_iload_n dX10_latest_5 rfl ?_
  refine z_callV1i dX10_latest_6 kX10_lastPlace lX10_27 (by first | assumption | exact And.left (by assumption)) rfl (s_lastPlace (by assumption) (by assumption) (by omega)) (Nat.le_of_ble_eq_true rfl) (Nat.le_of_ble_eq_true rfl) ⟨Nat.le_of_ble_eq_true rfl, Nat.le_of_ble_eq_true rfl⟩ ?_
  refine z_ialdN dX10_latest_9 (by first | assumption | exact And.left (by assumption)) (by omega) (by decide) (by first | assumption | exact zup_s _ _ _ _ | rfl) ?_
  refine z_ireturn dX10_latest_10 (Nat.le_of_ble_eq_true rfl) (Nat.le_of_ble_eq_true rfl) rfl ?_
  exact zi_r rfl

set_option maxHeartbeats 4000000 in
set_option maxRecDepth 100000 in
theorem s_latestSeq {D : zD} {z0 nx : Nat} {L : zL} {V : zV} {a r : Nat} {v : Vs} (hs : sVe L a) (h : VE V a v) (hr : r < 48) : Sp D z0 2 0 0 mX10_latestSeq [.ref a, .int (nI r)] L V nx (zi (nI (lst v r).1) L V nx) := by
  have hs0 := hs
  have h0 := h
  obtain ⟨h1, h2, h3, h4⟩ := hs
  obtain ⟨g1, g2, g3, g4⟩ := h r hr
  have g5 := (g4 ((v r).length - 1) (by omega)).1
  rw [show r * 8 + ((v r).length - 1) = r * 8 + (v r).length - 1 by omega] at g5
  refine Sp.of 0 (by decide) rfl rfl (Nat.le_of_ble_eq_true rfl) ?_
  refine z_aload_n dX10_latestSeq_0 rfl ?_
  refine z_getR dX10_latestSeq_1 fX10_9 (by first | assumption | exact And.left (by assumption)) rfl ?_
  refine z_aload_n dX10_latestSeq_4 rfl ?_
  refine z_iload_n dX10_latestSeq_5 rfl ?_
  refine z_callV1i dX10_latestSeq_6 kX10_lastPlace lX10_27 (by first | assumption | exact And.left (by assumption)) rfl (s_lastPlace (by assumption) (by assumption) (by omega)) (Nat.le_of_ble_eq_true rfl) (Nat.le_of_ble_eq_true rfl) ⟨Nat.le_of_ble_eq_true rfl, Nat.le_of_ble_eq_true rfl⟩ ?_
  refine z_ialdN dX10_latestSeq_9 (by first | assumption | exact And.left (by assumption)) (by omega) (by decide) (by first | assumption | exact zup_s _ _ _ _ | rfl) ?_
  refine z_ireturn dX10_latestSeq_10 (Nat.le_of_ble_eq_true rfl) (Nat.le_of_ble_eq_true rfl) rfl ?_
  exact zi_r rfl

set_option maxHeartbeats 4000000 in
set_option maxRecDepth 100000 in
theorem s_VEfull {D : zD} {z0 nx : Nat} {L : zL} {V : zV} {a r : Nat} {v : Vs} (hs : sVe L a) (h : VE V a v) (hr : r < 48) : Sp D z0 1 0 0 mX10_isFull [.ref a, .int (nI r)] L V nx (zi (zb (8 ≤ (v r).length)) L V nx) := by
  have hs0 := hs
  have h0 := h
  obtain ⟨h1, h2, h3, h4⟩ := hs
  obtain ⟨g1, g2, g3, g4⟩ := h r hr
  refine Sp.of 0 (by decide) rfl rfl (Nat.le_of_ble_eq_true rfl) ?_
  refine z_aload_n dX10_isFull_0 rfl ?_
  refine z_getR dX10_isFull_1 fX10_18 (by first | assumption | exact And.left (by assumption)) rfl ?_
  refine z_iload_n dX10_isFull_4 rfl ?_
  refine z_ialdN dX10_isFull_5 (by first | assumption | exact And.left (by assumption)) (by omega) (by decide) (by first | assumption | exact zup_s _ _ _ _ | rfl) ?_
  refine z_bipush (v := nI 8) dX10_isFull_6 rfl ?_
  refine z_icmp_ltN (tgt := 15) dX10_isFull_8 (by decide) (by omega) (by omega) (fun c_8 => ?_) (fun c_8 => ?_)
  · refine z_iconst (v := nI 0) dX10_isFull_15 rfl ?_
    refine z_zreturn dX10_isFull_16 (Nat.le_of_ble_eq_true rfl) (Nat.le_of_ble_eq_true rfl) rfl (by first | exact Or.inl rfl | exact Or.inr rfl | exact zb_01 _ | assumption) ?_
    exact zi_r (by first | exact (zb_t (by omega)).symm | exact (zb_f (by omega)).symm)
  · refine z_iconst (v := nI 1) dX10_isFull_11 rfl ?_
    refine z_goto (tgt := 16) dX10_isFull_12 (by decide) ?_
    refine z_zreturn dX10_isFull_16 (Nat.le_of_ble_eq_true rfl) (Nat.le_of_ble_eq_true rfl) rfl (by first | exact Or.inl rfl | exact Or.inr rfl | exact zb_01 _ | assumption) ?_
    exact zi_r (by first | exact (zb_t (by omega)).symm | exact (zb_f (by omega)).symm)

set_option maxHeartbeats 4000000 in
set_option maxRecDepth 100000 in
theorem lp_valueAt {D : zD} {z0 nx : Nat} {L : zL} {V : zV} {a r sn : Nat} {v : Vs} (hs : sVe L a) (h : VE V a v) (hr : r < 48) (hsn : sn < 1000000) : ∀ j : Nat, j ≤ (v r).length → Z D z0 1 0 0 mX10_valueAt 0 0 15 [some (.ref a), some (.int (nI r)), some (.int (nI sn)), some (.int (nI (r * 8))), some (.int (dj j))] [] L V nx (zi (vv (vj (v r) sn j)) L V nx) := by
  have hs0 := hs
  have h0 := h
  obtain ⟨h1, h2, h3, h4⟩ := hs
  obtain ⟨g1, g2, g3, g4⟩ := h r hr
  intro j
  induction j with
  | zero =>
    intro hj
    refine z_iload dX10_valueAt_15 rfl ?_
    refine z_if_lt (tgt := 49) dX10_valueAt_17 (by decide) (fun c_17 => ?_) (fun c_17 => ?_)
    · refine z_iconst (v := (-1)) dX10_valueAt_49 rfl ?_
      refine z_ireturn dX10_valueAt_50 (Nat.le_of_ble_eq_true rfl) (Nat.le_of_ble_eq_true rfl) rfl ?_
      exact zi_r rfl
    · exact absurd c_17 (by decide)
  | succ k ih =>
    intro hj
    refine z_iload dX10_valueAt_15 rfl ?_
    refine z_if_ltN (tgt := 49) dX10_valueAt_17 (by decide) (by omega) ?_
    refine z_aload_n dX10_valueAt_20 rfl ?_
    refine z_getR dX10_valueAt_21 fX10_9 (by first | assumption | exact And.left (by assumption)) rfl ?_
    refine z_iload_n dX10_valueAt_24 rfl ?_
    refine z_iload dX10_valueAt_25 rfl ?_
    refine z_addN dX10_valueAt_27 ?_
    refine z_ialdN dX10_valueAt_28 (by first | assumption | exact And.left (by assumption)) (by omega) (by decide) ((g4 k (by omega)).1) ?_
    refine z_iload_n dX10_valueAt_29 rfl ?_
    have b1 := (g4 k (by omega)).2.2.1
    refine z_icmp_gtN (tgt := 43) dX10_valueAt_30 (by decide) (by omega) (by omega) (fun c_30 => ?_) (fun c_30 => ?_)
    · refine z_iinc dX10_valueAt_43 rfl (dj_m1 k) rfl ?_
      refine z_goto (tgt := 15) dX10_valueAt_46 (by decide) ?_
      rw [show vj (v r) sn (k + 1) = vj (v r) sn k by rw [vj, if_neg (by omega)]]
      exact ih (by omega)
    · refine z_aload_n dX10_valueAt_33 rfl ?_
      refine z_getR dX10_valueAt_34 fX10_15 (by first | assumption | exact And.left (by assumption)) rfl ?_
      refine z_iload_n dX10_valueAt_37 rfl ?_
      refine z_iload dX10_valueAt_38 rfl ?_
      refine z_addN dX10_valueAt_40 ?_
      refine z_ialdN dX10_valueAt_41 (by first | assumption | exact And.left (by assumption)) (by omega) (by decide) ((g4 k (by omega)).2.1) ?_
      refine z_ireturn dX10_valueAt_42 (Nat.le_of_ble_eq_true rfl) (Nat.le_of_ble_eq_true rfl) rfl ?_
      exact zi_r (by rw [vj, if_pos (by omega)])

set_option maxHeartbeats 4000000 in
set_option maxRecDepth 100000 in
theorem s_valueAt {D : zD} {z0 nx : Nat} {L : zL} {V : zV} {a r sn : Nat} {v : Vs} (hs : sVe L a) (h : VE V a v) (hr : r < 48) (hsn : sn < 1000000) : Sp D z0 1 0 0 mX10_valueAt [.ref a, .int (nI r), .int (nI sn)] L V nx (zi (vv (vat (v r) sn)) L V nx) := by
  have hs0 := hs
  have h0 := h
  obtain ⟨h1, h2, h3, h4⟩ := hs
  obtain ⟨g1, g2, g3, g4⟩ := h r hr
  refine Sp.of 2 (by decide) rfl rfl (Nat.le_of_ble_eq_true rfl) ?_
  refine z_iload_n dX10_valueAt_0 rfl ?_
  refine z_bipush (v := nI 8) dX10_valueAt_1 rfl ?_
  refine z_mulN dX10_valueAt_3 ?_
  refine z_istore_n dX10_valueAt_4 (Nat.le_of_ble_eq_true rfl) rfl ?_
  refine z_aload_n dX10_valueAt_5 rfl ?_
  refine z_getR dX10_valueAt_6 fX10_18 (by first | assumption | exact And.left (by assumption)) rfl ?_
  refine z_iload_n dX10_valueAt_9 rfl ?_
  refine z_ialdN dX10_valueAt_10 (by first | assumption | exact And.left (by assumption)) (by omega) (by decide) (by first | assumption | exact zup_s _ _ _ _ | rfl) ?_
  refine z_iconst (v := nI 1) dX10_valueAt_11 rfl ?_
  refine z_subN dX10_valueAt_12 (by omega) ?_
  refine z_istore dX10_valueAt_13 (Nat.le_of_ble_eq_true rfl) rfl ?_
  have hz := lp_valueAt (D := D) (z0 := z0) (nx := nx) hs0 h0 hr hsn (v r).length (Nat.le_refl _)
  rw [show dj (v r).length = nI ((v r).length - 1) by cases e : (v r).length with | zero => omega | succ n => rfl] at hz
  exact hz

theorem vk_app (l : List (Nat × Option Nat)) (x : Nat × Option Nat) (k : Nat) (hk : k < l.length + 1) : vk (l ++ [x]) k = if k < l.length then vk l k else x := by
  simp only [vk, List.getD_eq_getElem?_getD]
  split
  · rename_i q; rw [List.getElem?_append_left q]
  · rename_i q; rw [List.getElem?_append_right (by omega), show k - l.length = 0 by omega]; rfl
/-- a version of a row comes -/
def vapp (v : Vs) (r s : Nat) (x : Option Nat) : Vs := fun q => if q = r then v r ++ [(s, x)] else v q
theorem VE_app {V : zV} {a r s : Nat} {v : Vs} {x : Option Nat} (h : VE V a v) (hr : r < 48) (hl : (v r).length < 8) (hs : s < 1000000) (hx : ∀ p, x = some p → p < 1000000) : VE (zup (zup (zup V (a + 3) r (nI ((v r).length + 1))) (a + 1) (r * 8 + (v r).length) (nI s)) (a + 2) (r * 8 + (v r).length) (vv x)) a (vapp v r s x) := by
  intro q hq
  obtain ⟨g1, g2, g3, g4⟩ := h q hq
  by_cases e : q = r
  · subst e
    have el : (vapp v q s x q) = v q ++ [(s, x)] := by simp [vapp]
    rw [el]
    refine ⟨by simp [zup], by simp, by simp; omega, fun k hk => ?_⟩
    simp at hk
    rw [vk_app _ _ k hk]
    split
    · rename_i c
      have e2 : ¬ k = (v q).length := by omega
      simpa [zup, e2] using g4 k c
    · rename_i c
      have e2 : k = (v q).length := by omega
      subst e2
      simp [zup]
      exact ⟨hs, hx⟩
  · have el : (vapp v r s x q) = v q := by simp [vapp, e]
    rw [el]
    refine ⟨by simp [zup, e]; exact g1, g2, g3, fun k hk => ?_⟩
    have e2 : ¬ q * 8 + k = r * 8 + (v r).length := by omega
    simpa [zup, e2] using g4 k hk
theorem VE_len {V : zV} {a r n : Nat} {x : Int32} : zup V (a + 3) r x (a + 3) r = x := zup_s _ _ _ _

set_option maxHeartbeats 4000000 in
set_option maxRecDepth 100000 in
theorem s_lastPlaceR {D : zD} {z0 nx : Nat} {L : zL} {V : zV} {a r n : Nat} (hs : sVe L a) (hr : r < 48) (h1 : 1 ≤ n) (h8 : n ≤ 8) (hn : V (a + 3) r = nI n) : Sp D z0 1 0 0 mX10_lastPlace [.ref a, .int (nI r)] L V nx (zi (nI (r * 8 + n - 1)) L V nx) := by
  obtain ⟨k1, k2, k3, k4⟩ := hs
  refine Sp.of 0 (by decide) rfl rfl (Nat.le_of_ble_eq_true rfl) ?_
  refine z_iload_n dX10_lastPlace_0 rfl ?_
  refine z_bipush (v := nI 8) dX10_lastPlace_1 rfl ?_
  refine z_mulN dX10_lastPlace_3 ?_
  refine z_aload_n dX10_lastPlace_4 rfl ?_
  refine z_getR dX10_lastPlace_5 fX10_18 (by first | assumption | exact And.left (by assumption)) rfl ?_
  refine z_iload_n dX10_lastPlace_8 rfl ?_
  refine z_ialdN dX10_lastPlace_9 (by first | assumption | exact And.left (by assumption)) (by omega) (by decide) (by first | assumption | exact zup_s _ _ _ _ | rfl) ?_
  refine z_addN dX10_lastPlace_10 ?_
  refine z_iconst (v := nI 1) dX10_lastPlace_11 rfl ?_
  refine z_subN dX10_lastPlace_12 (by omega) ?_
  refine z_ireturn dX10_lastPlace_13 (Nat.le_of_ble_eq_true rfl) (Nat.le_of_ble_eq_true rfl) rfl ?_
  exact zi_r rfl

set_option maxHeartbeats 4000000 in
set_option maxRecDepth 100000 in
theorem s_VEapp {D : zD} {z0 nx : Nat} {L : zL} {V : zV} {a r s : Nat} {v : Vs} {x : Option Nat} (hs : sVe L a) (h : VE V a v) (hr : r < 48) (hl : (v r).length < 8) (hq : s < 1000000) (hx : ∀ p, x = some p → p < 1000000) : Sp D z0 2 0 0 mX10_append [.ref a, .int (nI r), .int (nI s), .int (vv x)] L V nx (zq none L nx (fun V' => zEq V V' a (a + 4) ∧ VE V' a (vapp v r s x))) := by
  have hs0 := hs
  have h0 := h
  obtain ⟨h1, h2, h3, h4⟩ := hs
  obtain ⟨g1, g2, g3, g4⟩ := h r hr
  refine Sp.of 0 (by decide) rfl rfl (Nat.le_of_ble_eq_true rfl) ?_
  refine z_aload_n dX10_append_0 rfl ?_
  refine z_iload_n dX10_append_1 rfl ?_
  refine z_callV1i dX10_append_2 kX10_isFull lX10_31 (by first | assumption | exact And.left (by assumption)) rfl (s_VEfull (by assumption) (by assumption) (by omega)) (Nat.le_of_ble_eq_true rfl) (Nat.le_of_ble_eq_true rfl) ⟨Nat.le_of_ble_eq_true rfl, Nat.le_of_ble_eq_true rfl⟩ ?_
  refine z_if_eqB (tgt := 9) dX10_append_5 (by decide) (fun c_5 => ?_) (fun c_5 => ?_)
  · refine z_aload_n dX10_append_9 rfl ?_
    refine z_getR dX10_append_10 fX10_18 (by first | assumption | exact And.left (by assumption)) rfl ?_
    refine z_iload_n dX10_append_13 rfl ?_
    refine z_dup2 dX10_append_14 rfl rfl ?_
    refine z_ialdN dX10_append_15 (by first | assumption | exact And.left (by assumption)) (by omega) (by decide) (by first | assumption | exact zup_s _ _ _ _ | rfl) ?_
    refine z_iconst (v := nI 1) dX10_append_16 rfl ?_
    refine z_addN dX10_append_17 ?_
    refine z_iastN dX10_append_18 (by first | assumption | exact And.left (by assumption)) (by omega) (by decide) ?_
    refine z_aload_n dX10_append_19 rfl ?_
    refine z_getR dX10_append_20 fX10_9 (by first | assumption | exact And.left (by assumption)) rfl ?_
    refine z_aload_n dX10_append_23 rfl ?_
    refine z_iload_n dX10_append_24 rfl ?_
    refine z_callV1i dX10_append_25 kX10_lastPlace lX10_27 (by first | assumption | exact And.left (by assumption)) rfl (s_lastPlaceR (n := (v r).length + 1) hs0 hr (by omega) (by omega) (by simp [zup])) (Nat.le_of_ble_eq_true rfl) (Nat.le_of_ble_eq_true rfl) ⟨Nat.le_of_ble_eq_true rfl, Nat.le_of_ble_eq_true rfl⟩ ?_
    refine z_iload_n dX10_append_28 rfl ?_
    rw [show r * 8 + ((v r).length + 1) - 1 = r * 8 + (v r).length by omega]
    refine z_iastN dX10_append_29 (by first | assumption | exact And.left (by assumption)) (by omega) (by decide) ?_
    refine z_aload_n dX10_append_30 rfl ?_
    refine z_getR dX10_append_31 fX10_15 (by first | assumption | exact And.left (by assumption)) rfl ?_
    refine z_aload_n dX10_append_34 rfl ?_
    refine z_iload_n dX10_append_35 rfl ?_
    refine z_callV1i dX10_append_36 kX10_lastPlace lX10_27 (by first | assumption | exact And.left (by assumption)) rfl (s_lastPlaceR (n := (v r).length + 1) hs0 hr (by omega) (by omega) (by simp [zup])) (Nat.le_of_ble_eq_true rfl) (Nat.le_of_ble_eq_true rfl) ⟨Nat.le_of_ble_eq_true rfl, Nat.le_of_ble_eq_true rfl⟩ ?_
    refine z_iload_n dX10_append_39 rfl ?_
    rw [show r * 8 + ((v r).length + 1) - 1 = r * 8 + (v r).length by omega]
    refine z_iastN dX10_append_40 (by first | assumption | exact And.left (by assumption)) (by omega) (by decide) ?_
    refine z_return dX10_append_41 (Nat.le_of_ble_eq_true rfl) (Nat.le_of_ble_eq_true rfl) rfl ?_
    exact ⟨rfl, rfl, rfl, ((zEq.rf.up (by omega) (by omega)).up (by omega) (by omega)).up (by omega) (by omega), VE_app h0 hr hl hq hx⟩
  · exact absurd c_5 (by omega)

def sm (f : Nat → Nat) : Nat → Nat
  | 0 => 0
  | n + 1 => sm f n + f n
theorem sm_le {f : Nat → Nat} {c : Nat} : ∀ {n : Nat}, (∀ k, k < n → f k ≤ c) → sm f n ≤ n * c
  | 0, _ => Nat.zero_le _
  | n + 1, h => by
    have h1 := sm_le (f := f) (n := n) (fun k hk => h k (by omega))
    have h2 := h n (by omega)
    rw [sm, Nat.succ_mul]
    omega
theorem vv_m1 {v : Option Nat} (h : ∀ p, v = some p → p < 1000000) : vv v = -1 ↔ v = none := by
  cases v with
  | none => exact ⟨fun _ => rfl, fun _ => rfl⟩
  | some p => exact ⟨fun q => absurd q (nI_ne_m1 (by have := h p rfl; omega)), fun q => by cases q⟩

set_option maxHeartbeats 4000000 in
set_option maxRecDepth 100000 in
theorem lp_rowsThere {D : zD} {z0 nx : Nat} {L : zL} {V : zV} {a : Nat} {v : Vs} (hs : sVe L a) (h : VE V a v) : ∀ (fu : Nat) (i : Nat), 48 - i = fu → i ≤ 48 → Z D z0 3 0 0 mX10_rowsThere 0 0 4 [some (.ref a), some (.int (nI (cn (fun r => (lst v r).2 ≠ none) i))), some (.int (nI i))] [] L V nx (zi (nI (cn (fun r => (lst v r).2 ≠ none) 48)) L V nx) := by
  intro fu
  induction fu using Nat.strongRecOn with
  | ind fu ih =>
    intro i h_fu h_0
    have hs0 := hs
    obtain ⟨h1, h2, h3, h4⟩ := hs
    have hcl := cn_le (fun r => (lst v r).2 ≠ none) i
    refine z_iload_n dX10_rowsThere_4 rfl ?_
    refine z_bipush (v := nI 48) dX10_rowsThere_5 rfl ?_
    refine z_icmp_geN (tgt := 33) dX10_rowsThere_7 (by decide) (by omega) (by omega) (fun c_7 => ?_) (fun c_7 => ?_)
    · refine z_iload_n dX10_rowsThere_33 rfl ?_
      refine z_ireturn dX10_rowsThere_34 (Nat.le_of_ble_eq_true rfl) (Nat.le_of_ble_eq_true rfl) rfl ?_
      exact zi_r (by rw [show i = 48 by omega])
    · refine z_iload_n dX10_rowsThere_10 rfl ?_
      refine z_aload_n dX10_rowsThere_11 rfl ?_
      refine z_iload_n dX10_rowsThere_12 rfl ?_
      refine z_callV1i dX10_rowsThere_13 kX10_latest lX10_35 (by first | assumption | exact And.left (by assumption)) rfl (s_latest (by assumption) (by assumption) (by omega)) (Nat.le_of_ble_eq_true rfl) (Nat.le_of_ble_eq_true rfl) ⟨Nat.le_of_ble_eq_true rfl, Nat.le_of_ble_eq_true rfl⟩ ?_
      refine z_iconst (v := (-1)) dX10_rowsThere_16 rfl ?_
      have hv := (h.lst (r := i) (by omega)).2
      refine z_icmp_ne (tgt := 24) dX10_rowsThere_17 (by decide) (fun c_17 => ?_) (fun c_17 => ?_)
      · refine z_iconst (v := nI 1) dX10_rowsThere_24 rfl ?_
        refine z_addN dX10_rowsThere_25 ?_
        refine z_istore_n dX10_rowsThere_26 (Nat.le_of_ble_eq_true rfl) rfl ?_
        refine z_incN dX10_rowsThere_27 rfl rfl ?_
        refine z_goto (tgt := 4) dX10_rowsThere_30 (by decide) ?_
        first
          | rw [show cn (fun r => (lst v r).2 ≠ none) i + 0 = cn (fun r => (lst v r).2 ≠ none) (i + 1) from (cn_n (p := fun r => (lst v r).2 ≠ none) (fun q => q ((vv_m1 hv).mp c_17))).symm]; exact ih _ (by omega) (i + 1) rfl (by omega)
          | rw [show cn (fun r => (lst v r).2 ≠ none) i + 1 = cn (fun r => (lst v r).2 ≠ none) (i + 1) from (cn_y (p := fun r => (lst v r).2 ≠ none) (fun q => c_17 ((vv_m1 hv).mpr q))).symm]; exact ih _ (by omega) (i + 1) rfl (by omega)
      · refine z_iconst (v := nI 0) dX10_rowsThere_20 rfl ?_
        refine z_goto (tgt := 25) dX10_rowsThere_21 (by decide) ?_
        refine z_addN dX10_rowsThere_25 ?_
        refine z_istore_n dX10_rowsThere_26 (Nat.le_of_ble_eq_true rfl) rfl ?_
        refine z_incN dX10_rowsThere_27 rfl rfl ?_
        refine z_goto (tgt := 4) dX10_rowsThere_30 (by decide) ?_
        first
          | rw [show cn (fun r => (lst v r).2 ≠ none) i + 0 = cn (fun r => (lst v r).2 ≠ none) (i + 1) from (cn_n (p := fun r => (lst v r).2 ≠ none) (fun q => q ((vv_m1 hv).mp c_17))).symm]; exact ih _ (by omega) (i + 1) rfl (by omega)
          | rw [show cn (fun r => (lst v r).2 ≠ none) i + 1 = cn (fun r => (lst v r).2 ≠ none) (i + 1) from (cn_y (p := fun r => (lst v r).2 ≠ none) (fun q => c_17 ((vv_m1 hv).mpr q))).symm]; exact ih _ (by omega) (i + 1) rfl (by omega)

set_option maxHeartbeats 4000000 in
set_option maxRecDepth 100000 in
theorem s_rowsThere {D : zD} {z0 nx : Nat} {L : zL} {V : zV} {a : Nat} {v : Vs} (hs : sVe L a) (h : VE V a v) : Sp D z0 3 0 0 mX10_rowsThere [.ref a] L V nx (zi (nI (cn (fun r => (lst v r).2 ≠ none) 48)) L V nx) := by
  refine Sp.of 2 (by decide) rfl rfl (Nat.le_of_ble_eq_true rfl) ?_
  refine z_iconst (v := nI 0) dX10_rowsThere_0 rfl ?_
  refine z_istore_n dX10_rowsThere_1 (Nat.le_of_ble_eq_true rfl) rfl ?_
  refine z_iconst (v := nI 0) dX10_rowsThere_2 rfl ?_
  refine z_istore_n dX10_rowsThere_3 (Nat.le_of_ble_eq_true rfl) rfl ?_
  exact lp_rowsThere hs h _ 0 rfl (by omega)

set_option maxHeartbeats 4000000 in
set_option maxRecDepth 100000 in
theorem lp_inAll {D : zD} {z0 nx : Nat} {L : zL} {V : zV} {a : Nat} {v : Vs} (hs : sVe L a) (h : VE V a v) : ∀ (fu : Nat) (i : Nat), 48 - i = fu → i ≤ 48 → Z D z0 1 0 0 mX10_inAll 0 0 4 [some (.ref a), some (.int (nI (sm (fun r => (v r).length) i))), some (.int (nI i))] [] L V nx (zi (nI (sm (fun r => (v r).length) 48)) L V nx) := by
  intro fu
  induction fu using Nat.strongRecOn with
  | ind fu ih =>
    intro i h_fu h_0
    obtain ⟨h1, h2, h3, h4⟩ := hs
    refine z_iload_n dX10_inAll_4 rfl ?_
    refine z_bipush (v := nI 48) dX10_inAll_5 rfl ?_
    refine z_icmp_geN (tgt := 25) dX10_inAll_7 (by decide) (by omega) (by omega) (fun c_7 => ?_) (fun c_7 => ?_)
    · refine z_iload_n dX10_inAll_25 rfl ?_
      refine z_ireturn dX10_inAll_26 (Nat.le_of_ble_eq_true rfl) (Nat.le_of_ble_eq_true rfl) rfl ?_
      exact zi_r (by rw [show i = 48 by omega])
    · refine z_iload_n dX10_inAll_10 rfl ?_
      refine z_aload_n dX10_inAll_11 rfl ?_
      refine z_getR dX10_inAll_12 fX10_18 (by first | assumption | exact And.left (by assumption)) rfl ?_
      refine z_iload_n dX10_inAll_15 rfl ?_
      refine z_ialdN dX10_inAll_16 (by first | assumption | exact And.left (by assumption)) (by omega) (by decide) (h i (by omega)).1 ?_
      refine z_addN dX10_inAll_17 ?_
      refine z_istore_n dX10_inAll_18 (Nat.le_of_ble_eq_true rfl) rfl ?_
      refine z_incN dX10_inAll_19 rfl rfl ?_
      refine z_goto (tgt := 4) dX10_inAll_22 (by decide) ?_
      exact ih _ (by omega) (i + 1) rfl (by omega)

set_option maxHeartbeats 4000000 in
set_option maxRecDepth 100000 in
theorem s_inAll {D : zD} {z0 nx : Nat} {L : zL} {V : zV} {a : Nat} {v : Vs} (hs : sVe L a) (h : VE V a v) : Sp D z0 1 0 0 mX10_inAll [.ref a] L V nx (zi (nI (sm (fun r => (v r).length) 48)) L V nx) := by
  refine Sp.of 2 (by decide) rfl rfl (Nat.le_of_ble_eq_true rfl) ?_
  refine z_iconst (v := nI 0) dX10_inAll_0 rfl ?_
  refine z_istore_n dX10_inAll_1 (Nat.le_of_ble_eq_true rfl) rfl ?_
  refine z_iconst (v := nI 0) dX10_inAll_2 rfl ?_
  refine z_istore_n dX10_inAll_3 (Nat.le_of_ble_eq_true rfl) rfl ?_
  exact lp_inAll hs h _ 0 rfl (by omega)

set_option maxHeartbeats 4000000 in
set_option maxRecDepth 100000 in
theorem s_VEcopy {D : zD} {z0 nx : Nat} {L : zL} {V : zV} {a b : Nat} {v : Vs} (hs : sVe L a) (hs2 : sVe L b) (h : VE V b v) (hab : a + 4 ≤ b ∨ b + 4 ≤ a) : Sp D z0 1 0 0 mX10_copyFrom [.ref a, .ref b] L V nx (zq none L nx (fun V' => zEq V V' a (a + 4) ∧ VE V' a v)) := by
  obtain ⟨h1, h2, h3, h4⟩ := hs
  obtain ⟨k1, k2, k3, k4⟩ := hs2
  refine Sp.of 0 (by decide) rfl rfl (Nat.le_of_ble_eq_true rfl) ?_
  refine z_aload_n dX10_copyFrom_0 rfl ?_
  refine z_getR dX10_copyFrom_1 fX10_9 (by first | assumption | exact And.left (by assumption)) rfl ?_
  refine z_iconst (v := nI 0) dX10_copyFrom_4 rfl ?_
  refine z_aload_n dX10_copyFrom_5 rfl ?_
  refine z_getR dX10_copyFrom_6 fX10_9 (by first | assumption | exact And.left (by assumption)) rfl ?_
  refine z_iconst (v := nI 0) dX10_copyFrom_9 rfl ?_
  refine z_sipush (v := nI 384) dX10_copyFrom_10 rfl ?_
  refine z_copyN dX10_copyFrom_13 lX10_21 w_ac_n w_ac_s w_sys (by assumption) (by assumption) (by decide) (by decide) (by omega) (by omega) (Nat.le_of_ble_eq_true rfl) (Nat.le_of_ble_eq_true rfl) ?_
  refine z_aload_n dX10_copyFrom_16 rfl ?_
  refine z_getR dX10_copyFrom_17 fX10_15 (by first | assumption | exact And.left (by assumption)) rfl ?_
  refine z_iconst (v := nI 0) dX10_copyFrom_20 rfl ?_
  refine z_aload_n dX10_copyFrom_21 rfl ?_
  refine z_getR dX10_copyFrom_22 fX10_15 (by first | assumption | exact And.left (by assumption)) rfl ?_
  refine z_iconst (v := nI 0) dX10_copyFrom_25 rfl ?_
  refine z_sipush (v := nI 384) dX10_copyFrom_26 rfl ?_
  refine z_copyN dX10_copyFrom_29 lX10_21 w_ac_n w_ac_s w_sys (by assumption) (by assumption) (by decide) (by decide) (by omega) (by omega) (Nat.le_of_ble_eq_true rfl) (Nat.le_of_ble_eq_true rfl) ?_
  refine z_aload_n dX10_copyFrom_32 rfl ?_
  refine z_getR dX10_copyFrom_33 fX10_18 (by first | assumption | exact And.left (by assumption)) rfl ?_
  refine z_iconst (v := nI 0) dX10_copyFrom_36 rfl ?_
  refine z_aload_n dX10_copyFrom_37 rfl ?_
  refine z_getR dX10_copyFrom_38 fX10_18 (by first | assumption | exact And.left (by assumption)) rfl ?_
  refine z_iconst (v := nI 0) dX10_copyFrom_41 rfl ?_
  refine z_bipush (v := nI 48) dX10_copyFrom_42 rfl ?_
  refine z_copyN dX10_copyFrom_44 lX10_21 w_ac_n w_ac_s w_sys (by assumption) (by assumption) (by decide) (by decide) (by omega) (by omega) (Nat.le_of_ble_eq_true rfl) (Nat.le_of_ble_eq_true rfl) ?_
  refine z_return dX10_copyFrom_47 (Nat.le_of_ble_eq_true rfl) (Nat.le_of_ble_eq_true rfl) rfl ?_
  refine ⟨rfl, rfl, rfl, ((zEq.rf.set (by omega) (by omega)).set (by omega) (by omega)).set (by omega) (by omega), fun r hr => ?_⟩
  obtain ⟨g1, g2, g3, g4⟩ := h r hr
  have x1 : ¬ b + 2 = a + 1 := by omega
  have x2 : ¬ b + 3 = a + 1 := by omega
  have x3 : ¬ b + 3 = a + 2 := by omega
  refine ⟨by simpa [zset, va_cpy, hr, x2, x3] using g1, g2, g3, fun k hk => ?_⟩
  have hk2 : r * 8 + k < 384 := by omega
  simpa [zset, va_cpy, hk2, x1] using g4 k hk

