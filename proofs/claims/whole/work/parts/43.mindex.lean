/-! the reference, on: an index is told, empties, turns its logs; what a change means to it -/
theorem inc_mem {x c : Nat} {l : List Nat} (h : c ∈ inc x l) : c = x ∨ c ∈ l := by
  unfold inc at h
  split at h
  · exact Or.inr h
  · rcases List.mem_append.mp h with q | q
    · exact Or.inr (List.mem_of_mem_take q)
    · rcases List.mem_cons.mp q with z | z
      · exact Or.inl z
      · exact Or.inr (List.mem_of_mem_drop z)
theorem inc_len {x : Nat} {l : List Nat} (h : l.length ≤ 48) : (inc x l).length ≤ 48 := by
  unfold inc
  split
  · exact h
  · simp
    omega
theorem exc_mem {x c : Nat} {l : List Nat} (h : c ∈ exc x l) : c ∈ l := by
  unfold exc at h
  split at h
  · exact List.mem_of_mem_eraseIdx h
  · exact h
theorem exc_len {x : Nat} {l : List Nat} : (exc x l).length ≤ l.length := by
  unfold exc
  split
  · rw [List.length_eraseIdx]
    split <;> omega
  · exact Nat.le_refl _
/-- only an index's block, and the key at hand, have changed -/
def oX (V V' : zV) (m i : Nat) : Prop := (∀ q, q ≠ m + 1 → q ≠ m + 4 → V' q = V q) ∧ ∀ j, ¬ (2140 + 1600 * i ≤ j ∧ j < 2140 + 1600 * i + 1600) → V' (m + 1) j = V (m + 1) j
theorem oX.rf {V : zV} {m i : Nat} : oX V V m i := ⟨fun _ _ _ => rfl, fun _ _ => rfl⟩
theorem oX.trans {V V' V'' : zV} {m i : Nat} (h : oX V V' m i) (h' : oX V' V'' m i) : oX V V'' m i := ⟨fun q h1 h2 => (h'.1 q h1 h2).trans (h.1 q h1 h2), fun j hj => (h'.2 j hj).trans (h.2 j hj)⟩
theorem oX.ky {V V' : zV} {m i : Nat} (h : zEq V V' (m + 4) (m + 5)) : oX V V' m i := ⟨fun q h1 h2 => h q (by omega), fun j _ => by rw [h (m + 1) (by omega)]⟩
theorem oX.up {V V' : zV} {m i j : Nat} {x : Int32} (h : oX V V' m i) (h1 : 2140 + 1600 * i ≤ j ∧ j < 2140 + 1600 * i + 1600) : oX V (zup V' (m + 1) j x) m i := ⟨fun q q1 q2 => by rw [zup_a q1]; exact h.1 q q1 q2, fun k hk => by rw [zup_k (by omega)]; exact h.2 k hk⟩
theorem oX.cp {V V' : zV} {m i a f t n : Nat} (h : oX V V' m i) (h1 : 2140 + 1600 * i ≤ t ∧ t + n ≤ 2140 + 1600 * i + 1600) : oX V (cpz V' a (m + 1) f t n) m i := ⟨fun q q1 q2 => by unfold cpz; rw [zset_a q1]; exact h.1 q q1 q2, fun k hk => by unfold cpz; rw [zset_s, if_neg (by omega)]; exact h.2 k hk⟩
theorem oX.ck {V V' : zV} {m i a f t n : Nat} (h : oX V V' m i) : oX V (cpz V' a (m + 4) f t n) m i := ⟨fun q q1 q2 => by unfold cpz; rw [zset_a q2]; exact h.1 q q1 q2, fun k hk => by unfold cpz; rw [zset_a (by omega)]; exact h.2 k hk⟩
theorem oE.x {V V' : zV} {m i : Nat} (h : oE V V' m (2140 + 1600 * i)) : oX V V' m i := ⟨fun q h1 h2 => h.1 q (by omega), fun j hj => h.2 j (by omega) (by omega)⟩
theorem oX.at {V V' : zV} {m i p : Nat} {v : Option Nat} (h : oX V V' m i) (hp : p + 5 ≤ 2140) (ha : AT (V (m + 1)) p v) : AT (V' (m + 1)) p v := ha.cg (fun j j1 j2 => h.2 j (by omega))
theorem MXe.cg2 {f g : Nat → Int32} {b : Nat} {d : Df} {l : List Nat} (h : MXe f b d l) (hd : d.1.length ≤ 3) (hl : l.length ≤ 48) (hn : g (b + 13) = f (b + 13)) (e : sm_ f g (b + 16) (b + 208)) : MXe g b d l := by
  refine ⟨by rw [hn]; exact h.1, fun k hk => ?_⟩
  obtain ⟨h1, h2⟩ := h.2 k hk
  exact ⟨by rw [e _ (by omega) (by omega)]; exact h1, h2.cg hd (fun j k1 k2 => e j (by omega) (by omega))⟩
theorem MX.def {f : Nat → Int32} {b : Nat} {x : Ix} (h : MX f b x) : MXd f b x.2.1 ∧ Dfb x.2.1 := ⟨h.2.1, h.2.2.2.2.2.2.2.2.2.2.1⟩
/-- numbers of an index, laid one by one -/
theorem MX_n {f g : Nat → Int32} {b : Nat} {x : Ix} {n : Nat × Nat × Nat × Nat × Nat} (h : MX f b x) (hn : MXn g b n) (hb : n.1 < 6 ∧ n.2.1 < 1000000 ∧ n.2.2.1 ≤ 48 ∧ n.2.2.2.1 < 1000000 ∧ n.2.2.2.2 < 4) (e : ∀ j, b + 4 ≤ j → j ≠ b + 12 → j < b + 1600 → g j = f j) : MX g b (n, x.2) := by
  obtain ⟨h1, h2, h3, h4, h5, h6⟩ := h
  have hd := h6.2.2.2.2.2.1.1
  have hb2 := h6.2.2.2.2.2.2
  refine ⟨hn, ?_, h3.cg2 hd hb2.1 (e _ (by omega) (by omega) (by omega)) (fun j _ _ => e j (by omega) (by omega) (by omega)), h4.cg hd hb2.2.1 (e _ (by omega) (by omega) (by omega)) (fun j _ _ => e j (by omega) (by omega) (by omega)), h5.cg hd hb2.2.2.1 (e _ (by omega) (by omega) (by omega)) (fun j _ _ => e j (by omega) (by omega) (by omega)), ⟨hb.1, hb.2.1, hb.2.2.1, hb.2.2.2.1, hb.2.2.2.2, h6.2.2.2.2.2⟩⟩
  obtain ⟨d1, d2, d3, d4, d5, d6⟩ := h2
  exact ⟨by rw [e _ (by omega) (by omega) (by omega)]; exact d1, by rw [e _ (by omega) (by omega) (by omega)]; exact d2, fun k hk => by rw [e _ (by omega) (by omega) (by omega)]; exact d3 k hk, by rw [e _ (by omega) (by omega) (by omega)]; exact d4, by rw [e _ (by omega) (by omega) (by omega)]; exact d5, by rw [e _ (by omega) (by omega) (by omega)]; exact d6⟩
/-- entries of an index, laid anew -/
theorem MX_e {f g : Nat → Int32} {b : Nat} {x : Ix} {l : List Nat} (h : MX f b x) (he : MXe g b x.2.1 l) (hl : l.length ≤ 48) (hc : ∀ c ∈ l, c < 64000000 ∧ RV x.2.1 (c / 64)) (e : ∀ j, j ≠ b + 13 → ¬ (b + 16 ≤ j ∧ j < b + 208) → g j = f j) : MX g b (x.1, x.2.1, l, x.2.2.2) := by
  obtain ⟨h1, h2, h3, h4, h5, h6⟩ := h
  have hd := h6.2.2.2.2.2.1.1
  have hb2 := h6.2.2.2.2.2.2
  obtain ⟨i1, i2, i3, i4, i5, i6, i7, i8, i9, i10, i11⟩ := h6
  exact ⟨h1.cg (fun j _ _ => e j (by omega) (by omega)), h2.cg (fun j _ _ => e j (by omega) (by omega)), he, h4.cg hd hb2.2.1 (e _ (by omega) (by omega)) (fun j _ _ => e j (by omega) (by omega)), h5.cg hd hb2.2.2.1 (e _ (by omega) (by omega)) (fun j _ _ => e j (by omega) (by omega)), i1, i2, i3, i4, i5, i6, hl, i8, i9, ⟨fun c hc2 => (hc c hc2).1, i10.2⟩, ⟨fun c hc2 => (hc c hc2).2, i11.2⟩⟩
theorem getD_snocN (l : List Nat) (x k : Nat) (hk : k < l.length + 1) : (l ++ [x]).getD k 0 = if k < l.length then l.getD k 0 else x := by
  simp only [List.getD_eq_getElem?_getD]
  split
  · rename_i q; rw [List.getElem?_append_left q]
  · rename_i q; rw [List.getElem?_append_right (by omega), show k - l.length = 0 by omega] <;> rfl
/-- one more in the later log -/
theorem MX_app {f g : Nat → Int32} {b p r ad : Nat} {x : Ix} (h : MX f b x) (hl : x.2.2.2.2.length < 120) (hr : r < 64) (had : ad < 2) (hp : RV x.2.1 p) (hn : g (b + 15) = nI (x.2.2.2.2.length + 1)) (h0 : g (b + 1000 + 5 * x.2.2.2.2.length) = nI ad) (h1 : g (b + 1000 + 5 * x.2.2.2.2.length + 1) = nI r) (h2 : MK g (b + 1000 + 5 * x.2.2.2.2.length + 2) x.2.1 p) (e : ∀ j, j ≠ b + 15 → ¬ (b + 1000 + 5 * x.2.2.2.2.length ≤ j ∧ j < b + 1000 + 5 * x.2.2.2.2.length + 5) → g j = f j) : MX g b (x.1, x.2.1, x.2.2.1, x.2.2.2.1, x.2.2.2.2 ++ [(p * 64 + r) * 2 + ad]) := by
  obtain ⟨k1, k2, k3, k4, k5, k6⟩ := h
  have hd := k6.2.2.2.2.2.1.1
  have hb2 := k6.2.2.2.2.2.2
  obtain ⟨i1, i2, i3, i4, i5, i6, i7, i8, i9, i10, i11⟩ := k6
  have hp1 := hp.1
  refine ⟨k1.cg (fun j _ _ => e j (by omega) (by omega)), k2.cg (fun j _ _ => e j (by omega) (by omega)), k3.cg2 hd hb2.1 (e _ (by omega) (by omega)) (fun j _ _ => e j (by omega) (by omega)), k4.cg hd hb2.2.1 (e _ (by omega) (by omega)) (fun j _ _ => e j (by omega) (by omega)), ?_, i1, i2, i3, i4, i5, i6, i7, i8, by simp; omega, ⟨i10.1, i10.2.1, fun c hc => ?_⟩, ⟨i11.1, i11.2.1, fun c hc => ?_⟩⟩
  · refine ⟨by simp; exact hn, fun k hk => ?_⟩
    have hk2 : k < x.2.2.2.2.length + 1 := by simpa using hk
    show g (b + 1000 + 5 * k) = nI ((x.2.2.2.2 ++ [(p * 64 + r) * 2 + ad]).getD k 0 % 2) ∧ g (b + 1000 + 5 * k + 1) = nI ((x.2.2.2.2 ++ [(p * 64 + r) * 2 + ad]).getD k 0 / 2 % 64) ∧ MK g (b + 1000 + 5 * k + 2) x.2.1 ((x.2.2.2.2 ++ [(p * 64 + r) * 2 + ad]).getD k 0 / 2 / 64)
    rw [getD_snocN _ _ _ hk2]
    by_cases c : k < x.2.2.2.2.length
    · rw [if_pos c]
      obtain ⟨j1, j2, j3⟩ := k5.2 k c
      refine ⟨by rw [e _ (by omega) (by omega)]; exact j1, by rw [e _ (by omega) (by omega)]; exact j2, j3.cg hd (fun j a1 a2 => e j (by omega) (by omega))⟩
    · rw [if_neg c, show k = x.2.2.2.2.length by omega, show ((p * 64 + r) * 2 + ad) % 2 = ad by omega, show ((p * 64 + r) * 2 + ad) / 2 % 64 = r by omega, show ((p * 64 + r) * 2 + ad) / 2 / 64 = p by omega]
      exact ⟨h0, h1, h2⟩
  · rcases List.mem_append.mp hc with q | q
    · exact i10.2.2 c q
    · rw [List.mem_singleton.mp q]; omega
  · rcases List.mem_append.mp hc with q | q
    · exact i11.2.2 c q
    · rw [List.mem_singleton.mp q, show ((p * 64 + r) * 2 + ad) / 2 / 64 = p by omega]
      exact hp
/-- logs, turned -/
theorem MX_turn {f g : Nat → Int32} {b : Nat} {x : Ix} (h : MX f b x) (hn : g (b + 14) = nI x.2.2.2.2.length) (h0 : g (b + 15) = nI 0) (h1 : ∀ j, j < 600 → g (b + 400 + j) = f (b + 1000 + j)) (e : ∀ j, j ≠ b + 14 → j ≠ b + 15 → ¬ (b + 400 ≤ j ∧ j < b + 1000) → g j = f j) : MX g b (xTurn x) := by
  obtain ⟨k1, k2, k3, k4, k5, k6⟩ := h
  have hd := k6.2.2.2.2.2.1.1
  have hb2 := k6.2.2.2.2.2.2
  obtain ⟨i1, i2, i3, i4, i5, i6, i7, i8, i9, i10, i11⟩ := k6
  refine ⟨k1.cg (fun j _ _ => e j (by omega) (by omega) (by omega)), k2.cg (fun j _ _ => e j (by omega) (by omega) (by omega)), k3.cg2 hd hb2.1 (e _ (by omega) (by omega) (by omega)) (fun j _ _ => e j (by omega) (by omega) (by omega)), ⟨hn, fun k hk => ?_⟩, ⟨h0, fun k hk => absurd hk (by simp [xTurn])⟩, i1, i2, i3, i4, i5, i6, i7, i9, by simp [xTurn], ⟨i10.1, i10.2.2, fun c hc => absurd hc (by simp [xTurn])⟩, ⟨i11.1, i11.2.2, fun c hc => absurd hc (by simp [xTurn])⟩⟩
  have hk2 : k < x.2.2.2.2.length := hk
  obtain ⟨j1, j2, j3⟩ := k5.2 k hk2
  refine ⟨?_, ?_, fun j hj => ?_⟩
  · have := h1 (5 * k) (by omega)
    rw [this]
    exact j1
  · have := h1 (5 * k + 1) (by omega)
    rw [show b + 400 + 5 * k + 1 = b + 400 + (5 * k + 1) by omega, this]
    exact j2
  · have hj3 : j < 3 := Nat.lt_of_lt_of_le hj hd
    have := h1 (5 * k + 2 + j) (by omega)
    rw [show b + 400 + 5 * k + 2 + j = b + 400 + (5 * k + 2 + j) by omega, this, show b + 1000 + (5 * k + 2 + j) = b + 1000 + 5 * k + 2 + j by omega]
    exact j3 j hj
theorem MX_clear {g : Nat → Int32} {b e : Nat} (he : e < 4) (h12 : g (b + 12) = nI e) (h1 : g (b + 1) = -1) (h3 : g (b + 3) = -1) (h9 : g (b + 9) = -1) (h6 : ∀ k, k < 3 → g (b + (6 + k)) = -1) (h : ∀ k, k = 0 ∨ k = 2 ∨ k = 4 ∨ k = 5 ∨ k = 10 ∨ k = 11 ∨ k = 13 ∨ k = 14 ∨ k = 15 → g (b + k) = nI 0) : MX g b (xClear e) := by
  refine ⟨⟨h 0 (by omega), h1, h 2 (by omega), h3, h12⟩, ⟨?_, h 5 (by omega), fun k hk => ?_, h9, h 10 (by omega), h 11 (by omega)⟩, ⟨h 13 (by omega), fun k hk => absurd hk (by simp [xClear])⟩, ⟨h 14 (by omega), fun k hk => absurd hk (by simp [xClear])⟩, ⟨h 15 (by omega), fun k hk => absurd hk (by simp [xClear])⟩, ?_⟩
  · rw [h 4 (by omega), zb_f (by simp [xClear])] <;> rfl
  · rw [h6 k hk] <;> rfl
  · refine ⟨by simp [xClear], by simp [xClear], by simp [xClear], by simp [xClear], he, ⟨by simp [xClear], fun k hk => absurd hk (by simp [xClear]), by simp [xClear], by simp [xClear], by simp [xClear]⟩, by simp [xClear], by simp [xClear], by simp [xClear], ⟨fun c hc => absurd hc (by simp [xClear]), fun c hc => absurd hc (by simp [xClear]), fun c hc => absurd hc (by simp [xClear])⟩, ⟨fun c hc => absurd hc (by simp [xClear]), fun c hc => absurd hc (by simp [xClear]), fun c hc => absurd hc (by simp [xClear])⟩⟩

set_option maxHeartbeats 4000000 in
set_option maxRecDepth 100000 in
theorem s_mTurn {D : zD} {z0 nx : Nat} {L : zL} {V : zV} {m i : Nat} {x : Ix} (hm : sM L m) (hi : i < 2) (hx : MX (V (m + 1)) (2140 + 1600 * i) x) : Sp D z0 2 0 0 mX12_turnsLogs [.ref m, .int (nI i)] L V nx (zq none L nx (fun V' => oX V V' m i ∧ MX (V' (m + 1)) (2140 + 1600 * i) (xTurn x))) := by
  have hm0 := hm
  obtain ⟨a0, a1, a2, a3, a4, a5, a6, a7, a8, a9, a10, a11, a12, a13, a14, a15⟩ := hm
  have hx0 := hx
  obtain ⟨x1, x2, x3, x4, x5, x6⟩ := hx
  have hb := x6.2.2.2.2.2.1
  have hdl := hb.1
  have xb := x6.2.2.2.2.2.2
  refine Sp.of 1 (by decide) rfl rfl (Nat.le_of_ble_eq_true rfl) ?_
  refine z_sipush (v := nI 2140) dX12_turnsLogs_0 rfl ?_
  refine z_sipush (v := nI 1600) dX12_turnsLogs_3 rfl ?_
  refine z_iload_n dX12_turnsLogs_6 rfl ?_
  refine z_mulN dX12_turnsLogs_7 ?_
  refine z_addN dX12_turnsLogs_8 ?_
  refine z_istore_n dX12_turnsLogs_9 (Nat.le_of_ble_eq_true rfl) rfl ?_
  refine z_aload_n dX12_turnsLogs_10 rfl ?_
  refine z_getR dX12_turnsLogs_11 fX12_13 (by first | assumption | exact And.left (by assumption)) rfl ?_
  refine z_iload_n dX12_turnsLogs_14 rfl ?_
  refine z_sipush (v := nI 1000) dX12_turnsLogs_15 rfl ?_
  refine z_addN dX12_turnsLogs_18 ?_
  refine z_aload_n dX12_turnsLogs_19 rfl ?_
  refine z_getR dX12_turnsLogs_20 fX12_13 (by first | assumption | exact And.left (by assumption)) rfl ?_
  refine z_iload_n dX12_turnsLogs_23 rfl ?_
  refine z_sipush (v := nI 400) dX12_turnsLogs_24 rfl ?_
  refine z_addN dX12_turnsLogs_27 ?_
  refine z_sipush (v := nI 600) dX12_turnsLogs_28 rfl ?_
  refine z_callS5w dX12_turnsLogs_31 kX12_copies lX12_76 (s_cp a1 a1 (by omega) (by omega) (by omega) (Or.inr (Or.inl (by omega)))) (Nat.le_of_ble_eq_true rfl) (Nat.le_of_ble_eq_true rfl) ⟨Nat.le_of_ble_eq_true rfl, Nat.le_of_ble_eq_true rfl⟩ ?_
  intro V1 hV1
  subst hV1
  refine z_aload_n dX12_turnsLogs_34 rfl ?_
  refine z_iload_n dX12_turnsLogs_35 rfl ?_
  refine z_bipush (v := nI 14) dX12_turnsLogs_36 rfl ?_
  refine z_aload_n dX12_turnsLogs_38 rfl ?_
  refine z_iload_n dX12_turnsLogs_39 rfl ?_
  refine z_bipush (v := nI 15) dX12_turnsLogs_40 rfl ?_
  have q15 : cpz V (m + 1) (m + 1) (2140 + 1600 * i + 1000) (2140 + 1600 * i + 400) 600 (m + 1) (2140 + 1600 * i + 15) = nI x.2.2.2.2.length := by
    unfold cpz
    rw [zset_s, if_neg (by omega)]
    exact x5.1
  refine z_callV2i dX12_turnsLogs_42 kX12_ofIndex lX12_104 (by first | assumption | exact And.left (by assumption)) rfl (s_ofIx hm0 hi (by omega) q15) (Nat.le_of_ble_eq_true rfl) (Nat.le_of_ble_eq_true rfl) ⟨Nat.le_of_ble_eq_true rfl, Nat.le_of_ble_eq_true rfl⟩ ?_
  refine z_callV3w dX12_turnsLogs_45 kX12_laysIndex lX12_80 (by first | assumption | exact And.left (by assumption)) rfl (s_lays hm0 (by omega) (by omega)) (Nat.le_of_ble_eq_true rfl) (Nat.le_of_ble_eq_true rfl) ⟨Nat.le_of_ble_eq_true rfl, Nat.le_of_ble_eq_true rfl⟩ ?_
  intro V2 hV2
  subst hV2
  refine z_aload_n dX12_turnsLogs_48 rfl ?_
  refine z_iload_n dX12_turnsLogs_49 rfl ?_
  refine z_bipush (v := nI 15) dX12_turnsLogs_50 rfl ?_
  refine z_iconst (v := nI 0) dX12_turnsLogs_52 rfl ?_
  refine z_callV3w dX12_turnsLogs_53 kX12_laysIndex lX12_80 (by first | assumption | exact And.left (by assumption)) rfl (s_lays hm0 (by omega) (by omega)) (Nat.le_of_ble_eq_true rfl) (Nat.le_of_ble_eq_true rfl) ⟨Nat.le_of_ble_eq_true rfl, Nat.le_of_ble_eq_true rfl⟩ ?_
  intro V3 hV3
  subst hV3
  refine z_return dX12_turnsLogs_56 (Nat.le_of_ble_eq_true rfl) (Nat.le_of_ble_eq_true rfl) rfl ?_
  refine ⟨rfl, rfl, rfl, ((oX.rf.cp (by omega)).up (by omega)).up (by omega), ?_⟩
  refine MX_turn hx0 ?_ (zup_s _ _ _ _) (fun j hj => ?_) (fun j j1 j2 j3 => ?_)
  · rw [zup_k (by omega), zup_s]
  · rw [zup_k (by omega), zup_k (by omega)]
    unfold cpz
    rw [zset_s, if_pos (by omega)]
    congr 1
    omega
  · rw [zup_k (by omega), zup_k (by omega)]
    unfold cpz
    rw [zset_s, if_neg (by omega)]

set_option maxHeartbeats 4000000 in
set_option maxRecDepth 100000 in
theorem lp_mEmp2 {D : zD} {z0 nx : Nat} {L : zL} {V V1 : zV} {k : Nat} {m i e : Nat} (hm : sM L m) (hi : i < 2) (he : e < 4) (h1 : oX V V1 m i) (h2 : ∀ j, j < 1600 → V1 (m + 1) (2140 + 1600 * i + j) = nI 0) : Z D z0 2 0 0 mX12_empties 0 0 22 [some (.ref m), some (.int (nI i)), some (.int (nI e)), some (.int (nI k))] [] L V1 nx (zq none L nx (fun V' => oX V V' m i ∧ MX (V' (m + 1)) (2140 + 1600 * i) (xClear e))) := by
  have hm0 := hm
  refine z_aload_n dX12_empties_22 rfl ?_
  refine z_iload_n dX12_empties_23 rfl ?_
  refine z_iconst (v := nI 1) dX12_empties_24 rfl ?_
  refine z_iconst (v := (-1)) dX12_empties_25 rfl ?_
  refine z_callV3w dX12_empties_26 kX12_laysIndex lX12_80 (by first | assumption | exact And.left (by assumption)) rfl (s_lays hm0 (by omega) (by omega)) (Nat.le_of_ble_eq_true rfl) (Nat.le_of_ble_eq_true rfl) ⟨Nat.le_of_ble_eq_true rfl, Nat.le_of_ble_eq_true rfl⟩ ?_
  intro V3 hV3
  subst hV3
  refine z_aload_n dX12_empties_29 rfl ?_
  refine z_iload_n dX12_empties_30 rfl ?_
  refine z_iconst (v := nI 3) dX12_empties_31 rfl ?_
  refine z_iconst (v := (-1)) dX12_empties_32 rfl ?_
  refine z_callV3w dX12_empties_33 kX12_laysIndex lX12_80 (by first | assumption | exact And.left (by assumption)) rfl (s_lays hm0 (by omega) (by omega)) (Nat.le_of_ble_eq_true rfl) (Nat.le_of_ble_eq_true rfl) ⟨Nat.le_of_ble_eq_true rfl, Nat.le_of_ble_eq_true rfl⟩ ?_
  intro V4 hV4
  subst hV4
  refine z_aload_n dX12_empties_36 rfl ?_
  refine z_iload_n dX12_empties_37 rfl ?_
  refine z_bipush (v := nI 9) dX12_empties_38 rfl ?_
  refine z_iconst (v := (-1)) dX12_empties_40 rfl ?_
  refine z_callV3w dX12_empties_41 kX12_laysIndex lX12_80 (by first | assumption | exact And.left (by assumption)) rfl (s_lays hm0 (by omega) (by omega)) (Nat.le_of_ble_eq_true rfl) (Nat.le_of_ble_eq_true rfl) ⟨Nat.le_of_ble_eq_true rfl, Nat.le_of_ble_eq_true rfl⟩ ?_
  intro V5 hV5
  subst hV5
  refine z_iconst (v := nI 0) dX12_empties_44 rfl ?_
  refine z_istore_n dX12_empties_45 (Nat.le_of_ble_eq_true rfl) rfl ?_
  refine z_iload_n dX12_empties_46 rfl ?_
  refine z_iconst (v := nI 3) dX12_empties_47 rfl ?_
  refine z_icmp_geN (tgt := 67) dX12_empties_48 (by decide) (by omega) (by omega) (fun c_48 => ?_) (fun c_48 => ?_)
  · exact absurd c_48 (by omega)
  · refine z_aload_n dX12_empties_51 rfl ?_
    refine z_iload_n dX12_empties_52 rfl ?_
    refine z_bipush (v := nI 6) dX12_empties_53 rfl ?_
    refine z_iload_n dX12_empties_55 rfl ?_
    refine z_addN dX12_empties_56 ?_
    refine z_iconst (v := (-1)) dX12_empties_57 rfl ?_
    refine z_callV3w dX12_empties_58 kX12_laysIndex lX12_80 (by first | assumption | exact And.left (by assumption)) rfl (s_lays hm0 (by omega) (by omega)) (Nat.le_of_ble_eq_true rfl) (Nat.le_of_ble_eq_true rfl) ⟨Nat.le_of_ble_eq_true rfl, Nat.le_of_ble_eq_true rfl⟩ ?_
    intro V6 hV6
    subst hV6
    refine z_incN dX12_empties_61 rfl rfl ?_
    refine z_goto (tgt := 46) dX12_empties_64 (by decide) ?_
    refine z_iload_n dX12_empties_46 rfl ?_
    refine z_iconst (v := nI 3) dX12_empties_47 rfl ?_
    refine z_icmp_geN (tgt := 67) dX12_empties_48 (by decide) (by omega) (by omega) (fun c_48 => ?_) (fun c_48 => ?_)
    · exact absurd c_48 (by omega)
    · refine z_aload_n dX12_empties_51 rfl ?_
      refine z_iload_n dX12_empties_52 rfl ?_
      refine z_bipush (v := nI 6) dX12_empties_53 rfl ?_
      refine z_iload_n dX12_empties_55 rfl ?_
      refine z_addN dX12_empties_56 ?_
      refine z_iconst (v := (-1)) dX12_empties_57 rfl ?_
      refine z_callV3w dX12_empties_58 kX12_laysIndex lX12_80 (by first | assumption | exact And.left (by assumption)) rfl (s_lays hm0 (by omega) (by omega)) (Nat.le_of_ble_eq_true rfl) (Nat.le_of_ble_eq_true rfl) ⟨Nat.le_of_ble_eq_true rfl, Nat.le_of_ble_eq_true rfl⟩ ?_
      intro V6 hV6
      subst hV6
      refine z_incN dX12_empties_61 rfl rfl ?_
      refine z_goto (tgt := 46) dX12_empties_64 (by decide) ?_
      refine z_iload_n dX12_empties_46 rfl ?_
      refine z_iconst (v := nI 3) dX12_empties_47 rfl ?_
      refine z_icmp_geN (tgt := 67) dX12_empties_48 (by decide) (by omega) (by omega) (fun c_48 => ?_) (fun c_48 => ?_)
      · exact absurd c_48 (by omega)
      · refine z_aload_n dX12_empties_51 rfl ?_
        refine z_iload_n dX12_empties_52 rfl ?_
        refine z_bipush (v := nI 6) dX12_empties_53 rfl ?_
        refine z_iload_n dX12_empties_55 rfl ?_
        refine z_addN dX12_empties_56 ?_
        refine z_iconst (v := (-1)) dX12_empties_57 rfl ?_
        refine z_callV3w dX12_empties_58 kX12_laysIndex lX12_80 (by first | assumption | exact And.left (by assumption)) rfl (s_lays hm0 (by omega) (by omega)) (Nat.le_of_ble_eq_true rfl) (Nat.le_of_ble_eq_true rfl) ⟨Nat.le_of_ble_eq_true rfl, Nat.le_of_ble_eq_true rfl⟩ ?_
        intro V6 hV6
        subst hV6
        refine z_incN dX12_empties_61 rfl rfl ?_
        refine z_goto (tgt := 46) dX12_empties_64 (by decide) ?_
        refine z_iload_n dX12_empties_46 rfl ?_
        refine z_iconst (v := nI 3) dX12_empties_47 rfl ?_
        refine z_icmp_geN (tgt := 67) dX12_empties_48 (by decide) (by omega) (by omega) (fun c_48 => ?_) (fun c_48 => ?_)
        · refine z_aload_n dX12_empties_67 rfl ?_
          refine z_iload_n dX12_empties_68 rfl ?_
          refine z_bipush (v := nI 12) dX12_empties_69 rfl ?_
          refine z_iload_n dX12_empties_71 rfl ?_
          refine z_callV3w dX12_empties_72 kX12_laysIndex lX12_80 (by first | assumption | exact And.left (by assumption)) rfl (s_lays hm0 (by omega) (by omega)) (Nat.le_of_ble_eq_true rfl) (Nat.le_of_ble_eq_true rfl) ⟨Nat.le_of_ble_eq_true rfl, Nat.le_of_ble_eq_true rfl⟩ ?_
          intro V7 hV7
          subst hV7
          refine z_return dX12_empties_75 (Nat.le_of_ble_eq_true rfl) (Nat.le_of_ble_eq_true rfl) rfl ?_
          refine ⟨rfl, rfl, rfl, ((((((h1.up (by omega)).up (by omega)).up (by omega)).up (by omega)).up (by omega)).up (by omega)).up (by omega), ?_⟩
          refine MX_clear he ?_ ?_ ?_ ?_ (fun k hk => ?_) (fun k hk => ?_)
          · repeat (first | rw [zup_s] | rw [zup_k (by omega)])
          · repeat (first | rw [zup_s] | rw [zup_k (by omega)])
          · repeat (first | rw [zup_s] | rw [zup_k (by omega)])
          · repeat (first | rw [zup_s] | rw [zup_k (by omega)])
          · rcases (show k = 0 ∨ k = 1 ∨ k = 2 by omega) with rfl | rfl | rfl <;> repeat (first | rw [zup_s] | rw [zup_k (by omega)])
          · rw [zup_k (by omega), zup_k (by omega), zup_k (by omega), zup_k (by omega), zup_k (by omega), zup_k (by omega), zup_k (by omega)]
            exact h2 k (by omega)
        · exact absurd c_48 (by omega)

set_option maxHeartbeats 4000000 in
set_option maxRecDepth 100000 in
theorem lp_mEmp {D : zD} {z0 nx : Nat} {L : zL} {V : zV} {m i e : Nat} (hm : sM L m) (hi : i < 2) (he : e < 4) : ∀ (fu : Nat) (k : Nat) (V1 : zV), 1600 - k = fu → k ≤ 1600 → oX V V1 m i → (∀ j, j < k → V1 (m + 1) (2140 + 1600 * i + j) = nI 0) → Z D z0 2 0 0 mX12_empties 0 0 2 [some (.ref m), some (.int (nI i)), some (.int (nI e)), some (.int (nI k))] [] L V1 nx (zq none L nx (fun V' => oX V V' m i ∧ MX (V' (m + 1)) (2140 + 1600 * i) (xClear e))) := by
  intro fu
  induction fu using Nat.strongRecOn with
  | ind fu ih =>
    intro k V1 h_fu h_0 h_1 h_2
    have hm0 := hm
    refine z_iload_n dX12_empties_2 rfl ?_
    refine z_sipush (v := nI 1600) dX12_empties_3 rfl ?_
    refine z_icmp_geN (tgt := 22) dX12_empties_6 (by decide) (by omega) (by omega) (fun c_6 => ?_) (fun c_6 => ?_)
    · exact lp_mEmp2 hm0 hi he h_1 (fun j hj => h_2 j (by omega))
    · refine z_aload_n dX12_empties_9 rfl ?_
      refine z_iload_n dX12_empties_10 rfl ?_
      refine z_iload_n dX12_empties_11 rfl ?_
      refine z_iconst (v := nI 0) dX12_empties_12 rfl ?_
      refine z_callV3w dX12_empties_13 kX12_laysIndex lX12_80 (by first | assumption | exact And.left (by assumption)) rfl (s_lays hm0 (by omega) (by omega)) (Nat.le_of_ble_eq_true rfl) (Nat.le_of_ble_eq_true rfl) ⟨Nat.le_of_ble_eq_true rfl, Nat.le_of_ble_eq_true rfl⟩ ?_
      intro V2 hV2
      subst hV2
      refine z_incN dX12_empties_16 rfl rfl ?_
      refine z_goto (tgt := 2) dX12_empties_19 (by decide) ?_
      refine ih _ (by omega) (k + 1) _ rfl (by omega) (h_1.up (by omega)) (fun j hj => ?_)
      by_cases e1 : j = k
      · rw [e1, zup_s]
      · rw [zup_k (by omega)]
        exact h_2 j (by omega)

set_option maxHeartbeats 4000000 in
set_option maxRecDepth 100000 in
theorem s_mEmp {D : zD} {z0 nx : Nat} {L : zL} {V : zV} {m i e : Nat} (hm : sM L m) (hi : i < 2) (he : e < 4) : Sp D z0 2 0 0 mX12_empties [.ref m, .int (nI i), .int (nI e)] L V nx (zq none L nx (fun V' => oX V V' m i ∧ MX (V' (m + 1)) (2140 + 1600 * i) (xClear e))) := by
  refine Sp.of 1 (by decide) rfl rfl (Nat.le_of_ble_eq_true rfl) ?_
  refine z_iconst (v := nI 0) dX12_empties_0 rfl ?_
  refine z_istore_n dX12_empties_1 (Nat.le_of_ble_eq_true rfl) rfl ?_
  exact lp_mEmp hm hi he _ 0 V rfl (by omega) oX.rf (fun j hj => absurd hj (by omega))

def cap (c : Nat) (l : List Nat) : Prop := l.length < 48 ∨ (pl c l < l.length ∧ l.getD (pl c l) 0 = c)
theorem xKeep_d {c : Nat} {P : Prop} {x : Ix} (h : ¬ (xKeep c P x).1.1 = 0) : (xKeep c P x).2.1 = x.2.1 ∧ (xKeep c P x).1 = x.1 := by
  unfold xKeep at *
  split
  · exact ⟨rfl, rfl⟩
  · split
    · exact ⟨rfl, rfl⟩
    · split
      · rename_i h1 h2 h3
        rw [if_neg h1, if_neg h2, if_pos h3] at h
        exact absurd rfl h
      · exact ⟨rfl, rfl⟩
theorem xKeep_4 {c : Nat} {P : Prop} {x : Ix} (h : x.1.1 = 4) : xKeep c P x = xDo c P x := by
  unfold xKeep
  rw [if_neg (by omega), if_pos h]
theorem xKeep_f {c : Nat} {P : Prop} {x : Ix} (h0 : ¬ x.1.1 = 0) (h : ¬ x.1.1 = 4) (h1 : 120 ≤ x.2.2.2.2.length) : xKeep c P x = xClear 3 := by
  unfold xKeep
  rw [if_neg h0, if_neg h, if_pos h1]
theorem pb_t : pb True = true := pb_iff.mpr trivial
theorem pb_f : pb False = false := by
  cases h : pb False with
  | false => rfl
  | true => exact (pb_iff.mp h).elim
theorem xKeep_T {c : Nat} {x : Ix} (h0 : ¬ x.1.1 = 0) (h : ¬ x.1.1 = 4) (h1 : ¬ 120 ≤ x.2.2.2.2.length) : xKeep c True x = (x.1, x.2.1, x.2.2.1, x.2.2.2.1, x.2.2.2.2 ++ [c * 2 + 1]) := by
  unfold xKeep
  rw [if_neg h0, if_neg h, if_neg h1, pb_t] <;> rfl
theorem xKeep_F {c : Nat} {x : Ix} (h0 : ¬ x.1.1 = 0) (h : ¬ x.1.1 = 4) (h1 : ¬ 120 ≤ x.2.2.2.2.length) : xKeep c False x = (x.1, x.2.1, x.2.2.1, x.2.2.2.1, x.2.2.2.2 ++ [c * 2 + 0]) := by
  unfold xKeep
  rw [if_neg h0, if_neg h, if_neg h1, pb_f] <;> rfl
theorem xDo_T {c : Nat} {x : Ix} : xDo c True x = (x.1, x.2.1, inc c x.2.2.1, x.2.2.2) := by
  unfold xDo
  rw [if_pos trivial]
theorem xDo_F {c : Nat} {x : Ix} : xDo c False x = (x.1, x.2.1, exc c x.2.2.1, x.2.2.2) := by
  unfold xDo
  rw [if_neg (fun z => z)]

set_option maxHeartbeats 4000000 in
set_option maxRecDepth 100000 in
theorem s_tell0 {D : zD} {z0 nx : Nat} {L : zL} {V : zV} {m i p r : Nat} {x : Ix} (hm : sM L m) (hi : i < 2) (hx : MX (V (m + 1)) (2140 + 1600 * i) x) (hr : r < 48) (hk : KR V m x.2.1 p) (hp : RV x.2.1 p) (hst : ¬ x.1.1 = 0) : Sp D z0 6 0 0 mX12_tells [.ref m, .int (nI i), .int (nI 0), .int (nI r)] L V nx (zq (some (.int (zb (¬ (xKeep (p * 64 + r) False x).1.1 = 0)))) L nx (fun V' => oX V V' m i ∧ MX (V' (m + 1)) (2140 + 1600 * i) (xKeep (p * 64 + r) False x))) := by
  have hm0 := hm
  obtain ⟨a0, a1, a2, a3, a4, a5, a6, a7, a8, a9, a10, a11, a12, a13, a14, a15⟩ := hm
  have hx0 := hx
  obtain ⟨x1, x2, x3, x4, x5, x6⟩ := hx
  have hb := x6.2.2.2.2.2.1
  have hdl := hb.1
  have xb := x6.2.2.2.2.2.2
  refine Sp.of 2 (by decide) rfl rfl (Nat.le_of_ble_eq_true rfl) ?_
  refine z_aload_n dX12_tells_0 rfl ?_
  refine z_iload_n dX12_tells_1 rfl ?_
  refine z_iconst (v := nI 0) dX12_tells_2 rfl ?_
  refine z_callV2i dX12_tells_3 kX12_ofIndex lX12_104 (by first | assumption | exact And.left (by assumption)) rfl (s_ofIx hm0 hi (by omega) x1.1) (Nat.le_of_ble_eq_true rfl) (Nat.le_of_ble_eq_true rfl) ⟨Nat.le_of_ble_eq_true rfl, Nat.le_of_ble_eq_true rfl⟩ ?_
  have hs6 := x6.1
  refine z_iconst (v := nI 4) dX12_tells_6 rfl ?_
  refine z_icmp_neN (tgt := 19) dX12_tells_7 (by decide) (by omega) (by omega) (fun c_7 => ?_) (fun c_7 => ?_)
  · refine z_aload_n dX12_tells_19 rfl ?_
    refine z_iload_n dX12_tells_20 rfl ?_
    refine z_bipush (v := nI 15) dX12_tells_21 rfl ?_
    refine z_callV2i dX12_tells_23 kX12_ofIndex lX12_104 (by first | assumption | exact And.left (by assumption)) rfl (s_ofIx hm0 hi (by omega) x5.1) (Nat.le_of_ble_eq_true rfl) (Nat.le_of_ble_eq_true rfl) ⟨Nat.le_of_ble_eq_true rfl, Nat.le_of_ble_eq_true rfl⟩ ?_
    have hn120 := xb.2.2.1
    refine z_istore dX12_tells_26 (Nat.le_of_ble_eq_true rfl) rfl ?_
    refine z_iload dX12_tells_28 rfl ?_
    refine z_bipush (v := nI 120) dX12_tells_30 rfl ?_
    refine z_icmp_neN (tgt := 43) dX12_tells_32 (by decide) (by omega) (by omega) (fun c_32 => ?_) (fun c_32 => ?_)
    · refine z_sipush (v := nI 2140) dX12_tells_43 rfl ?_
      refine z_sipush (v := nI 1600) dX12_tells_46 rfl ?_
      refine z_iload_n dX12_tells_49 rfl ?_
      refine z_mulN dX12_tells_50 ?_
      refine z_addN dX12_tells_51 ?_
      refine z_sipush (v := nI 1000) dX12_tells_52 rfl ?_
      refine z_addN dX12_tells_55 ?_
      refine z_iconst (v := nI 5) dX12_tells_56 rfl ?_
      refine z_iload dX12_tells_57 rfl ?_
      refine z_mulN dX12_tells_59 ?_
      refine z_addN dX12_tells_60 ?_
      refine z_istore dX12_tells_61 (Nat.le_of_ble_eq_true rfl) rfl ?_
      refine z_aload_n dX12_tells_63 rfl ?_
      refine z_getR dX12_tells_64 fX12_13 (by first | assumption | exact And.left (by assumption)) rfl ?_
      refine z_iload dX12_tells_67 rfl ?_
      refine z_iload_n dX12_tells_69 rfl ?_
      refine z_iastN dX12_tells_70 (by first | assumption | exact And.left (by assumption)) (by omega) (by decide) ?_
      refine z_aload_n dX12_tells_71 rfl ?_
      refine z_getR dX12_tells_72 fX12_13 (by first | assumption | exact And.left (by assumption)) rfl ?_
      refine z_iload dX12_tells_75 rfl ?_
      refine z_iconst (v := nI 1) dX12_tells_77 rfl ?_
      refine z_addN dX12_tells_78 ?_
      refine z_iload_n dX12_tells_79 rfl ?_
      refine z_iastN dX12_tells_80 (by first | assumption | exact And.left (by assumption)) (by omega) (by decide) ?_
      refine z_aload_n dX12_tells_81 rfl ?_
      refine z_getR dX12_tells_82 fX12_25 (by first | assumption | exact And.left (by assumption)) rfl ?_
      refine z_iconst (v := nI 0) dX12_tells_85 rfl ?_
      refine z_aload_n dX12_tells_86 rfl ?_
      refine z_getR dX12_tells_87 fX12_13 (by first | assumption | exact And.left (by assumption)) rfl ?_
      refine z_iload dX12_tells_90 rfl ?_
      refine z_iconst (v := nI 2) dX12_tells_92 rfl ?_
      refine z_addN dX12_tells_93 ?_
      refine z_iconst (v := nI 3) dX12_tells_94 rfl ?_
      refine z_callS5w dX12_tells_95 kX12_copies lX12_76 (s_cp a4 a1 (by omega) (by omega) (by omega) (Or.inl (by omega))) (Nat.le_of_ble_eq_true rfl) (Nat.le_of_ble_eq_true rfl) ⟨Nat.le_of_ble_eq_true rfl, Nat.le_of_ble_eq_true rfl⟩ ?_
      intro V2 hV2
      subst hV2
      refine z_aload_n dX12_tells_98 rfl ?_
      refine z_iload_n dX12_tells_99 rfl ?_
      refine z_bipush (v := nI 15) dX12_tells_100 rfl ?_
      refine z_iload dX12_tells_102 rfl ?_
      refine z_iconst (v := nI 1) dX12_tells_104 rfl ?_
      refine z_addN dX12_tells_105 ?_
      refine z_callV3w dX12_tells_106 kX12_laysIndex lX12_80 (by first | assumption | exact And.left (by assumption)) rfl (s_lays hm0 (by omega) (by omega)) (Nat.le_of_ble_eq_true rfl) (Nat.le_of_ble_eq_true rfl) ⟨Nat.le_of_ble_eq_true rfl, Nat.le_of_ble_eq_true rfl⟩ ?_
      intro V3 hV3
      subst hV3
      refine z_iconst (v := nI 1) dX12_tells_109 rfl ?_
      refine z_zreturn dX12_tells_110 (Nat.le_of_ble_eq_true rfl) (Nat.le_of_ble_eq_true rfl) rfl (by first | exact Or.inl rfl | exact Or.inr rfl | exact zb_01 _ | assumption) ?_
      have e9 : xKeep (p * 64 + r) False x = (x.1, x.2.1, x.2.2.1, x.2.2.2.1, x.2.2.2.2 ++ [(p * 64 + r) * 2 + 0]) := xKeep_F hst (by omega) (by omega)
      rw [e9]
      refine ⟨by rw [zb_t (show ¬ x.1.1 = 0 from hst)] <;> rfl, rfl, rfl, (((oX.rf.up (by omega)).up (by omega)).cp (by omega)).up (by omega), ?_⟩
      refine MX_app hx0 (by omega) (by omega) (by omega) hp (zup_s _ _ _ _) ?_ ?_ (fun j hj => ?_) (fun j j1 j2 => ?_)
      · rw [zup_k (by omega)]
        unfold cpz
        rw [zset_s, if_neg (by omega), zup_k (by omega), zup_s]
      · rw [zup_k (by omega)]
        unfold cpz
        rw [zset_s, if_neg (by omega), zup_s]
      · have hj3 : j < 3 := Nat.lt_of_lt_of_le hj hdl
        rw [zup_k (by omega)]
        unfold cpz
        rw [zset_s, if_pos (by omega), zup_a (by omega), zup_a (by omega)]
        have := hk j hj
        rw [← this]
        congr 1
        omega
      · rw [zup_k (by omega)]
        unfold cpz
        rw [zset_s, if_neg (by omega), zup_k (by omega), zup_k (by omega)]
    · refine z_aload_n dX12_tells_35 rfl ?_
      refine z_iload_n dX12_tells_36 rfl ?_
      refine z_iconst (v := nI 3) dX12_tells_37 rfl ?_
      refine z_callV2w dX12_tells_38 kX12_empties lX12_68 (by first | assumption | exact And.left (by assumption)) rfl (s_mEmp hm0 hi (by omega)) (Nat.le_of_ble_eq_true rfl) (Nat.le_of_ble_eq_true rfl) ⟨Nat.le_of_ble_eq_true rfl, Nat.le_of_ble_eq_true rfl⟩ ?_
      intro V2 hV2
      refine z_iconst (v := nI 0) dX12_tells_41 rfl ?_
      refine z_zreturn dX12_tells_42 (Nat.le_of_ble_eq_true rfl) (Nat.le_of_ble_eq_true rfl) rfl (by first | exact Or.inl rfl | exact Or.inr rfl | exact zb_01 _ | assumption) ?_
      have e9 : xKeep (p * 64 + r) False x = xClear 3 := xKeep_f hst (by omega) (by omega)
      rw [e9]
      exact ⟨by rw [zb_f (by simp [xClear])] <;> rfl, rfl, rfl, hV2.1, hV2.2⟩
  · refine z_aload_n dX12_tells_10 rfl ?_
    refine z_iload_n dX12_tells_11 rfl ?_
    refine z_iload_n dX12_tells_12 rfl ?_
    refine z_iload_n dX12_tells_13 rfl ?_
    refine z_callV3w dX12_tells_14 kX12_does lX12_130 (by first | assumption | exact And.left (by assumption)) rfl (s_does0 hm0 hi hr x2 hb x3 xb.1 xb.2.2.2.2.1 hk hp) (Nat.le_of_ble_eq_true rfl) (Nat.le_of_ble_eq_true rfl) ⟨Nat.le_of_ble_eq_true rfl, Nat.le_of_ble_eq_true rfl⟩ ?_
    intro V2 hV2
    obtain ⟨e2, t2⟩ := hV2
    rw [if_neg (by omega)] at t2
    refine z_iconst (v := nI 1) dX12_tells_17 rfl ?_
    refine z_zreturn dX12_tells_18 (Nat.le_of_ble_eq_true rfl) (Nat.le_of_ble_eq_true rfl) rfl (by first | exact Or.inl rfl | exact Or.inr rfl | exact zb_01 _ | assumption) ?_
    have e9 : xKeep (p * 64 + r) False x = (x.1, x.2.1, exc (p * 64 + r) x.2.2.1, x.2.2.2) := (xKeep_4 (by omega)).trans xDo_F
    rw [e9]
    exact ⟨by rw [zb_t (show ¬ x.1.1 = 0 from hst)] <;> rfl, rfl, rfl, e2.x, MX_e hx0 t2 (Nat.le_trans exc_len xb.1) (fun c hc => ⟨xb.2.2.2.1.1 c (exc_mem hc), xb.2.2.2.2.1 c (exc_mem hc)⟩) e2.2⟩

set_option maxHeartbeats 4000000 in
set_option maxRecDepth 100000 in
theorem s_tell1 {D : zD} {z0 nx : Nat} {L : zL} {V : zV} {m i p r : Nat} {x : Ix} (hm : sM L m) (hi : i < 2) (hx : MX (V (m + 1)) (2140 + 1600 * i) x) (hr : r < 48) (hk : KR V m x.2.1 p) (hp : RV x.2.1 p) (hst : ¬ x.1.1 = 0) (hcap : x.1.1 = 4 → cap (p * 64 + r) x.2.2.1) : Sp D z0 6 0 0 mX12_tells [.ref m, .int (nI i), .int (nI 1), .int (nI r)] L V nx (zq (some (.int (zb (¬ (xKeep (p * 64 + r) True x).1.1 = 0)))) L nx (fun V' => oX V V' m i ∧ MX (V' (m + 1)) (2140 + 1600 * i) (xKeep (p * 64 + r) True x))) := by
  have hm0 := hm
  obtain ⟨a0, a1, a2, a3, a4, a5, a6, a7, a8, a9, a10, a11, a12, a13, a14, a15⟩ := hm
  have hx0 := hx
  obtain ⟨x1, x2, x3, x4, x5, x6⟩ := hx
  have hb := x6.2.2.2.2.2.1
  have hdl := hb.1
  have xb := x6.2.2.2.2.2.2
  refine Sp.of 2 (by decide) rfl rfl (Nat.le_of_ble_eq_true rfl) ?_
  refine z_aload_n dX12_tells_0 rfl ?_
  refine z_iload_n dX12_tells_1 rfl ?_
  refine z_iconst (v := nI 0) dX12_tells_2 rfl ?_
  refine z_callV2i dX12_tells_3 kX12_ofIndex lX12_104 (by first | assumption | exact And.left (by assumption)) rfl (s_ofIx hm0 hi (by omega) x1.1) (Nat.le_of_ble_eq_true rfl) (Nat.le_of_ble_eq_true rfl) ⟨Nat.le_of_ble_eq_true rfl, Nat.le_of_ble_eq_true rfl⟩ ?_
  have hs6 := x6.1
  refine z_iconst (v := nI 4) dX12_tells_6 rfl ?_
  refine z_icmp_neN (tgt := 19) dX12_tells_7 (by decide) (by omega) (by omega) (fun c_7 => ?_) (fun c_7 => ?_)
  · refine z_aload_n dX12_tells_19 rfl ?_
    refine z_iload_n dX12_tells_20 rfl ?_
    refine z_bipush (v := nI 15) dX12_tells_21 rfl ?_
    refine z_callV2i dX12_tells_23 kX12_ofIndex lX12_104 (by first | assumption | exact And.left (by assumption)) rfl (s_ofIx hm0 hi (by omega) x5.1) (Nat.le_of_ble_eq_true rfl) (Nat.le_of_ble_eq_true rfl) ⟨Nat.le_of_ble_eq_true rfl, Nat.le_of_ble_eq_true rfl⟩ ?_
    have hn120 := xb.2.2.1
    refine z_istore dX12_tells_26 (Nat.le_of_ble_eq_true rfl) rfl ?_
    refine z_iload dX12_tells_28 rfl ?_
    refine z_bipush (v := nI 120) dX12_tells_30 rfl ?_
    refine z_icmp_neN (tgt := 43) dX12_tells_32 (by decide) (by omega) (by omega) (fun c_32 => ?_) (fun c_32 => ?_)
    · refine z_sipush (v := nI 2140) dX12_tells_43 rfl ?_
      refine z_sipush (v := nI 1600) dX12_tells_46 rfl ?_
      refine z_iload_n dX12_tells_49 rfl ?_
      refine z_mulN dX12_tells_50 ?_
      refine z_addN dX12_tells_51 ?_
      refine z_sipush (v := nI 1000) dX12_tells_52 rfl ?_
      refine z_addN dX12_tells_55 ?_
      refine z_iconst (v := nI 5) dX12_tells_56 rfl ?_
      refine z_iload dX12_tells_57 rfl ?_
      refine z_mulN dX12_tells_59 ?_
      refine z_addN dX12_tells_60 ?_
      refine z_istore dX12_tells_61 (Nat.le_of_ble_eq_true rfl) rfl ?_
      refine z_aload_n dX12_tells_63 rfl ?_
      refine z_getR dX12_tells_64 fX12_13 (by first | assumption | exact And.left (by assumption)) rfl ?_
      refine z_iload dX12_tells_67 rfl ?_
      refine z_iload_n dX12_tells_69 rfl ?_
      refine z_iastN dX12_tells_70 (by first | assumption | exact And.left (by assumption)) (by omega) (by decide) ?_
      refine z_aload_n dX12_tells_71 rfl ?_
      refine z_getR dX12_tells_72 fX12_13 (by first | assumption | exact And.left (by assumption)) rfl ?_
      refine z_iload dX12_tells_75 rfl ?_
      refine z_iconst (v := nI 1) dX12_tells_77 rfl ?_
      refine z_addN dX12_tells_78 ?_
      refine z_iload_n dX12_tells_79 rfl ?_
      refine z_iastN dX12_tells_80 (by first | assumption | exact And.left (by assumption)) (by omega) (by decide) ?_
      refine z_aload_n dX12_tells_81 rfl ?_
      refine z_getR dX12_tells_82 fX12_25 (by first | assumption | exact And.left (by assumption)) rfl ?_
      refine z_iconst (v := nI 0) dX12_tells_85 rfl ?_
      refine z_aload_n dX12_tells_86 rfl ?_
      refine z_getR dX12_tells_87 fX12_13 (by first | assumption | exact And.left (by assumption)) rfl ?_
      refine z_iload dX12_tells_90 rfl ?_
      refine z_iconst (v := nI 2) dX12_tells_92 rfl ?_
      refine z_addN dX12_tells_93 ?_
      refine z_iconst (v := nI 3) dX12_tells_94 rfl ?_
      refine z_callS5w dX12_tells_95 kX12_copies lX12_76 (s_cp a4 a1 (by omega) (by omega) (by omega) (Or.inl (by omega))) (Nat.le_of_ble_eq_true rfl) (Nat.le_of_ble_eq_true rfl) ⟨Nat.le_of_ble_eq_true rfl, Nat.le_of_ble_eq_true rfl⟩ ?_
      intro V2 hV2
      subst hV2
      refine z_aload_n dX12_tells_98 rfl ?_
      refine z_iload_n dX12_tells_99 rfl ?_
      refine z_bipush (v := nI 15) dX12_tells_100 rfl ?_
      refine z_iload dX12_tells_102 rfl ?_
      refine z_iconst (v := nI 1) dX12_tells_104 rfl ?_
      refine z_addN dX12_tells_105 ?_
      refine z_callV3w dX12_tells_106 kX12_laysIndex lX12_80 (by first | assumption | exact And.left (by assumption)) rfl (s_lays hm0 (by omega) (by omega)) (Nat.le_of_ble_eq_true rfl) (Nat.le_of_ble_eq_true rfl) ⟨Nat.le_of_ble_eq_true rfl, Nat.le_of_ble_eq_true rfl⟩ ?_
      intro V3 hV3
      subst hV3
      refine z_iconst (v := nI 1) dX12_tells_109 rfl ?_
      refine z_zreturn dX12_tells_110 (Nat.le_of_ble_eq_true rfl) (Nat.le_of_ble_eq_true rfl) rfl (by first | exact Or.inl rfl | exact Or.inr rfl | exact zb_01 _ | assumption) ?_
      have e9 : xKeep (p * 64 + r) True x = (x.1, x.2.1, x.2.2.1, x.2.2.2.1, x.2.2.2.2 ++ [(p * 64 + r) * 2 + 1]) := xKeep_T hst (by omega) (by omega)
      rw [e9]
      refine ⟨by rw [zb_t (show ¬ x.1.1 = 0 from hst)] <;> rfl, rfl, rfl, (((oX.rf.up (by omega)).up (by omega)).cp (by omega)).up (by omega), ?_⟩
      refine MX_app hx0 (by omega) (by omega) (by omega) hp (zup_s _ _ _ _) ?_ ?_ (fun j hj => ?_) (fun j j1 j2 => ?_)
      · rw [zup_k (by omega)]
        unfold cpz
        rw [zset_s, if_neg (by omega), zup_k (by omega), zup_s]
      · rw [zup_k (by omega)]
        unfold cpz
        rw [zset_s, if_neg (by omega), zup_s]
      · have hj3 : j < 3 := Nat.lt_of_lt_of_le hj hdl
        rw [zup_k (by omega)]
        unfold cpz
        rw [zset_s, if_pos (by omega), zup_a (by omega), zup_a (by omega)]
        have := hk j hj
        rw [← this]
        congr 1
        omega
      · rw [zup_k (by omega)]
        unfold cpz
        rw [zset_s, if_neg (by omega), zup_k (by omega), zup_k (by omega)]
    · refine z_aload_n dX12_tells_35 rfl ?_
      refine z_iload_n dX12_tells_36 rfl ?_
      refine z_iconst (v := nI 3) dX12_tells_37 rfl ?_
      refine z_callV2w dX12_tells_38 kX12_empties lX12_68 (by first | assumption | exact And.left (by assumption)) rfl (s_mEmp hm0 hi (by omega)) (Nat.le_of_ble_eq_true rfl) (Nat.le_of_ble_eq_true rfl) ⟨Nat.le_of_ble_eq_true rfl, Nat.le_of_ble_eq_true rfl⟩ ?_
      intro V2 hV2
      refine z_iconst (v := nI 0) dX12_tells_41 rfl ?_
      refine z_zreturn dX12_tells_42 (Nat.le_of_ble_eq_true rfl) (Nat.le_of_ble_eq_true rfl) rfl (by first | exact Or.inl rfl | exact Or.inr rfl | exact zb_01 _ | assumption) ?_
      have e9 : xKeep (p * 64 + r) True x = xClear 3 := xKeep_f hst (by omega) (by omega)
      rw [e9]
      exact ⟨by rw [zb_f (by simp [xClear])] <;> rfl, rfl, rfl, hV2.1, hV2.2⟩
  · refine z_aload_n dX12_tells_10 rfl ?_
    refine z_iload_n dX12_tells_11 rfl ?_
    refine z_iload_n dX12_tells_12 rfl ?_
    refine z_iload_n dX12_tells_13 rfl ?_
    refine z_callV3w dX12_tells_14 kX12_does lX12_130 (by first | assumption | exact And.left (by assumption)) rfl (s_does1 hm0 hi hr x2 hb x3 xb.1 xb.2.2.2.2.1 hk hp (fun _ => hcap (by omega))) (Nat.le_of_ble_eq_true rfl) (Nat.le_of_ble_eq_true rfl) ⟨Nat.le_of_ble_eq_true rfl, Nat.le_of_ble_eq_true rfl⟩ ?_
    intro V2 hV2
    obtain ⟨e2, t2⟩ := hV2
    rw [if_pos rfl] at t2
    refine z_iconst (v := nI 1) dX12_tells_17 rfl ?_
    refine z_zreturn dX12_tells_18 (Nat.le_of_ble_eq_true rfl) (Nat.le_of_ble_eq_true rfl) rfl (by first | exact Or.inl rfl | exact Or.inr rfl | exact zb_01 _ | assumption) ?_
    have e9 : xKeep (p * 64 + r) True x = (x.1, x.2.1, inc (p * 64 + r) x.2.2.1, x.2.2.2) := (xKeep_4 (by omega)).trans xDo_T
    rw [e9]
    exact ⟨by rw [zb_t (show ¬ x.1.1 = 0 from hst)] <;> rfl, rfl, rfl, e2.x, MX_e hx0 t2 (inc_len xb.1) (fun c hc => by
      rcases inc_mem hc with q | q
      · rw [q]
        exact ⟨by have := hp.1; omega, by rw [show (p * 64 + r) / 64 = p by omega]; exact hp⟩
      · exact ⟨xb.2.2.2.1.1 c q, xb.2.2.2.2.1 c q⟩) e2.2⟩

