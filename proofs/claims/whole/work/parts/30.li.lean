/-! LateIndex: the whole object -/
def qa (a : Nat) (sw : Bool) : Nat := if sw then a + 55 else a + 46
def sLI (L : zL) (a : Nat) (sw : Bool) : Prop := L a = some (.inr (.inr (11, [some (.ref (a + 1)), some (.ref (a + 41)), none, none, some (.ref (a + 42)), some (.ref (a + 43)), some (.ref (a + 44)), none, some (.ref (qa a sw)), some (.ref (qa a (!sw))), none, some (.ref (a + 64)), some (.ref (a + 69))]))) ∧ sSt L (a + 1) ∧ L (a + 41) = some (.inr (.inl (3, [some (a + 71), some (a + 111), some (a + 151), some (a + 191), some (a + 231), some (a + 271), some (a + 311), some (a + 351)]))) ∧ L (a + 42) = some (.inr (.inl (3, [some (a + 391), some (a + 431)]))) ∧ L (a + 43) = some (.inl (1, 2)) ∧ sTp L (a + 44) ∧ sQu L (a + 46) ∧ sQu L (a + 55) ∧ sDf L (a + 64) ∧ sSC L (a + 69) ∧ (∀ k, k < 8 → sSt L (a + 71 + 40 * k)) ∧ ∀ k, k < 2 → sSt L (a + 391 + 40 * k)
theorem e8_at (a k : Nat) (h : k < 8) : ([some (a + 71), some (a + 111), some (a + 151), some (a + 191), some (a + 231), some (a + 271), some (a + 311), some (a + 351)] : List (Option Nat))[k]? = some (some (a + 71 + 40 * k)) := by
  rcases (show k = 0 ∨ k = 1 ∨ k = 2 ∨ k = 3 ∨ k = 4 ∨ k = 5 ∨ k = 6 ∨ k = 7 by omega) with rfl | rfl | rfl | rfl | rfl | rfl | rfl | rfl <;> rfl
theorem m2_at (a k : Nat) (h : k < 2) : ([some (a + 391), some (a + 431)] : List (Option Nat))[k]? = some (some (a + 391 + 40 * k)) := by
  rcases (show k = 0 ∨ k = 1 by omega) with rfl | rfl <;> rfl
theorem qa_or (a : Nat) (sw : Bool) : (qa a sw = a + 46 ∧ qa a (!sw) = a + 55) ∨ (qa a sw = a + 55 ∧ qa a (!sw) = a + 46) := by cases sw <;> simp [qa]
theorem sLI.q {L : zL} {a : Nat} {sw : Bool} (h : sLI L a sw) : sQu L (qa a sw) ∧ sQu L (qa a (!sw)) := by
  obtain ⟨-, -, -, -, -, -, h1, h2, -⟩ := h
  cases sw
  · exact ⟨h1, h2⟩
  · exact ⟨h2, h1⟩
def st0 : St := ((0, 3, 5), fun _ => [(0, none)], fun _ => (false, 0, fun _ => none), fun _ => xClear 0)
def LIu (V : zV) (a : Nat) (U : List St) : Prop := U.length ≤ 8 ∧ V a 3 = nI U.length ∧ ∃ el, el < 8 ∧ V a 2 = nI el ∧ (∀ k, k < 8 → ∃ s, ST V (a + 71 + 40 * k) s) ∧ ∀ k, k < U.length → ST V (a + 71 + 40 * ((el + k) % 8)) (U.getD k st0)
def LIi (V : zV) (a : Nat) (im : Nat → Option St) : Prop := ∀ i, i < 2 → V (a + 43) i = zb (im i ≠ none) ∧ (∃ s, ST V (a + 391 + 40 * i) s) ∧ ∀ s, im i = some s → ST V (a + 391 + 40 * i) s
def LIq (V : zV) (a : Nat) (sw : Bool) (q : Option Qu) : Prop := V a 10 = zb (q ≠ none) ∧ (∃ x, QU V (qa a sw) x) ∧ (∃ x, QU V (qa a (!sw)) x) ∧ ∀ x, q = some x → QU V (qa a sw) x
/-- (the store, what can be undone, images, (the tape, its fault, its place), why, the query) -/
abbrev Wo : Type := St × List St × (Nat → Option St) × (List Nat × Nat × Int32) × Nat × Option Qu
def LI (V : zV) (a : Nat) (sw : Bool) (w : Wo) : Prop := ST V (a + 1) w.1 ∧ LIu V a w.2.1 ∧ LIi V a w.2.2.1 ∧ (TP V (a + 44) w.2.2.2.1.1 (nI w.2.2.2.1.2.1) w.2.2.2.1.2.2 ∧ w.2.2.2.1.2.1 < 5) ∧ (V a 7 = nI w.2.2.2.2.1 ∧ w.2.2.2.2.1 < 5) ∧ LIq V a sw w.2.2.2.2.2 ∧ (∃ d, DF V (a + 64) d) ∧ ∃ l, SC V (a + 69) l
theorem LIu.eq {V V' : zV} {a lo hi : Nat} {U : List St} (h : LIu V a U) (he : zEq V V' lo hi) (h1 : a < lo ∨ hi ≤ a) (h2 : hi ≤ a + 71 ∨ a + 391 ≤ lo) : LIu V' a U := by
  obtain ⟨g1, g2, el, g3, g4, g5, g6⟩ := h
  refine ⟨g1, by rw [he a (by omega)]; exact g2, el, g3, by rw [he a (by omega)]; exact g4, fun k hk => ?_, fun k hk => (g6 k hk).eq he (by omega)⟩
  obtain ⟨s, hs⟩ := g5 k hk
  exact ⟨s, hs.eq he (by omega)⟩
theorem LIi.eq {V V' : zV} {a lo hi : Nat} {im : Nat → Option St} (h : LIi V a im) (he : zEq V V' lo hi) (h1 : hi ≤ a + 43 ∨ a + 44 ≤ lo) (h2 : hi ≤ a + 391 ∨ a + 471 ≤ lo) : LIi V' a im := by
  intro i hi0
  obtain ⟨g1, ⟨s, g2⟩, g3⟩ := h i hi0
  exact ⟨by rw [he (a + 43) (by omega)]; exact g1, ⟨s, g2.eq he (by omega)⟩, fun s hs => (g3 s hs).eq he (by omega)⟩
theorem LIq.eq {V V' : zV} {a lo hi : Nat} {sw : Bool} {q : Option Qu} (h : LIq V a sw q) (he : zEq V V' lo hi) (h1 : a < lo ∨ hi ≤ a) (h2 : hi ≤ a + 46 ∨ a + 64 ≤ lo) : LIq V' a sw q := by
  obtain ⟨g1, ⟨x, g2⟩, ⟨y, g3⟩, g4⟩ := h
  have hq := qa_or a sw
  exact ⟨by rw [he a (by omega)]; exact g1, ⟨x, g2.eq he (by omega)⟩, ⟨y, g3.eq he (by omega)⟩, fun z hz => (g4 z hz).eq he (by omega)⟩
theorem LI_st {V V' : zV} {a : Nat} {sw : Bool} {w : Wo} {s : St} (h : LI V a sw w) (he : zEq V V' (a + 1) (a + 41)) (hs : ST V' (a + 1) s) : LI V' a sw (s, w.2) := by
  obtain ⟨h1, h2, h3, ⟨h4, h40⟩, ⟨h5, h6⟩, h7, ⟨d, h8⟩, ⟨l, h9⟩⟩ := h
  exact ⟨hs, h2.eq he (by omega) (by omega), h3.eq he (by omega) (by omega), ⟨h4.eq he (by omega), h40⟩, ⟨by rw [he a (by omega)]; exact h5, h6⟩, h7.eq he (by omega) (by omega), ⟨d, h8.eq he (by omega)⟩, ⟨l, h9.eq he (by omega)⟩⟩
theorem LI_sc {V V' : zV} {a : Nat} {sw : Bool} {w : Wo} (h : LI V a sw w) (he : zEq V V' (a + 69) (a + 71)) (hs : ∃ l, SC V' (a + 69) l) : LI V' a sw w := by
  obtain ⟨h1, h2, h3, ⟨h4, h40⟩, ⟨h5, h6⟩, h7, ⟨d, h8⟩, ⟨l, h9⟩⟩ := h
  exact ⟨h1.eq he (by omega), h2.eq he (by omega) (by omega), h3.eq he (by omega) (by omega), ⟨h4.eq he (by omega), h40⟩, ⟨by rw [he a (by omega)]; exact h5, h6⟩, h7.eq he (by omega) (by omega), ⟨d, h8.eq he (by omega)⟩, hs⟩
theorem LI_tp {V V' : zV} {a k : Nat} {sw : Bool} {w : Wo} {b : List Nat} {p : Int32} (h : LI V a sw w) (he : zEq V V' (a + 44) (a + 46)) (hs : TP V' (a + 44) b (nI k) p) (hk : k < 5) : LI V' a sw (w.1, w.2.1, w.2.2.1, (b, k, p), w.2.2.2.2) := by
  obtain ⟨h1, h2, h3, -, ⟨h5, h6⟩, h7, ⟨d, h8⟩, ⟨l, h9⟩⟩ := h
  exact ⟨h1.eq he (by omega), h2.eq he (by omega) (by omega), h3.eq he (by omega) (by omega), ⟨hs, hk⟩, ⟨by rw [he a (by omega)]; exact h5, h6⟩, h7.eq he (by omega) (by omega), ⟨d, h8.eq he (by omega)⟩, ⟨l, h9.eq he (by omega)⟩⟩
theorem LI_wy {V : zV} {a k : Nat} {sw : Bool} {w : Wo} (h : LI V a sw w) (hk : k < 5) : LI (zup V a 7 (nI k)) a sw (w.1, w.2.1, w.2.2.1, w.2.2.2.1, k, w.2.2.2.2.2) := by
  have he : zEq V (zup V a 7 (nI k)) a (a + 1) := zEq.rf.up (by omega) (by omega)
  obtain ⟨h1, ⟨u1, u2, el, u3, u4, u5, u6⟩, h3, ⟨h4, h40⟩, ⟨h5, h6⟩, ⟨q1, ⟨x, q2⟩, ⟨y, q3⟩, q4⟩, ⟨d, h8⟩, ⟨l, h9⟩⟩ := h
  have hq := qa_or a sw
  refine ⟨h1.eq he (by omega), ⟨u1, by simp [zup]; exact u2, el, u3, by simp [zup]; exact u4, fun k hk => ?_, fun k hk => (u6 k hk).eq he (by omega)⟩, h3.eq he (by omega) (by omega), ⟨h4.eq he (by omega), h40⟩, ⟨by simp [zup], hk⟩, ⟨by simp [zup]; exact q1, ⟨x, q2.eq he (by omega)⟩, ⟨y, q3.eq he (by omega)⟩, fun z hz => (q4 z hz).eq he (by omega)⟩, ⟨d, h8.eq he (by omega)⟩, ⟨l, h9.eq he (by omega)⟩⟩
  obtain ⟨s, hs⟩ := u5 k hk
  exact ⟨s, hs.eq he (by omega)⟩
theorem LI.out {V V' : zV} {a lo hi : Nat} {sw : Bool} {w : Wo} (h : LI V a sw w) (he : zEq V V' lo hi) (hd : a + 471 ≤ lo ∨ hi ≤ a) : LI V' a sw w := by
  obtain ⟨h1, h2, h3, ⟨h4, h40⟩, ⟨h5, h6⟩, h7, ⟨d, h8⟩, ⟨l, h9⟩⟩ := h
  exact ⟨h1.eq he (by omega), h2.eq he (by omega) (by omega), h3.eq he (by omega) (by omega), ⟨h4.eq he (by omega), h40⟩, ⟨by rw [he a (by omega)]; exact h5, h6⟩, h7.eq he (by omega) (by omega), ⟨d, h8.eq he (by omega)⟩, ⟨l, h9.eq he (by omega)⟩⟩
/-- a call that can be undone is remembered -/
def rem (U : List St) (S : St) : List St := if U.length < 8 then U ++ [S] else U.tail ++ [S]
def wrem (w : Wo) : Wo := (w.1, rem w.2.1 w.1, w.2.2)
theorem getD_snocS (l : List St) (x : St) (k : Nat) (hk : k < l.length + 1) : (l ++ [x]).getD k st0 = if k < l.length then l.getD k st0 else x := by
  simp only [List.getD_eq_getElem?_getD]
  split
  · rename_i q; rw [List.getElem?_append_left q]
  · rename_i q; rw [List.getElem?_append_right (by omega), show k - l.length = 0 by omega] <;> rfl
theorem getD_tailS (l : List St) (k : Nat) : l.tail.getD k st0 = l.getD (k + 1) st0 := by
  cases l with
  | nil => simp
  | cons c t => simp
/-- an int from 0 on below so much -/
def rng (n : Nat) (x : Int32) : Prop := ∃ k, k < n ∧ x = nI k
theorem rng_y {x : Int32} {n : Nat} (hn : n < 1000) (h1 : ¬ x < 0) (h2 : ¬ nI n ≤ x) : rng n x := by
  have h3 : x < nI n := Int32.not_le.mp h2
  have e1 : (0 : Int) ≤ x.toInt := by
    have := Int32.not_lt.mp h1
    simpa using Int32.le_iff_toInt_le.mp this
  have e2 : x.toInt < (n : Int) := by
    have := Int32.lt_iff_toInt_lt.mp h3
    rw [nI_toInt (by omega)] at this
    exact this
  refine ⟨x.toInt.toNat, by omega, ?_⟩
  apply Int32.toInt_inj.mp
  rw [nI_toInt (by omega)]
  omega
theorem rng_n1 {x : Int32} {n : Nat} (hn : n < 1000) (h : x < 0) : ¬ rng n x := fun ⟨k, hk, e⟩ => by
  rw [e] at h
  exact nI_pos (by omega) h
theorem rng_n2 {x : Int32} {n : Nat} (hn : n < 1000) (h : nI n ≤ x) : ¬ rng n x := fun ⟨k, hk, e⟩ => by
  rw [e] at h
  exact nI_ge hk (by omega) h
theorem rng_k {n k : Nat} (h : k < n) : rng n (nI k) := ⟨k, h, rfl⟩
def tn (x : Int32) : Nat := x.toNatClampNeg
theorem tn_k {k : Nat} (h : k < 1000000) : tn (nI k) = k := nI_clamp (by omega)

set_option maxHeartbeats 4000000 in
set_option maxRecDepth 100000 in
theorem s_isT {D : zD} {z0 nx : Nat} {L : zL} {V : zV} {x : Int32} : Sp D z0 1 0 0 mX11_isTransaction [.int x] L V nx (zi (zb (rng 4 x)) L V nx) := by
  refine Sp.of 0 (by decide) rfl rfl (Nat.le_of_ble_eq_true rfl) ?_
  refine z_iload_n dX11_isTransaction_0 rfl ?_
  refine z_if_lt (tgt := 13) dX11_isTransaction_1 (by decide) (fun c_1 => ?_) (fun c_1 => ?_)
  · refine z_iconst (v := nI 0) dX11_isTransaction_13 rfl ?_
    refine z_zreturn dX11_isTransaction_14 (Nat.le_of_ble_eq_true rfl) (Nat.le_of_ble_eq_true rfl) rfl (by first | exact Or.inl rfl | exact Or.inr rfl | exact zb_01 _ | assumption) ?_
    exact zi_r (by first | exact (zb_t (rng_y (by decide) (by assumption) (by assumption))).symm | exact (zb_f (rng_n1 (by decide) (by assumption))).symm | exact (zb_f (rng_n2 (by decide) (by assumption))).symm)
  · refine z_iload_n dX11_isTransaction_4 rfl ?_
    refine z_iconst (v := nI 4) dX11_isTransaction_5 rfl ?_
    refine z_icmp_ge (tgt := 13) dX11_isTransaction_6 (by decide) (fun c_6 => ?_) (fun c_6 => ?_)
    · refine z_iconst (v := nI 0) dX11_isTransaction_13 rfl ?_
      refine z_zreturn dX11_isTransaction_14 (Nat.le_of_ble_eq_true rfl) (Nat.le_of_ble_eq_true rfl) rfl (by first | exact Or.inl rfl | exact Or.inr rfl | exact zb_01 _ | assumption) ?_
      exact zi_r (by first | exact (zb_t (rng_y (by decide) (by assumption) (by assumption))).symm | exact (zb_f (rng_n1 (by decide) (by assumption))).symm | exact (zb_f (rng_n2 (by decide) (by assumption))).symm)
    · refine z_iconst (v := nI 1) dX11_isTransaction_9 rfl ?_
      refine z_goto (tgt := 14) dX11_isTransaction_10 (by decide) ?_
      refine z_zreturn dX11_isTransaction_14 (Nat.le_of_ble_eq_true rfl) (Nat.le_of_ble_eq_true rfl) rfl (by first | exact Or.inl rfl | exact Or.inr rfl | exact zb_01 _ | assumption) ?_
      exact zi_r (by first | exact (zb_t (rng_y (by decide) (by assumption) (by assumption))).symm | exact (zb_f (rng_n1 (by decide) (by assumption))).symm | exact (zb_f (rng_n2 (by decide) (by assumption))).symm)

set_option maxHeartbeats 4000000 in
set_option maxRecDepth 100000 in
theorem s_isRow {D : zD} {z0 nx : Nat} {L : zL} {V : zV} {x : Int32} : Sp D z0 1 0 0 mX11_isRow [.int x] L V nx (zi (zb (rng 48 x)) L V nx) := by
  refine Sp.of 0 (by decide) rfl rfl (Nat.le_of_ble_eq_true rfl) ?_
  refine z_iload_n dX11_isRow_0 rfl ?_
  refine z_if_lt (tgt := 14) dX11_isRow_1 (by decide) (fun c_1 => ?_) (fun c_1 => ?_)
  · refine z_iconst (v := nI 0) dX11_isRow_14 rfl ?_
    refine z_zreturn dX11_isRow_15 (Nat.le_of_ble_eq_true rfl) (Nat.le_of_ble_eq_true rfl) rfl (by first | exact Or.inl rfl | exact Or.inr rfl | exact zb_01 _ | assumption) ?_
    exact zi_r (by first | exact (zb_t (rng_y (by decide) (by assumption) (by assumption))).symm | exact (zb_f (rng_n1 (by decide) (by assumption))).symm | exact (zb_f (rng_n2 (by decide) (by assumption))).symm)
  · refine z_iload_n dX11_isRow_4 rfl ?_
    refine z_bipush (v := nI 48) dX11_isRow_5 rfl ?_
    refine z_icmp_ge (tgt := 14) dX11_isRow_7 (by decide) (fun c_7 => ?_) (fun c_7 => ?_)
    · refine z_iconst (v := nI 0) dX11_isRow_14 rfl ?_
      refine z_zreturn dX11_isRow_15 (Nat.le_of_ble_eq_true rfl) (Nat.le_of_ble_eq_true rfl) rfl (by first | exact Or.inl rfl | exact Or.inr rfl | exact zb_01 _ | assumption) ?_
      exact zi_r (by first | exact (zb_t (rng_y (by decide) (by assumption) (by assumption))).symm | exact (zb_f (rng_n1 (by decide) (by assumption))).symm | exact (zb_f (rng_n2 (by decide) (by assumption))).symm)
    · refine z_iconst (v := nI 1) dX11_isRow_10 rfl ?_
      refine z_goto (tgt := 15) dX11_isRow_11 (by decide) ?_
      refine z_zreturn dX11_isRow_15 (Nat.le_of_ble_eq_true rfl) (Nat.le_of_ble_eq_true rfl) rfl (by first | exact Or.inl rfl | exact Or.inr rfl | exact zb_01 _ | assumption) ?_
      exact zi_r (by first | exact (zb_t (rng_y (by decide) (by assumption) (by assumption))).symm | exact (zb_f (rng_n1 (by decide) (by assumption))).symm | exact (zb_f (rng_n2 (by decide) (by assumption))).symm)

set_option maxHeartbeats 4000000 in
set_option maxRecDepth 100000 in
theorem s_isCol {D : zD} {z0 nx : Nat} {L : zL} {V : zV} {x : Int32} : Sp D z0 1 0 0 mX11_isColumn [.int x] L V nx (zi (zb (rng 3 x)) L V nx) := by
  refine Sp.of 0 (by decide) rfl rfl (Nat.le_of_ble_eq_true rfl) ?_
  refine z_iload_n dX11_isColumn_0 rfl ?_
  refine z_if_lt (tgt := 13) dX11_isColumn_1 (by decide) (fun c_1 => ?_) (fun c_1 => ?_)
  · refine z_iconst (v := nI 0) dX11_isColumn_13 rfl ?_
    refine z_zreturn dX11_isColumn_14 (Nat.le_of_ble_eq_true rfl) (Nat.le_of_ble_eq_true rfl) rfl (by first | exact Or.inl rfl | exact Or.inr rfl | exact zb_01 _ | assumption) ?_
    exact zi_r (by first | exact (zb_t (rng_y (by decide) (by assumption) (by assumption))).symm | exact (zb_f (rng_n1 (by decide) (by assumption))).symm | exact (zb_f (rng_n2 (by decide) (by assumption))).symm)
  · refine z_iload_n dX11_isColumn_4 rfl ?_
    refine z_iconst (v := nI 3) dX11_isColumn_5 rfl ?_
    refine z_icmp_ge (tgt := 13) dX11_isColumn_6 (by decide) (fun c_6 => ?_) (fun c_6 => ?_)
    · refine z_iconst (v := nI 0) dX11_isColumn_13 rfl ?_
      refine z_zreturn dX11_isColumn_14 (Nat.le_of_ble_eq_true rfl) (Nat.le_of_ble_eq_true rfl) rfl (by first | exact Or.inl rfl | exact Or.inr rfl | exact zb_01 _ | assumption) ?_
      exact zi_r (by first | exact (zb_t (rng_y (by decide) (by assumption) (by assumption))).symm | exact (zb_f (rng_n1 (by decide) (by assumption))).symm | exact (zb_f (rng_n2 (by decide) (by assumption))).symm)
    · refine z_iconst (v := nI 1) dX11_isColumn_9 rfl ?_
      refine z_goto (tgt := 14) dX11_isColumn_10 (by decide) ?_
      refine z_zreturn dX11_isColumn_14 (Nat.le_of_ble_eq_true rfl) (Nat.le_of_ble_eq_true rfl) rfl (by first | exact Or.inl rfl | exact Or.inr rfl | exact zb_01 _ | assumption) ?_
      exact zi_r (by first | exact (zb_t (rng_y (by decide) (by assumption) (by assumption))).symm | exact (zb_f (rng_n1 (by decide) (by assumption))).symm | exact (zb_f (rng_n2 (by decide) (by assumption))).symm)

set_option maxHeartbeats 4000000 in
set_option maxRecDepth 100000 in
theorem s_isIx {D : zD} {z0 nx : Nat} {L : zL} {V : zV} {x : Int32} : Sp D z0 1 0 0 mX11_isIndex [.int x] L V nx (zi (zb (rng 2 x)) L V nx) := by
  refine Sp.of 0 (by decide) rfl rfl (Nat.le_of_ble_eq_true rfl) ?_
  refine z_iload_n dX11_isIndex_0 rfl ?_
  refine z_if_lt (tgt := 13) dX11_isIndex_1 (by decide) (fun c_1 => ?_) (fun c_1 => ?_)
  · refine z_iconst (v := nI 0) dX11_isIndex_13 rfl ?_
    refine z_zreturn dX11_isIndex_14 (Nat.le_of_ble_eq_true rfl) (Nat.le_of_ble_eq_true rfl) rfl (by first | exact Or.inl rfl | exact Or.inr rfl | exact zb_01 _ | assumption) ?_
    exact zi_r (by first | exact (zb_t (rng_y (by decide) (by assumption) (by assumption))).symm | exact (zb_f (rng_n1 (by decide) (by assumption))).symm | exact (zb_f (rng_n2 (by decide) (by assumption))).symm)
  · refine z_iload_n dX11_isIndex_4 rfl ?_
    refine z_iconst (v := nI 2) dX11_isIndex_5 rfl ?_
    refine z_icmp_ge (tgt := 13) dX11_isIndex_6 (by decide) (fun c_6 => ?_) (fun c_6 => ?_)
    · refine z_iconst (v := nI 0) dX11_isIndex_13 rfl ?_
      refine z_zreturn dX11_isIndex_14 (Nat.le_of_ble_eq_true rfl) (Nat.le_of_ble_eq_true rfl) rfl (by first | exact Or.inl rfl | exact Or.inr rfl | exact zb_01 _ | assumption) ?_
      exact zi_r (by first | exact (zb_t (rng_y (by decide) (by assumption) (by assumption))).symm | exact (zb_f (rng_n1 (by decide) (by assumption))).symm | exact (zb_f (rng_n2 (by decide) (by assumption))).symm)
    · refine z_iconst (v := nI 1) dX11_isIndex_9 rfl ?_
      refine z_goto (tgt := 14) dX11_isIndex_10 (by decide) ?_
      refine z_zreturn dX11_isIndex_14 (Nat.le_of_ble_eq_true rfl) (Nat.le_of_ble_eq_true rfl) rfl (by first | exact Or.inl rfl | exact Or.inr rfl | exact zb_01 _ | assumption) ?_
      exact zi_r (by first | exact (zb_t (rng_y (by decide) (by assumption) (by assumption))).symm | exact (zb_f (rng_n1 (by decide) (by assumption))).symm | exact (zb_f (rng_n2 (by decide) (by assumption))).symm)

set_option maxHeartbeats 4000000 in
set_option maxRecDepth 100000 in
theorem s_isNum {D : zD} {z0 nx : Nat} {L : zL} {V : zV} {x : Int32} : Sp D z0 1 0 0 mX11_isNumber [.int x] L V nx (zi (zb (rng 100 x)) L V nx) := by
  refine Sp.of 0 (by decide) rfl rfl (Nat.le_of_ble_eq_true rfl) ?_
  refine z_iload_n dX11_isNumber_0 rfl ?_
  refine z_if_lt (tgt := 14) dX11_isNumber_1 (by decide) (fun c_1 => ?_) (fun c_1 => ?_)
  · refine z_iconst (v := nI 0) dX11_isNumber_14 rfl ?_
    refine z_zreturn dX11_isNumber_15 (Nat.le_of_ble_eq_true rfl) (Nat.le_of_ble_eq_true rfl) rfl (by first | exact Or.inl rfl | exact Or.inr rfl | exact zb_01 _ | assumption) ?_
    exact zi_r (by first | exact (zb_t (rng_y (by decide) (by assumption) (by assumption))).symm | exact (zb_f (rng_n1 (by decide) (by assumption))).symm | exact (zb_f (rng_n2 (by decide) (by assumption))).symm)
  · refine z_iload_n dX11_isNumber_4 rfl ?_
    refine z_bipush (v := nI 100) dX11_isNumber_5 rfl ?_
    refine z_icmp_ge (tgt := 14) dX11_isNumber_7 (by decide) (fun c_7 => ?_) (fun c_7 => ?_)
    · refine z_iconst (v := nI 0) dX11_isNumber_14 rfl ?_
      refine z_zreturn dX11_isNumber_15 (Nat.le_of_ble_eq_true rfl) (Nat.le_of_ble_eq_true rfl) rfl (by first | exact Or.inl rfl | exact Or.inr rfl | exact zb_01 _ | assumption) ?_
      exact zi_r (by first | exact (zb_t (rng_y (by decide) (by assumption) (by assumption))).symm | exact (zb_f (rng_n1 (by decide) (by assumption))).symm | exact (zb_f (rng_n2 (by decide) (by assumption))).symm)
    · refine z_iconst (v := nI 1) dX11_isNumber_10 rfl ?_
      refine z_goto (tgt := 15) dX11_isNumber_11 (by decide) ?_
      refine z_zreturn dX11_isNumber_15 (Nat.le_of_ble_eq_true rfl) (Nat.le_of_ble_eq_true rfl) rfl (by first | exact Or.inl rfl | exact Or.inr rfl | exact zb_01 _ | assumption) ?_
      exact zi_r (by first | exact (zb_t (rng_y (by decide) (by assumption) (by assumption))).symm | exact (zb_f (rng_n1 (by decide) (by assumption))).symm | exact (zb_f (rng_n2 (by decide) (by assumption))).symm)

def nums (a b c : Int32) : Prop := rng 100 a ∧ rng 100 b ∧ rng 100 c
def vwr (t : Int32) : Prop := t = -1 ∨ rng 4 t

set_option maxHeartbeats 4000000 in
set_option maxRecDepth 100000 in
theorem s_nums {D : zD} {z0 nx : Nat} {L : zL} {V : zV} {x y z : Int32} : Sp D z0 2 0 0 mX11_areNumbers [.int x, .int y, .int z] L V nx (zi (zb (nums x y z)) L V nx) := by
  refine Sp.of 0 (by decide) rfl rfl (Nat.le_of_ble_eq_true rfl) ?_
  refine z_iload_n dX11_areNumbers_0 rfl ?_
  refine z_callS1i dX11_areNumbers_1 kX11_isNumber lX11_261 s_isNum (Nat.le_of_ble_eq_true rfl) (Nat.le_of_ble_eq_true rfl) ⟨Nat.le_of_ble_eq_true rfl, Nat.le_of_ble_eq_true rfl⟩ ?_
  refine z_if_eqB (tgt := 25) dX11_areNumbers_4 (by decide) (fun c_4 => ?_) (fun c_4 => ?_)
  · refine z_iconst (v := nI 0) dX11_areNumbers_25 rfl ?_
    refine z_zreturn dX11_areNumbers_26 (Nat.le_of_ble_eq_true rfl) (Nat.le_of_ble_eq_true rfl) rfl (by first | exact Or.inl rfl | exact Or.inr rfl | exact zb_01 _ | assumption) ?_
    exact zi_r (by first | exact (zb_t ⟨c_4, c_11, c_18⟩).symm | exact (zb_f (fun q => by first | exact c_4 q.1 | exact c_11 q.2.1 | exact c_18 q.2.2)).symm)
  · refine z_iload_n dX11_areNumbers_7 rfl ?_
    refine z_callS1i dX11_areNumbers_8 kX11_isNumber lX11_261 s_isNum (Nat.le_of_ble_eq_true rfl) (Nat.le_of_ble_eq_true rfl) ⟨Nat.le_of_ble_eq_true rfl, Nat.le_of_ble_eq_true rfl⟩ ?_
    refine z_if_eqB (tgt := 25) dX11_areNumbers_11 (by decide) (fun c_11 => ?_) (fun c_11 => ?_)
    · refine z_iconst (v := nI 0) dX11_areNumbers_25 rfl ?_
      refine z_zreturn dX11_areNumbers_26 (Nat.le_of_ble_eq_true rfl) (Nat.le_of_ble_eq_true rfl) rfl (by first | exact Or.inl rfl | exact Or.inr rfl | exact zb_01 _ | assumption) ?_
      exact zi_r (by first | exact (zb_t ⟨c_4, c_11, c_18⟩).symm | exact (zb_f (fun q => by first | exact c_4 q.1 | exact c_11 q.2.1 | exact c_18 q.2.2)).symm)
    · refine z_iload_n dX11_areNumbers_14 rfl ?_
      refine z_callS1i dX11_areNumbers_15 kX11_isNumber lX11_261 s_isNum (Nat.le_of_ble_eq_true rfl) (Nat.le_of_ble_eq_true rfl) ⟨Nat.le_of_ble_eq_true rfl, Nat.le_of_ble_eq_true rfl⟩ ?_
      refine z_if_eqB (tgt := 25) dX11_areNumbers_18 (by decide) (fun c_18 => ?_) (fun c_18 => ?_)
      · refine z_iconst (v := nI 0) dX11_areNumbers_25 rfl ?_
        refine z_zreturn dX11_areNumbers_26 (Nat.le_of_ble_eq_true rfl) (Nat.le_of_ble_eq_true rfl) rfl (by first | exact Or.inl rfl | exact Or.inr rfl | exact zb_01 _ | assumption) ?_
        exact zi_r (by first | exact (zb_t ⟨c_4, c_11, c_18⟩).symm | exact (zb_f (fun q => by first | exact c_4 q.1 | exact c_11 q.2.1 | exact c_18 q.2.2)).symm)
      · refine z_iconst (v := nI 1) dX11_areNumbers_21 rfl ?_
        refine z_goto (tgt := 26) dX11_areNumbers_22 (by decide) ?_
        refine z_zreturn dX11_areNumbers_26 (Nat.le_of_ble_eq_true rfl) (Nat.le_of_ble_eq_true rfl) rfl (by first | exact Or.inl rfl | exact Or.inr rfl | exact zb_01 _ | assumption) ?_
        exact zi_r (by first | exact (zb_t ⟨c_4, c_11, c_18⟩).symm | exact (zb_f (fun q => by first | exact c_4 q.1 | exact c_11 q.2.1 | exact c_18 q.2.2)).symm)

set_option maxHeartbeats 4000000 in
set_option maxRecDepth 100000 in
theorem s_packed {D : zD} {z0 nx : Nat} {L : zL} {V : zV} {x y z : Nat} (h1 : x < 100) (h2 : y < 100) (h3 : z < 100) : Sp D z0 1 0 0 mX11_packed [.int (nI x), .int (nI y), .int (nI z)] L V nx (zi (nI ((x * 100 + y) * 100 + z)) L V nx) := by
  refine Sp.of 0 (by decide) rfl rfl (Nat.le_of_ble_eq_true rfl) ?_
  refine z_iload_n dX11_packed_0 rfl ?_
  refine z_bipush (v := nI 100) dX11_packed_1 rfl ?_
  refine z_mulN dX11_packed_3 ?_
  refine z_iload_n dX11_packed_4 rfl ?_
  refine z_addN dX11_packed_5 ?_
  refine z_bipush (v := nI 100) dX11_packed_6 rfl ?_
  refine z_mulN dX11_packed_8 ?_
  refine z_iload_n dX11_packed_9 rfl ?_
  refine z_addN dX11_packed_10 ?_
  refine z_ireturn dX11_packed_11 (Nat.le_of_ble_eq_true rfl) (Nat.le_of_ble_eq_true rfl) rfl ?_
  exact zi_r rfl

set_option maxHeartbeats 4000000 in
set_option maxRecDepth 100000 in
theorem s_vwr {D : zD} {z0 nx : Nat} {L : zL} {V : zV} {x : Int32} : Sp D z0 2 0 0 mX11_isViewer [.int x] L V nx (zi (zb (vwr x)) L V nx) := by
  refine Sp.of 0 (by decide) rfl rfl (Nat.le_of_ble_eq_true rfl) ?_
  refine z_iload_n dX11_isViewer_0 rfl ?_
  refine z_iconst (v := (-1)) dX11_isViewer_1 rfl ?_
  refine z_icmp_eq (tgt := 12) dX11_isViewer_2 (by decide) (fun c_2 => ?_) (fun c_2 => ?_)
  · refine z_iconst (v := nI 1) dX11_isViewer_12 rfl ?_
    refine z_goto (tgt := 17) dX11_isViewer_13 (by decide) ?_
    refine z_zreturn dX11_isViewer_17 (Nat.le_of_ble_eq_true rfl) (Nat.le_of_ble_eq_true rfl) rfl (by first | exact Or.inl rfl | exact Or.inr rfl | exact zb_01 _ | assumption) ?_
    exact zi_r (by first | exact (zb_t (Or.inl c_2)).symm | exact (zb_t (Or.inr c_9)).symm | exact (zb_f (fun q => q.elim c_2 c_9)).symm)
  · refine z_iload_n dX11_isViewer_5 rfl ?_
    refine z_callS1i dX11_isViewer_6 kX11_isTransaction lX11_58 s_isT (Nat.le_of_ble_eq_true rfl) (Nat.le_of_ble_eq_true rfl) ⟨Nat.le_of_ble_eq_true rfl, Nat.le_of_ble_eq_true rfl⟩ ?_
    refine z_if_eqB (tgt := 16) dX11_isViewer_9 (by decide) (fun c_9 => ?_) (fun c_9 => ?_)
    · refine z_iconst (v := nI 0) dX11_isViewer_16 rfl ?_
      refine z_zreturn dX11_isViewer_17 (Nat.le_of_ble_eq_true rfl) (Nat.le_of_ble_eq_true rfl) rfl (by first | exact Or.inl rfl | exact Or.inr rfl | exact zb_01 _ | assumption) ?_
      exact zi_r (by first | exact (zb_t (Or.inl c_2)).symm | exact (zb_t (Or.inr c_9)).symm | exact (zb_f (fun q => q.elim c_2 c_9)).symm)
    · refine z_iconst (v := nI 1) dX11_isViewer_12 rfl ?_
      refine z_goto (tgt := 17) dX11_isViewer_13 (by decide) ?_
      refine z_zreturn dX11_isViewer_17 (Nat.le_of_ble_eq_true rfl) (Nat.le_of_ble_eq_true rfl) rfl (by first | exact Or.inl rfl | exact Or.inr rfl | exact zb_01 _ | assumption) ?_
      exact zi_r (by first | exact (zb_t (Or.inl c_2)).symm | exact (zb_t (Or.inr c_9)).symm | exact (zb_f (fun q => q.elim c_2 c_9)).symm)

def opn (w : Wo) (t : Int32) : Prop := (w.1.2.2.1 (tn t)).1 = true
def cvw (w : Wo) (t : Int32) : Prop := t = -1 ∨ (rng 4 t ∧ opn w t)
theorem opn_k {w : Wo} {k : Nat} (hk : k < 4) : opn w (nI k) ↔ (w.1.2.2.1 k).1 = true := by
  unfold opn
  rw [tn_k (by omega)]

set_option maxHeartbeats 4000000 in
set_option maxRecDepth 100000 in
theorem s_cvw {D : zD} {z0 nx : Nat} {L : zL} {V : zV} {a : Nat} {sw : Bool} {w : Wo} (hs : sLI L a sw) (h : LI V a sw w) {t : Int32} : Sp D z0 2 0 0 mX11_canView [.ref a, .int t] L V nx (zi (zb (cvw w t)) L V nx) := by
  have hs0 := hs
  have h0 := h
  obtain ⟨l1, l2, l3, l4, l5, l6, l7, l8, l9, l10, l11, l12⟩ := hs
  obtain ⟨k1, k2, k3, k4, k5, k6, k7, k8⟩ := h
  have l20 := l2
  obtain ⟨s1, s2, s3, s4, s5, s6, s7⟩ := l2
  have k10 := k1
  obtain ⟨v1, v2, v3, v4⟩ := k1
  refine Sp.of 0 (by decide) rfl rfl (Nat.le_of_ble_eq_true rfl) ?_
  refine z_iload_n dX11_canView_0 rfl ?_
  refine z_iconst (v := (-1)) dX11_canView_1 rfl ?_
  refine z_icmp_eq (tgt := 27) dX11_canView_2 (by decide) (fun c_2 => ?_) (fun c_2 => ?_)
  · have hY : cvw w t := Or.inl c_2
    refine z_iconst (v := nI 1) dX11_canView_27 rfl ?_
    refine z_goto (tgt := 32) dX11_canView_28 (by decide) ?_
    refine z_zreturn dX11_canView_32 (Nat.le_of_ble_eq_true rfl) (Nat.le_of_ble_eq_true rfl) rfl (by first | exact Or.inl rfl | exact Or.inr rfl | exact zb_01 _ | assumption) ?_
    exact zi_r (by first | exact (zb_t hY).symm | exact (zb_f hF).symm)
  · refine z_iload_n dX11_canView_5 rfl ?_
    refine z_callS1i dX11_canView_6 kX11_isTransaction lX11_58 s_isT (Nat.le_of_ble_eq_true rfl) (Nat.le_of_ble_eq_true rfl) ⟨Nat.le_of_ble_eq_true rfl, Nat.le_of_ble_eq_true rfl⟩ ?_
    refine z_if_eqB (tgt := 31) dX11_canView_9 (by decide) (fun c_9 => ?_) (fun c_9 => ?_)
    · have hF : ¬ cvw w t := fun q => q.elim c_2 (fun z => c_9 z.1)
      refine z_iconst (v := nI 0) dX11_canView_31 rfl ?_
      refine z_zreturn dX11_canView_32 (Nat.le_of_ble_eq_true rfl) (Nat.le_of_ble_eq_true rfl) rfl (by first | exact Or.inl rfl | exact Or.inr rfl | exact zb_01 _ | assumption) ?_
      exact zi_r (by first | exact (zb_t hY).symm | exact (zb_f hF).symm)
    · obtain ⟨k, hk, rfl⟩ := c_9
      have hT := tn_k (k := k) (by omega)
      have q1 := t4_at (a + 1) k (by omega)
      have p1 := s6 k (by omega)
      obtain ⟨p2, p3⟩ := s6 k (by omega)
      have m0 := v3 k (by omega)
      obtain ⟨m1, m2, m3, m4, m5, m6⟩ := v3 k (by omega)
      refine z_aload_n dX11_canView_12 rfl ?_
      refine z_getR dX11_canView_13 fX11_10 (by first | assumption | exact And.left (by assumption)) rfl ?_
      refine z_getR dX11_canView_16 fX11_62 (by first | assumption | exact And.left (by assumption)) rfl ?_
      refine z_iload_n dX11_canView_19 rfl ?_
      refine z_aaldN dX11_canView_20 (by first | assumption | exact And.left (by assumption)) (fun _ => rfl) (by exact Nat.le_of_ble_eq_true rfl) (by assumption) ?_
      refine z_getIe dX11_canView_21 fX11_66 (by first | assumption | exact And.left (by assumption)) rfl (by first | assumption | exact zup_s _ _ _ _ | rfl) ?_
      refine z_if_eqB (tgt := 31) dX11_canView_24 (by decide) (fun c_24 => ?_) (fun c_24 => ?_)
      · have hF : ¬ cvw w (nI k) := fun q => q.elim c_2 (fun z => c_24 ((opn_k hk).mp z.2))
        refine z_iconst (v := nI 0) dX11_canView_31 rfl ?_
        refine z_zreturn dX11_canView_32 (Nat.le_of_ble_eq_true rfl) (Nat.le_of_ble_eq_true rfl) rfl (by first | exact Or.inl rfl | exact Or.inr rfl | exact zb_01 _ | assumption) ?_
        exact zi_r (by first | exact (zb_t hY).symm | exact (zb_f hF).symm)
      · have hY : cvw w (nI k) := Or.inr ⟨rng_k hk, (opn_k hk).mpr c_24⟩
        refine z_iconst (v := nI 1) dX11_canView_27 rfl ?_
        refine z_goto (tgt := 32) dX11_canView_28 (by decide) ?_
        refine z_zreturn dX11_canView_32 (Nat.le_of_ble_eq_true rfl) (Nat.le_of_ble_eq_true rfl) rfl (by first | exact Or.inl rfl | exact Or.inr rfl | exact zb_01 _ | assumption) ?_
        exact zi_r (by first | exact (zb_t hY).symm | exact (zb_f hF).symm)

theorem rem_A {V V1 : zV} {a el : Nat} {sw : Bool} {w : Wo} (u1 : w.2.1.length ≤ 8) (u3 : el < 8) (hc : w.2.1.length < 8) (e1 : zEq V V1 (a + 71 + 40 * ((el + w.2.1.length) % 8)) (a + 71 + 40 * ((el + w.2.1.length) % 8) + 40)) (t1 : ST V1 (a + 71 + 40 * ((el + w.2.1.length) % 8)) w.1) (g2 : V1 a 2 = nI el) (g3 : V1 a 3 = nI w.2.1.length) (j1 : ST V1 (a + 1) w.1) (j3 : LIi V1 a w.2.2.1) (j4 : TP V1 (a + 44) w.2.2.2.1.1 (nI w.2.2.2.1.2.1) w.2.2.2.1.2.2 ∧ w.2.2.2.1.2.1 < 5) (k5 : V a 7 = nI w.2.2.2.2.1 ∧ w.2.2.2.2.1 < 5) (j6 : LIq V1 a sw w.2.2.2.2.2) (j7 : ∃ d, DF V1 (a + 64) d) (j8 : ∃ l, SC V1 (a + 69) l) (u5 : ∀ k, k < 8 → ∃ s, ST V (a + 71 + 40 * k) s) (u6 : ∀ k, k < w.2.1.length → ST V (a + 71 + 40 * ((el + k) % 8)) (w.2.1.getD k st0)) : zEq V (zup V1 a 3 (nI (w.2.1.length + 1))) a (a + 471) ∧ LI (zup V1 a 3 (nI (w.2.1.length + 1))) a sw (wrem w) := by
  have he : zEq V1 (zup V1 a 3 (nI (w.2.1.length + 1))) a (a + 1) := zEq.rf.up (by omega) (by omega)
  have hq := qa_or a sw
  obtain ⟨q1, ⟨x, q2⟩, ⟨y, q3⟩, q4⟩ := j6
  obtain ⟨d, j7⟩ := j7
  obtain ⟨l, j8⟩ := j8
  refine ⟨(e1.wide (by omega) (by omega)).trans (he.wide (by omega) (by omega)), j1.eq he (by omega), ?_, j3.eq he (by omega) (by omega), ⟨j4.1.eq he (by omega), j4.2⟩, ⟨by simp [zup]; rw [e1 a (by omega)]; exact k5.1, k5.2⟩, ⟨by simp [zup]; exact q1, ⟨x, q2.eq he (by omega)⟩, ⟨y, q3.eq he (by omega)⟩, fun z hz => (q4 z hz).eq he (by omega)⟩, ⟨d, j7.eq he (by omega)⟩, ⟨l, j8.eq he (by omega)⟩⟩
  have u7 : ∀ k, k < 8 → ∃ s, ST (zup V1 a 3 (nI (w.2.1.length + 1))) (a + 71 + 40 * k) s := fun k hk => by
    by_cases e : k = (el + w.2.1.length) % 8
    · subst e
      exact ⟨_, t1.eq he (by omega)⟩
    · obtain ⟨s, hs⟩ := u5 k hk
      exact ⟨s, (hs.eq e1 (by omega)).eq he (by omega)⟩
  show LIu _ a (rem w.2.1 w.1)
  have hr : rem w.2.1 w.1 = w.2.1 ++ [w.1] := if_pos hc
  rw [hr]
  refine ⟨by simp; omega, by simp [zup], el, u3, by simp [zup]; exact g2, u7, fun k hk => ?_⟩
  simp at hk
  rw [getD_snocS _ _ _ hk]
  split
  · rename_i q
    exact ((u6 k q).eq e1 (by omega)).eq he (by omega)
  · rename_i q
    rw [show k = w.2.1.length by omega]
    exact t1.eq he (by omega)
theorem rem_B {V V1 : zV} {a el : Nat} {sw : Bool} {w : Wo} (u1 : w.2.1.length ≤ 8) (u3 : el < 8) (hc : w.2.1.length = 8) (e1 : zEq V V1 (a + 71 + 40 * ((el + w.2.1.length) % 8)) (a + 71 + 40 * ((el + w.2.1.length) % 8) + 40)) (t1 : ST V1 (a + 71 + 40 * ((el + w.2.1.length) % 8)) w.1) (g2 : V1 a 2 = nI el) (g3 : V1 a 3 = nI w.2.1.length) (j1 : ST V1 (a + 1) w.1) (j3 : LIi V1 a w.2.2.1) (j4 : TP V1 (a + 44) w.2.2.2.1.1 (nI w.2.2.2.1.2.1) w.2.2.2.1.2.2 ∧ w.2.2.2.1.2.1 < 5) (k5 : V a 7 = nI w.2.2.2.2.1 ∧ w.2.2.2.2.1 < 5) (j6 : LIq V1 a sw w.2.2.2.2.2) (j7 : ∃ d, DF V1 (a + 64) d) (j8 : ∃ l, SC V1 (a + 69) l) (u5 : ∀ k, k < 8 → ∃ s, ST V (a + 71 + 40 * k) s) (u6 : ∀ k, k < w.2.1.length → ST V (a + 71 + 40 * ((el + k) % 8)) (w.2.1.getD k st0)) : zEq V (zup V1 a 2 (nI ((el + 1) % 8))) a (a + 471) ∧ LI (zup V1 a 2 (nI ((el + 1) % 8))) a sw (wrem w) := by
  have he : zEq V1 (zup V1 a 2 (nI ((el + 1) % 8))) a (a + 1) := zEq.rf.up (by omega) (by omega)
  have hq := qa_or a sw
  obtain ⟨q1, ⟨x, q2⟩, ⟨y, q3⟩, q4⟩ := j6
  obtain ⟨d, j7⟩ := j7
  obtain ⟨l, j8⟩ := j8
  refine ⟨(e1.wide (by omega) (by omega)).trans (he.wide (by omega) (by omega)), j1.eq he (by omega), ?_, j3.eq he (by omega) (by omega), ⟨j4.1.eq he (by omega), j4.2⟩, ⟨by simp [zup]; rw [e1 a (by omega)]; exact k5.1, k5.2⟩, ⟨by simp [zup]; exact q1, ⟨x, q2.eq he (by omega)⟩, ⟨y, q3.eq he (by omega)⟩, fun z hz => (q4 z hz).eq he (by omega)⟩, ⟨d, j7.eq he (by omega)⟩, ⟨l, j8.eq he (by omega)⟩⟩
  have u7 : ∀ k, k < 8 → ∃ s, ST (zup V1 a 2 (nI ((el + 1) % 8))) (a + 71 + 40 * k) s := fun k hk => by
    by_cases e : k = (el + w.2.1.length) % 8
    · subst e
      exact ⟨_, t1.eq he (by omega)⟩
    · obtain ⟨s, hs⟩ := u5 k hk
      exact ⟨s, (hs.eq e1 (by omega)).eq he (by omega)⟩
  show LIu _ a (rem w.2.1 w.1)
  have hr : rem w.2.1 w.1 = w.2.1.tail ++ [w.1] := if_neg (by omega)
  have ht : w.2.1.tail.length = 7 := by simp; omega
  rw [hr]
  refine ⟨by simp; omega, by simp [zup]; rw [g3, hc], (el + 1) % 8, by omega, by simp [zup], u7, fun k hk => ?_⟩
  simp only [List.length_append, ht, List.length_cons, List.length_nil] at hk
  rw [getD_snocS _ _ _ (by omega)]
  split
  · rename_i q
    rw [getD_tailS, show ((el + 1) % 8 + k) % 8 = (el + (k + 1)) % 8 by omega]
    exact ((u6 (k + 1) (by omega)).eq e1 (by omega)).eq he (by omega)
  · rename_i q
    rw [show ((el + 1) % 8 + k) % 8 = (el + w.2.1.length) % 8 by omega]
    exact t1.eq he (by omega)

set_option maxHeartbeats 4000000 in
set_option maxRecDepth 100000 in
theorem s_rem {D : zD} {z0 nx : Nat} {L : zL} {V : zV} {a : Nat} {sw : Bool} {w : Wo} (hs : sLI L a sw) (h : LI V a sw w) : Sp D z0 6 0 0 mX11_remember [.ref a] L V nx (zq none L nx (fun V' => zEq V V' a (a + 471) ∧ LI V' a sw (wrem w))) := by
  have hs0 := hs
  have h0 := h
  obtain ⟨l1, l2, l3, l4, l5, l6, l7, l8, l9, l10, l11, l12⟩ := hs
  obtain ⟨k1, k2, k3, k4, k5, k6, k7, k8⟩ := h
  have l20 := l2
  obtain ⟨s1, s2, s3, s4, s5, s6, s7⟩ := l2
  have k10 := k1
  obtain ⟨v1, v2, v3, v4⟩ := k1
  obtain ⟨u1, u2, el, u3, u4, u5, u6⟩ := k2
  refine Sp.of 0 (by decide) rfl rfl (Nat.le_of_ble_eq_true rfl) ?_
  refine z_aload_n dX11_remember_0 rfl ?_
  refine z_getR dX11_remember_1 fX11_16 (by first | assumption | exact And.left (by assumption)) rfl ?_
  refine z_aload_n dX11_remember_4 rfl ?_
  refine z_getIe dX11_remember_5 fX11_331 (by first | assumption | exact And.left (by assumption)) rfl (by first | assumption | exact zup_s _ _ _ _ | rfl) ?_
  refine z_aload_n dX11_remember_8 rfl ?_
  refine z_getIe dX11_remember_9 fX11_328 (by first | assumption | exact And.left (by assumption)) rfl (by first | assumption | exact zup_s _ _ _ _ | rfl) ?_
  refine z_addN dX11_remember_12 ?_
  refine z_bipush (v := nI 8) dX11_remember_13 rfl ?_
  refine z_remN dX11_remember_15 (by omega) (by omega) (by omega) ?_
  have q1 := e8_at a ((el + w.2.1.length) % 8) (by omega)
  have p1 := l11 ((el + w.2.1.length) % 8) (by omega)
  obtain ⟨sx, hsx⟩ := u5 ((el + w.2.1.length) % 8) (by omega)
  refine z_aaldN dX11_remember_16 (by first | assumption | exact And.left (by assumption)) (fun _ => rfl) (by exact Nat.le_of_ble_eq_true rfl) (by assumption) ?_
  refine z_aload_n dX11_remember_17 rfl ?_
  refine z_getR dX11_remember_18 fX11_10 (by first | assumption | exact And.left (by assumption)) rfl ?_
  refine z_callV1w dX11_remember_21 kX7_copyFrom lX11_334 (by first | assumption | exact And.left (by assumption)) rfl (s_STcopy p1 hsx l20 k10 (by omega)) (Nat.le_of_ble_eq_true rfl) (Nat.le_of_ble_eq_true rfl) ⟨Nat.le_of_ble_eq_true rfl, Nat.le_of_ble_eq_true rfl⟩ ?_
  intro V1 hV1
  obtain ⟨e1, t1⟩ := hV1
  have g2 : V1 a 2 = nI el := by rw [e1 a (by omega)]; exact u4
  have g3 : V1 a 3 = nI w.2.1.length := by rw [e1 a (by omega)]; exact u2
  have j1 := k10.eq e1 (by omega)
  have j3 := k3.eq e1 (by omega) (by omega)
  have j4 := k4.1.eq e1 (by omega)
  have j6 := k6.eq e1 (by omega) (by omega)
  obtain ⟨d, k70⟩ := k7
  obtain ⟨l, k80⟩ := k8
  have j7 := k70.eq e1 (by omega)
  have j8 := k80.eq e1 (by omega)
  refine z_aload_n dX11_remember_24 rfl ?_
  refine z_getIe dX11_remember_25 fX11_328 (by first | assumption | exact And.left (by assumption)) rfl (by first | assumption | exact zup_s _ _ _ _ | rfl) ?_
  refine z_bipush (v := nI 8) dX11_remember_28 rfl ?_
  refine z_icmp_geN (tgt := 46) dX11_remember_30 (by decide) (by omega) (by omega) (fun c_30 => ?_) (fun c_30 => ?_)
  · refine z_aload_n dX11_remember_46 rfl ?_
    refine z_aload_n dX11_remember_47 rfl ?_
    refine z_getIe dX11_remember_48 fX11_331 (by first | assumption | exact And.left (by assumption)) rfl (by first | assumption | exact zup_s _ _ _ _ | rfl) ?_
    refine z_iconst (v := nI 1) dX11_remember_51 rfl ?_
    refine z_addN dX11_remember_52 ?_
    refine z_bipush (v := nI 8) dX11_remember_53 rfl ?_
    refine z_remN dX11_remember_55 (by omega) (by omega) (by omega) ?_
    refine z_putI dX11_remember_56 fX11_331 (by first | assumption | exact And.left (by assumption)) rfl ?_
    refine z_return dX11_remember_59 (Nat.le_of_ble_eq_true rfl) (Nat.le_of_ble_eq_true rfl) rfl ?_
    first
      | exact ⟨rfl, rfl, rfl, rem_A u1 u3 (by omega) e1 t1 g2 g3 j1 j3 ⟨j4, k4.2⟩ k5 j6 ⟨d, j7⟩ ⟨l, j8⟩ u5 u6⟩
      | exact ⟨rfl, rfl, rfl, rem_B u1 u3 (by omega) e1 t1 g2 g3 j1 j3 ⟨j4, k4.2⟩ k5 j6 ⟨d, j7⟩ ⟨l, j8⟩ u5 u6⟩
  · refine z_aload_n dX11_remember_33 rfl ?_
    refine z_dup dX11_remember_34 rfl ?_
    refine z_getIe dX11_remember_35 fX11_328 (by first | assumption | exact And.left (by assumption)) rfl (by first | assumption | exact zup_s _ _ _ _ | rfl) ?_
    refine z_iconst (v := nI 1) dX11_remember_38 rfl ?_
    refine z_addN dX11_remember_39 ?_
    refine z_putI dX11_remember_40 fX11_328 (by first | assumption | exact And.left (by assumption)) rfl ?_
    refine z_goto (tgt := 59) dX11_remember_43 (by decide) ?_
    refine z_return dX11_remember_59 (Nat.le_of_ble_eq_true rfl) (Nat.le_of_ble_eq_true rfl) rfl ?_
    first
      | exact ⟨rfl, rfl, rfl, rem_A u1 u3 (by omega) e1 t1 g2 g3 j1 j3 ⟨j4, k4.2⟩ k5 j6 ⟨d, j7⟩ ⟨l, j8⟩ u5 u6⟩
      | exact ⟨rfl, rfl, rfl, rem_B u1 u3 (by omega) e1 t1 g2 g3 j1 j3 ⟨j4, k4.2⟩ k5 j6 ⟨d, j7⟩ ⟨l, j8⟩ u5 u6⟩

