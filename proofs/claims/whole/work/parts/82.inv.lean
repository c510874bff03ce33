/-! what holds of an index at every time: its entries, row by row, with the logs behind them, come to the table's -/
def has (l : List Nat) (r : Nat) (e : Option Nat) : Prop := ∀ c, (c ∈ l ∧ c % 64 = r) ↔ e = some c
/-- a log leads a row's entry from one to the other -/
def ch (r : Nat) : List Nat → Option Nat → Option Nat → Prop
  | [], e, e' => e = e'
  | it :: t, e, e' => if it / 2 % 64 = r then (if it % 2 = 1 then e = none ∧ ch r t (some (it / 2)) e' else e = some (it / 2) ∧ ch r t none e') else ch r t e e'
theorem ch_c {r it : Nat} {t : List Nat} {e e' : Option Nat} : ch r (it :: t) e e' ↔ (if it / 2 % 64 = r then (if it % 2 = 1 then e = none ∧ ch r t (some (it / 2)) e' else e = some (it / 2) ∧ ch r t none e') else ch r t e e') := Iff.rfl
theorem ch_app {r : Nat} : ∀ {a b : List Nat} {e e' : Option Nat}, ch r (a ++ b) e e' ↔ ∃ m, ch r a e m ∧ ch r b m e'
  | [], b, e, e' => ⟨fun h => ⟨e, rfl, h⟩, fun ⟨m, h1, h2⟩ => by
    have : e = m := h1
    rw [this]
    exact h2⟩
  | it :: t, b, e, e' => by
    rw [List.cons_append, ch_c]
    simp only [ch_c]
    by_cases c1 : it / 2 % 64 = r
    · rw [if_pos c1]
      by_cases c2 : it % 2 = 1
      · rw [if_pos c2, ch_app]
        constructor
        · rintro ⟨h, m, h1, h2⟩
          exact ⟨m, by rw [if_pos c1, if_pos c2]; exact ⟨h, h1⟩, h2⟩
        · rintro ⟨m, h1, h2⟩
          rw [if_pos c1, if_pos c2] at h1
          exact ⟨h1.1, m, h1.2, h2⟩
      · rw [if_neg c2, ch_app]
        constructor
        · rintro ⟨h, m, h1, h2⟩
          exact ⟨m, by rw [if_pos c1, if_neg c2]; exact ⟨h, h1⟩, h2⟩
        · rintro ⟨m, h1, h2⟩
          rw [if_pos c1, if_neg c2] at h1
          exact ⟨h1.1, m, h1.2, h2⟩
    · rw [if_neg c1, ch_app]
      constructor
      · rintro ⟨m, h1, h2⟩
        exact ⟨m, by rw [if_neg c1]; exact h1, h2⟩
      · rintro ⟨m, h1, h2⟩
        rw [if_neg c1] at h1
        exact ⟨m, h1, h2⟩
theorem ch_nil {r : Nat} {e e' : Option Nat} : ch r [] e e' ↔ e = e' := Iff.rfl
theorem has_nil (r : Nat) : has [] r none := fun c => ⟨fun q => absurd q.1 (by simp), fun q => by cases q⟩
theorem has_u {l : List Nat} {r : Nat} {e e' : Option Nat} (h : has l r e) (h' : has l r e') : e = e' := by
  cases e with
  | none =>
    cases e' with
    | none => rfl
    | some b => exact absurd ((h b).mp ((h' b).mpr rfl)) (by simp)
  | some a => exact ((h' a).mp ((h a).mpr rfl)).symm
theorem has_inc {l : List Nat} {c r : Nat} {e : Option Nat} (hl : PW l) (hc : cap c l) (h : has l (c % 64) none) (hr : has l r e) : has (inc c l) r (if r = c % 64 then some c else e) := fun x => by
  rw [inc_mem2 hl hc]
  by_cases q : r = c % 64
  · rw [if_pos q]
    constructor
    · rintro ⟨z | z, z2⟩
      · rw [z]
      · exact absurd ((h x).mp ⟨z, by omega⟩) (by simp)
    · intro z
      cases z
      exact ⟨Or.inl rfl, q.symm⟩
  · rw [if_neg q, ← hr x]
    constructor
    · rintro ⟨z | z, z2⟩
      · exact absurd (by rw [← z2, z]) q
      · exact ⟨z, z2⟩
    · rintro ⟨z, z2⟩
      exact ⟨Or.inr z, z2⟩
theorem has_exc {l : List Nat} {c r : Nat} {e : Option Nat} (hl : PW l) (h : has l (c % 64) (some c)) (hr : has l r e) : has (exc c l) r (if r = c % 64 then none else e) := fun x => by
  rw [exc_mem2 hl]
  by_cases q : r = c % 64
  · rw [if_pos q]
    constructor
    · rintro ⟨⟨z, z1⟩, z2⟩
      have := (h x).mp ⟨z, by omega⟩
      cases this
      exact absurd rfl z1
    · intro z
      cases z
  · rw [if_neg q, ← hr x]
    constructor
    · rintro ⟨⟨z, z1⟩, z2⟩
      exact ⟨z, z2⟩
    · rintro ⟨z, z2⟩
      exact ⟨⟨z, fun e => q (by rw [← z2, e])⟩, z2⟩
theorem has_rw1 {l : List Nat} (h : ∀ c, c ∈ l → c % 64 < 48) (hh : ∀ r, r < 48 → ∃ e, has l r e) : rw1 l := fun a b ha hb e => by
  obtain ⟨x, hx⟩ := hh (a % 64) (h a ha)
  have h1 := (hx a).mp ⟨ha, rfl⟩
  have h2 := (hx b).mp ⟨hb, e.symm⟩
  rw [h1] at h2
  cases h2
  rfl
def JL (x : Ix) : Prop := PW x.2.2.1 ∧ (∀ c, c ∈ x.2.2.1 → c % 64 < 48) ∧ (∀ c, c ∈ x.2.2.2.1 → c / 2 % 64 < 48) ∧ (∀ c, c ∈ x.2.2.2.2 → c / 2 % 64 < 48) ∧ ndc x.2.1.1 ∧ x.1.1 < 6
def JT (T B : Nat → Option Nat) (x : Ix) : Prop := JL x ∧ (x.1.1 = 0 → x.2.2.1 = [] ∧ x.2.2.2.1 = [] ∧ x.2.2.2.2 = []) ∧ (x.1.1 = 1 → x.1.2.2.1 < 48 ∧ x.1.2.2.2.1 = 0 ∧ x.2.2.2.1 = [] ∧ ∀ r, r < 48 → has x.2.2.1 r (if r < x.1.2.2.1 then B r else none) ∧ ch r x.2.2.2.2 (B r) (T r)) ∧ (2 ≤ x.1.1 → ∀ r, r < 48 → ∃ e m, has x.2.2.1 r e ∧ ch r x.2.2.2.1 e m ∧ ch r x.2.2.2.2 m (T r)) ∧ (x.1.1 = 3 → x.2.2.2.2 = []) ∧ (x.1.1 = 4 → x.2.2.2.1 = [] ∧ x.2.2.2.2 = []) ∧ (x.1.1 = 5 → x.2.2.2.1 = []) ∧ (¬ x.1.1 = 0 → 1 ≤ x.2.1.1.length)
theorem ndc_nil : ndc [] := fun j k _ hk => absurd hk (by simp)
theorem JT_clear (T B : Nat → Option Nat) (e : Nat) : JT T B (xClear e) := by
  refine ⟨⟨PW_nil, fun c hc => absurd hc (by simp [xClear]), fun c hc => absurd hc (by simp [xClear]), fun c hc => absurd hc (by simp [xClear]), ndc_nil, by simp [xClear]⟩, fun _ => ⟨rfl, rfl, rfl⟩, fun q => absurd q (by simp [xClear]), fun q => absurd q (by simp [xClear]), fun q => absurd q (by simp [xClear]), fun q => absurd q (by simp [xClear]), fun q => absurd q (by simp [xClear]), fun q => absurd rfl q⟩
theorem JT.hs {T B : Nat → Option Nat} {x : Ix} (h : JT T B x) : ∀ r, r < 48 → ∃ e, has x.2.2.1 r e := fun r hr => by
  obtain ⟨h1, h2, h3, h4, h5⟩ := h
  rcases (show x.1.1 = 0 ∨ x.1.1 = 1 ∨ 2 ≤ x.1.1 by omega) with q | q | q
  · rw [(h2 q).1]
    exact ⟨none, has_nil r⟩
  · exact ⟨_, ((h3 q).2.2.2 r hr).1⟩
  · obtain ⟨e, m, z, _⟩ := h4 q r hr
    exact ⟨e, z⟩
theorem JT.cap {T B : Nat → Option Nat} {x : Ix} (h : JT T B x) {c : Nat} (hc : c % 64 < 48) (hn : has x.2.2.1 (c % 64) none) : cap c x.2.2.1 :=
  Or.inl (rw1_cap h.1.1 (has_rw1 h.1.2.1 h.hs) h.1.2.1 hc (fun y hy e => absurd ((hn y).mp ⟨hy, e⟩) (by simp)))
theorem rows_inc {c : Nat} {l : List Nat} (h : ∀ x, x ∈ l → x % 64 < 48) (hc : c % 64 < 48) : ∀ x, x ∈ inc c l → x % 64 < 48 := fun x hx => (inc_mem hx).elim (fun e => by rw [e]; exact hc) (h x)
theorem rows_exc {c : Nat} {l : List Nat} (h : ∀ x, x ∈ l → x % 64 < 48) : ∀ x, x ∈ exc c l → x % 64 < 48 := fun x hx => h x (exc_mem hx)
/-- an index by these versions -/
noncomputable def tb (v : Vs) (d : Df) : Nat → Option Nat := fun r => eo d (lst v r).2 r
noncomputable def bs (v : Vs) (d : Df) (sn : Nat) : Nat → Option Nat := fun r => eo d (vat (v r) sn) r
def JX (v : Vs) (x : Ix) : Prop := JT (tb v x.2.1) (bs v x.2.1 x.1.2.1) x
theorem JT_turn {T B : Nat → Option Nat} {x : Ix} {y1 : Nat × Nat × Nat × Nat × Nat} (h : JT T B x) (h2 : 2 ≤ x.1.1) (hn : x.2.2.2.1 = []) (hy : y1.1 = 2 ∨ y1.1 = 3) : JT T B (y1, x.2.1, x.2.2.1, x.2.2.2.2, []) := by
  obtain ⟨⟨g1, g2, g3, g4, g5, g6⟩, k0, k1, k2, k3, k4, k5, k6⟩ := h
  refine ⟨⟨g1, g2, g4, fun c hc => absurd hc (by simp), g5, show y1.1 < 6 by omega⟩, fun q => ?_, fun q => ?_, fun _ r hr => ?_, fun _ => rfl, fun q => ?_, fun q => ?_, fun _ => k6 (by omega)⟩
  · have : y1.1 = 0 := q
    omega
  · have : y1.1 = 1 := q
    omega
  · obtain ⟨e, m, z1, z2, z3⟩ := k2 h2 r hr
    rw [hn] at z2
    have z4 : e = m := z2
    exact ⟨e, T r, z1, by rw [z4]; exact z3, rfl⟩
  · have : y1.1 = 4 := q
    omega
  · have : y1.1 = 5 := q
    omega
theorem xInc_e {q : Option Nat} {x : Ix} : (xInc q x).1 = x.1 ∧ (xInc q x).2.1 = x.2.1 ∧ (xInc q x).2.2.2 = x.2.2.2 := by
  cases q <;> exact ⟨rfl, rfl, rfl⟩
theorem JX_scan {v : Vs} {x : Ix} (h : JX v x) (h1 : x.1.1 = 1) : JX v (xScan v x) := by
  have h0 := h
  unfold JX at h
  obtain ⟨⟨g1, g2, g3, g4, g5, g6⟩, k0, k1, k2, k3, k4, k5, k6⟩ := h
  obtain ⟨s1, s2, s3, s4⟩ := k1 h1
  have hbn : eo x.2.1 (vat (v x.1.2.2.1) x.1.2.1) x.1.2.2.1 = bs v x.2.1 x.1.2.1 x.1.2.2.1 := rfl
  -- the entries then
  have hE : ∃ l, (xInc (eo x.2.1 (vat (v x.1.2.2.1) x.1.2.1) x.1.2.2.1) x).2.2.1 = l ∧ PW l ∧ (∀ c, c ∈ l → c % 64 < 48) ∧ ∀ r, r < 48 → has l r (if r < x.1.2.2.1 + 1 then bs v x.2.1 x.1.2.1 r else none) := by
    cases hq : eo x.2.1 (vat (v x.1.2.2.1) x.1.2.1) x.1.2.2.1 with
    | none =>
      refine ⟨_, rfl, g1, g2, fun r hr => ?_⟩
      have z := (s4 r hr).1
      by_cases c : r = x.1.2.2.1
      · rw [if_pos (by omega)]
        rw [if_neg (by omega)] at z
        rw [c, ← hbn, hq, ← c]
        exact z
      · by_cases c2 : r < x.1.2.2.1
        · rw [if_pos (by omega)]
          rw [if_pos c2] at z
          exact z
        · rw [if_neg (by omega)]
          rw [if_neg c2] at z
          exact z
    | some c =>
      have hc := eo_r hq (by omega)
      have hn : has x.2.2.1 (c % 64) none := by
        have z := (s4 x.1.2.2.1 s1).1
        rw [if_neg (by omega)] at z
        rw [hc]
        exact z
      have hcap := h0.cap (c := c) (by omega) hn
      refine ⟨inc c x.2.2.1, rfl, inc_pw g1, rows_inc g2 (by omega), fun r hr => ?_⟩
      have z := has_inc g1 hcap hn (s4 r hr).1
      by_cases e : r = x.1.2.2.1
      · rw [if_pos (by omega)] at z
        rw [if_pos (by omega), e, ← hbn, hq, ← e]
        exact z
      · rw [if_neg (by omega)] at z
        by_cases c2 : r < x.1.2.2.1
        · rw [if_pos c2] at z
          rw [if_pos (by omega)]
          exact z
        · rw [if_neg c2] at z
          rw [if_neg (by omega)]
          exact z
  obtain ⟨l, hl, e1, e2, e3⟩ := hE
  obtain ⟨i1, i2, i3⟩ := xInc_e (q := eo x.2.1 (vat (v x.1.2.2.1) x.1.2.1) x.1.2.2.1) (x := x)
  unfold xScan
  generalize hy : xInc (eo x.2.1 (vat (v x.1.2.2.1) x.1.2.1) x.1.2.2.1) x = y at hl i1 i2 i3 ⊢
  clear hy
  obtain ⟨y1, yd, yl, yn, yt⟩ := y
  have i1 : y1 = x.1 := i1
  have i2 : yd = x.2.1 := i2
  have i3 : (yn, yt) = x.2.2.2 := i3
  have hl : yl = l := hl
  have i4 : yn = x.2.2.2.1 := by rw [← i3]
  have i5 : yt = x.2.2.2.2 := by rw [← i3]
  subst i1 i2 hl i4 i5
  by_cases c48 : 48 ≤ x.1.2.2.1 + 1
  · rw [if_pos c48]
    refine ⟨⟨e1, e2, g4, fun c hc => absurd hc (by simp [xGo, xNext, xTurn]), g5, show 2 < 6 by decide⟩, fun q => absurd (show 2 = 0 from q) (by decide), fun q => absurd (show 2 = 1 from q) (by decide), fun _ r hr => ?_, fun q => absurd (show 2 = 3 from q) (by decide), fun q => absurd (show 2 = 4 from q) (by decide), fun q => absurd (show 2 = 5 from q) (by decide), fun _ => k6 (by omega)⟩
    have z := e3 r hr
    rw [if_pos (by omega)] at z
    exact ⟨_, _, z, (s4 r hr).2, rfl⟩
  · rw [if_neg c48]
    refine ⟨⟨e1, e2, g3, g4, g5, g6⟩, fun q => absurd (show x.1.1 = 0 from q) (by omega), fun _ => ⟨show x.1.2.2.1 + 1 < 48 by omega, s2, s3, fun r hr => ⟨e3 r hr, (s4 r hr).2⟩⟩, fun q => absurd (show 2 ≤ x.1.1 from q) (by omega), fun q => absurd (show x.1.1 = 3 from q) (by omega), fun q => absurd (show x.1.1 = 4 from q) (by omega), fun q => absurd (show x.1.1 = 5 from q) (by omega), fun _ => k6 (by omega)⟩
theorem JT_first {T B : Nat → Option Nat} {x : Ix} {it : Nat} {t : List Nat} (h : JT T B x) (hn : x.2.2.2.1 = it :: t) : JT T B (xFirst x it t) ∧ (it % 2 = 1 → cap (it / 2) x.2.2.1) := by
  have h0 := h
  obtain ⟨⟨g1, g2, g3, g4, g5, g6⟩, k0, k1, k2, k3, k4, k5, k6⟩ := h
  have hst : x.1.1 = 2 ∨ x.1.1 = 3 := by
    rcases (show x.1.1 = 0 ∨ x.1.1 = 1 ∨ x.1.1 = 4 ∨ x.1.1 = 5 ∨ (x.1.1 = 2 ∨ x.1.1 = 3) by omega) with q | q | q | q | q
    · rw [(k0 q).2.1] at hn; cases hn
    · rw [(k1 q).2.2.1] at hn; cases hn
    · rw [(k4 q).1] at hn; cases hn
    · rw [k5 q] at hn; cases hn
    · exact q
  have hr0 : it / 2 % 64 < 48 := g3 it (by rw [hn]; simp)
  have hgt : ∀ c, c ∈ t → c / 2 % 64 < 48 := fun c hc => g3 c (by rw [hn]; exact List.mem_cons_of_mem _ hc)
  have ha : it % 2 = 1 → has x.2.2.1 (it / 2 % 64) none := fun c2 => by
    obtain ⟨e, m, z1, z2, z3⟩ := k2 (by omega) _ hr0
    rw [hn] at z2
    rw [ch_c] at z2
    rw [if_pos rfl, if_pos c2] at z2
    rw [z2.1] at z1
    exact z1
  have hb : ¬ it % 2 = 1 → has x.2.2.1 (it / 2 % 64) (some (it / 2)) := fun c2 => by
    obtain ⟨e, m, z1, z2, z3⟩ := k2 (by omega) _ hr0
    rw [hn] at z2
    rw [ch_c] at z2
    rw [if_pos rfl, if_neg c2] at z2
    rw [z2.1] at z1
    exact z1
  refine ⟨?_, fun c2 => h0.cap hr0 (ha c2)⟩
  have hk : ∀ r, r < 48 → ∃ e m, has (xDo (it / 2) (it % 2 = 1) x).2.2.1 r e ∧ ch r t e m ∧ ch r x.2.2.2.2 m (T r) := fun r hr => by
    obtain ⟨e, m, z1, z2, z3⟩ := k2 (by omega) r hr
    rw [hn] at z2
    rw [ch_c] at z2
    by_cases c2 : it % 2 = 1
    · have hd : (xDo (it / 2) (it % 2 = 1) x).2.2.1 = inc (it / 2) x.2.2.1 := if_pos c2
      rw [hd]
      have w := has_inc g1 (h0.cap hr0 (ha c2)) (ha c2) z1
      by_cases c1 : r = it / 2 % 64
      · rw [if_pos c1] at w
        rw [if_pos c1.symm, if_pos c2] at z2
        exact ⟨_, m, w, z2.2, z3⟩
      · rw [if_neg c1] at w
        rw [if_neg (fun q => c1 q.symm)] at z2
        exact ⟨e, m, w, z2, z3⟩
    · have hd : (xDo (it / 2) (it % 2 = 1) x).2.2.1 = exc (it / 2) x.2.2.1 := if_neg c2
      rw [hd]
      have w := has_exc g1 (hb c2) z1
      by_cases c1 : r = it / 2 % 64
      · rw [if_pos c1] at w
        rw [if_pos c1.symm, if_neg c2] at z2
        exact ⟨_, m, w, z2.2, z3⟩
      · rw [if_neg c1] at w
        rw [if_neg (fun q => c1 q.symm)] at z2
        exact ⟨e, m, w, z2, z3⟩
  have hp : PW (xDo (it / 2) (it % 2 = 1) x).2.2.1 ∧ ∀ c, c ∈ (xDo (it / 2) (it % 2 = 1) x).2.2.1 → c % 64 < 48 := by
    by_cases c2 : it % 2 = 1
    · have hd : (xDo (it / 2) (it % 2 = 1) x).2.2.1 = inc (it / 2) x.2.2.1 := if_pos c2
      rw [hd]
      exact ⟨inc_pw g1, rows_inc g2 hr0⟩
    · have hd : (xDo (it / 2) (it % 2 = 1) x).2.2.1 = exc (it / 2) x.2.2.1 := if_neg c2
      rw [hd]
      exact ⟨exc_pw g1, rows_exc g2⟩
  exact ⟨⟨hp.1, hp.2, hgt, g4, g5, g6⟩, fun q => absurd (show x.1.1 = 0 from q) (by omega), fun q => absurd (show x.1.1 = 1 from q) (by omega), fun _ => hk, k3, fun q => absurd (show x.1.1 = 4 from q) (by omega), fun q => absurd (show x.1.1 = 5 from q) (by omega), k6⟩
theorem JX_unit {v : Vs} {sh mo : Nat} {x : Ix} (h : JX v x) : JX v (xUnit v sh mo x) := by
  unfold xUnit
  by_cases c1 : x.1.1 = 1
  · rw [if_pos c1]
    exact JX_scan h c1
  · rw [if_neg c1]
    cases hn : x.2.2.2.1 with
    | cons it t => exact (JT_first h hn).1
    | nil =>
      show JX v (if x.1.1 = 3 then xJudge x else if x.1.1 = 2 then xEnd sh mo x else x)
      by_cases c3 : x.1.1 = 3
      · rw [if_pos c3]
        obtain ⟨⟨g1, g2, g3, g4, g5, g6⟩, k0, k1, k2, k3, k4, k5, k6⟩ := h
        have hs : (xJudge x).1.1 = 5 ∨ (xJudge x).1.1 = 4 := by
          unfold xJudge
          by_cases c : x.2.1.2.1 = true ∧ tws x.2.2.1
          · rw [if_pos c]; exact Or.inl rfl
          · rw [if_neg c]; exact Or.inr rfl
        exact ⟨⟨g1, g2, g3, g4, g5, by omega⟩, fun q => absurd q (by omega), fun q => absurd q (by omega), fun _ => k2 (by omega), fun q => absurd q (by omega), fun _ => ⟨hn, k3 c3⟩, fun _ => hn, fun _ => k6 (by omega)⟩
      · rw [if_neg c3]
        by_cases c2 : x.1.1 = 2
        · rw [if_pos c2]
          unfold xEnd
          by_cases e1 : x.2.2.2.2.length ≤ sh
          · rw [if_pos e1]
            exact JT_turn (x := x) (y1 := (3, x.1.2)) h (by omega) hn (Or.inr rfl)
          · rw [if_neg e1]
            by_cases e2 : mo ≤ x.1.2.2.2.1
            · rw [if_pos e2]
              exact JT_clear _ _ _
            · rw [if_neg e2]
              exact JT_turn (x := x) (y1 := (x.1.1, x.1.2.1, x.1.2.2.1, x.1.2.2.2.1 + 1, x.1.2.2.2.2)) h (by omega) hn (Or.inl c2)
        · rw [if_neg c2]
          exact h
/-- no twins in an index that is ready and unique -/
def JW4 (x : Ix) : Prop := x.1.1 = 4 → x.2.1.2.1 = true → ¬ tws x.2.2.1
theorem JW4_unit {v : Vs} {sh mo : Nat} {x : Ix} (h : JW4 x) (hj : JX v x) : JW4 (xUnit v sh mo x) := by
  intro q
  unfold xUnit at q ⊢
  by_cases c1 : x.1.1 = 1
  · rw [if_pos c1] at q
    exfalso
    have hi := (xInc_e (q := eo x.2.1 (vat (v x.1.2.2.1) x.1.2.1) x.1.2.2.1) (x := x)).1
    unfold xScan at q
    by_cases c48 : 48 ≤ x.1.2.2.1 + 1
    · rw [if_pos c48] at q
      exact absurd (show 2 = 4 from q) (by decide)
    · rw [if_neg c48] at q
      have q2 : (xInc (eo x.2.1 (vat (v x.1.2.2.1) x.1.2.1) x.1.2.2.1) x).1.1 = 4 := q
      rw [hi] at q2
      omega
  · rw [if_neg c1] at q ⊢
    cases hn : x.2.2.2.1 with
    | cons it t =>
      rw [hn] at q
      have q2 : x.1.1 = 4 := q
      have := (hj.2.2.2.2.2.1 q2).1
      rw [hn] at this
      cases this
    | nil =>
      rw [hn] at q
      have q : (if x.1.1 = 3 then xJudge x else if x.1.1 = 2 then xEnd sh mo x else x).1.1 = 4 := q
      show (if x.1.1 = 3 then xJudge x else if x.1.1 = 2 then xEnd sh mo x else x).2.1.2.1 = true → ¬ tws (if x.1.1 = 3 then xJudge x else if x.1.1 = 2 then xEnd sh mo x else x).2.2.1
      by_cases c3 : x.1.1 = 3
      · rw [if_pos c3] at q ⊢
        unfold xJudge at q ⊢
        by_cases c : x.2.1.2.1 = true ∧ tws x.2.2.1
        · rw [if_pos c] at q
          exact absurd (show 5 = 4 from q) (by decide)
        · intro u z
          exact c ⟨u, z⟩
      · rw [if_neg c3] at q ⊢
        by_cases c2 : x.1.1 = 2
        · rw [if_pos c2] at q
          exfalso
          unfold xEnd at q
          by_cases e1 : x.2.2.2.2.length ≤ sh
          · rw [if_pos e1] at q
            exact absurd (show 3 = 4 from q) (by decide)
          · rw [if_neg e1] at q
            by_cases e2 : mo ≤ x.1.2.2.2.1
            · rw [if_pos e2] at q
              exact absurd (show 0 = 4 from q) (by decide)
            · rw [if_neg e2] at q
              have : x.1.1 = 4 := q
              omega
        · rw [if_neg c2] at q ⊢
          exact h q
