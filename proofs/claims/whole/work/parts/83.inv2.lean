/-! the invariant of an index, over units and a commit -/
def JI (v : Vs) (sq R : Nat) (x : Ix) : Prop := JX v x ∧ JW4 x ∧ (x.1.1 = 1 → x.1.2.1 ≤ sq ∧ ∀ r, r < 48 → (vk (v r) 0).1 ≤ x.1.2.1) ∧ x.1.2.2.2.1 ≤ R + 10
theorem xUnit_1 {v : Vs} {sh mo R : Nat} {x : Ix} (hj : JX v x) (hmo : mo ≤ 9) (hr : x.1.2.2.2.1 ≤ R + 10) : ((xUnit v sh mo x).1.1 = 1 → x.1.1 = 1 ∧ (xUnit v sh mo x).1.2.1 = x.1.2.1) ∧ (xUnit v sh mo x).1.2.2.2.1 ≤ R + 10 := by
  unfold xUnit
  by_cases c1 : x.1.1 = 1
  · rw [if_pos c1]
    have hi := (xInc_e (q := eo x.2.1 (vat (v x.1.2.2.1) x.1.2.1) x.1.2.2.1) (x := x)).1
    have h0 := (hj.2.2.1 c1).2.1
    unfold xScan
    by_cases c48 : 48 ≤ x.1.2.2.1 + 1
    · rw [if_pos c48]
      refine ⟨fun q => absurd (show 2 = 1 from q) (by decide), ?_⟩
      show (xInc (eo x.2.1 (vat (v x.1.2.2.1) x.1.2.1) x.1.2.2.1) x).1.2.2.2.1 + 1 ≤ R + 10
      rw [hi]
      omega
    · rw [if_neg c48]
      refine ⟨fun _ => ⟨c1, ?_⟩, ?_⟩
      · show (xInc (eo x.2.1 (vat (v x.1.2.2.1) x.1.2.1) x.1.2.2.1) x).1.2.1 = _
        rw [hi]
      · show (xInc (eo x.2.1 (vat (v x.1.2.2.1) x.1.2.1) x.1.2.2.1) x).1.2.2.2.1 ≤ R + 10
        rw [hi]
        exact hr
  · rw [if_neg c1]
    cases hn : x.2.2.2.1 with
    | cons it t => exact ⟨fun q => absurd (show x.1.1 = 1 from q) c1, hr⟩
    | nil =>
      show ((if x.1.1 = 3 then xJudge x else if x.1.1 = 2 then xEnd sh mo x else x).1.1 = 1 → x.1.1 = 1 ∧ (if x.1.1 = 3 then xJudge x else if x.1.1 = 2 then xEnd sh mo x else x).1.2.1 = x.1.2.1) ∧ (if x.1.1 = 3 then xJudge x else if x.1.1 = 2 then xEnd sh mo x else x).1.2.2.2.1 ≤ R + 10
      by_cases c3 : x.1.1 = 3
      · rw [if_pos c3]
        refine ⟨fun q => ?_, hr⟩
        unfold xJudge at q
        by_cases c : x.2.1.2.1 = true ∧ tws x.2.2.1
        · rw [if_pos c] at q
          exact absurd (show 5 = 1 from q) (by decide)
        · rw [if_neg c] at q
          exact absurd (show 4 = 1 from q) (by decide)
      · rw [if_neg c3]
        by_cases c2 : x.1.1 = 2
        · rw [if_pos c2]
          unfold xEnd
          by_cases e1 : x.2.2.2.2.length ≤ sh
          · rw [if_pos e1]
            exact ⟨fun q => absurd (show 3 = 1 from q) (by decide), hr⟩
          · rw [if_neg e1]
            by_cases e2 : mo ≤ x.1.2.2.2.1
            · rw [if_pos e2]
              exact ⟨fun q => absurd (show 0 = 1 from q) (by decide), Nat.zero_le _⟩
            · rw [if_neg e2]
              refine ⟨fun q => absurd (show x.1.1 = 1 from q) c1, ?_⟩
              show x.1.2.2.2.1 + 1 ≤ R + 10
              omega
        · rw [if_neg c2]
          exact ⟨fun q => absurd q c1, hr⟩
theorem JI_unit {v : Vs} {sh mo sq R : Nat} {x : Ix} (h : JI v sq R x) (hmo : mo ≤ 9) : JI v sq R (xUnit v sh mo x) := by
  obtain ⟨h1, h2, h3, h4⟩ := h
  obtain ⟨u1, u2⟩ := xUnit_1 (sh := sh) h1 hmo h4
  refine ⟨JX_unit h1, JW4_unit h2 h1, fun q => ?_, u2⟩
  obtain ⟨u3, u4⟩ := u1 q
  rw [u4]
  exact h3 u3
theorem JI_uit {v : Vs} {sh mo sq R : Nat} (hmo : mo ≤ 9) : ∀ {n : Nat} {x : Ix}, JI v sq R x → JI v sq R (uit v sh mo n x)
  | 0, x, h => h
  | n + 1, x, h => by
    unfold uit
    by_cases c : und x
    · rw [cif_y c]
      exact JI_uit hmo (JI_unit h hmo)
    · rw [cif_n c]
      exact h
theorem JI_uok {v : Vs} {sq R : Nat} {x : Ix} (h : JI v sq R x) (hR : R < 900000) : uok v x := by
  obtain ⟨h1, h2, h3, h4⟩ := h
  refine ⟨fun q => (h3 q).2 _ (h1.2.2.1 q).1, fun q => (h1.2.2.1 q).1, fun q => (h1.2.2.1 q).2.1, fun q c hc => ?_, fun it t ht q => (JT_first h1 ht).2 q, fun it t ht => h1.1.2.2.1 it (by rw [ht]; simp), by omega⟩
  obtain ⟨s1, s2, s3, s4⟩ := h1.2.2.1 q
  have hcr := eo_r hc (by omega)
  have z := (s4 x.1.2.2.1 s1).1
  rw [if_neg (by omega)] at z
  exact JT.cap h1 (by omega) (by rw [hcr]; exact z)
theorem JT_0 {T B T' B' : Nat → Option Nat} {x : Ix} (h : JT T B x) (h0 : x.1.1 = 0) : JT T' B' x := by
  obtain ⟨g, k0, k1, k2, k3, k4, k5, k6⟩ := h
  exact ⟨g, k0, fun q => absurd q (by omega), fun q => absurd q (by omega), k3, k4, k5, k6⟩
theorem JT_cg {T B T' B' : Nat → Option Nat} {x : Ix} (h : JT T B x) (h1 : ∀ r, r < 48 → T' r = T r) (h2 : ∀ r, r < 48 → B' r = B r) : JT T' B' x := by
  obtain ⟨g, k0, k1, k2, k3, k4, k5, k6⟩ := h
  refine ⟨g, k0, fun q => ?_, fun q r hr => ?_, k3, k4, k5, k6⟩
  · obtain ⟨s1, s2, s3, s4⟩ := k1 q
    exact ⟨s1, s2, s3, fun r hr => by rw [h1 r hr, h2 r hr]; exact s4 r hr⟩
  · rw [h1 r hr]
    exact k2 q r hr
theorem ch1 {T : Nat → Option Nat} {c r : Nat} {p : Prop} (hc : c % 64 = r) (e' : Option Nat) (h : (p → T r = none ∧ e' = some c) ∧ (¬ p → T r = some c ∧ e' = none)) (u : Nat) : ch u [c * 2 + if pb p then 1 else 0] (T u) (up1 T r e' u) := by
  rw [ch_c]
  have d1 : (c * 2 + if pb p then 1 else 0) / 2 = c := by split <;> omega
  have d2 : (c * 2 + if pb p then 1 else 0) % 2 = 1 ↔ p := by
    by_cases q : p
    · rw [if_pos (pb_iff.mpr q)]
      exact ⟨fun _ => q, fun _ => by omega⟩
    · rw [if_neg (fun z => q (pb_iff.mp z))]
      exact ⟨fun z => by omega, fun z => absurd z q⟩
  rw [d1]
  unfold up1
  by_cases e : c % 64 = u
  · have e2 : u = r := by omega
    rw [if_pos e, if_pos e2, e2]
    by_cases q : p
    · rw [if_pos (d2.mpr q)]
      exact ⟨(h.1 q).1, (h.1 q).2.symm⟩
    · rw [if_neg (fun z => q (d2.mp z))]
      exact ⟨(h.2 q).1, (h.2 q).2.symm⟩
  · rw [if_neg e, if_neg (by omega)]
    rfl
theorem JT_keep {T B : Nat → Option Nat} {x : Ix} {c r : Nat} {p : Prop} {e' : Option Nat} (h : JT T B x) (h3 : ¬ x.1.1 = 3) (hc : c % 64 = r) (hr : r < 48) (ht : (p → T r = none ∧ e' = some c) ∧ (¬ p → T r = some c ∧ e' = none)) : JT (up1 T r e') B (xKeep c p x) ∧ ((xKeep c p x).1.1 = 0 ∨ ((xKeep c p x).1 = x.1 ∧ (xKeep c p x).2.1 = x.2.1)) := by
  have h0 := h
  obtain ⟨⟨g1, g2, g3, g4, g5, g6⟩, k0, k1, k2, k3, k4, k5, k6⟩ := h
  have hl : ∀ y, y ∈ x.2.2.2.2 ++ [c * 2 + if pb p then 1 else 0] → y / 2 % 64 < 48 := fun y hy => by
    rcases List.mem_append.mp hy with q | q
    · exact g4 y q
    · have e : y = c * 2 + if pb p then 1 else 0 := by simpa using q
      have d1 : (c * 2 + if pb p then 1 else 0) / 2 = c := by split <;> omega
      rw [e, d1]
      omega
  unfold xKeep
  by_cases c0 : x.1.1 = 0
  · rw [if_pos c0]
    exact ⟨JT_0 h0 c0, Or.inl c0⟩
  · rw [if_neg c0]
    by_cases c4 : x.1.1 = 4
    · rw [if_pos c4]
      refine ⟨?_, Or.inr ⟨rfl, rfl⟩⟩
      obtain ⟨n1, n2⟩ := k4 c4
      have hh : ∀ u, u < 48 → has x.2.2.1 u (T u) := fun u hu => by
        obtain ⟨e, m, z1, z2, z3⟩ := k2 (by omega) u hu
        rw [n1] at z2
        rw [n2] at z3
        have z4 : e = m := z2
        have z5 : m = T u := z3
        rw [← z5, ← z4]
        exact z1
      have hE : PW (xDo c p x).2.2.1 ∧ (∀ y, y ∈ (xDo c p x).2.2.1 → y % 64 < 48) ∧ ∀ u, u < 48 → has (xDo c p x).2.2.1 u (up1 T r e' u) := by
        unfold up1
        by_cases q : p
        · have hd : (xDo c p x).2.2.1 = inc c x.2.2.1 := if_pos q
          obtain ⟨t1, t2⟩ := ht.1 q
          have hn : has x.2.2.1 (c % 64) none := by
            have := hh r hr
            rw [t1] at this
            rw [hc]
            exact this
          rw [hd]
          refine ⟨inc_pw g1, rows_inc g2 (by omega), fun u hu => ?_⟩
          have z := has_inc g1 (h0.cap (by omega) hn) hn (hh u hu)
          rw [hc] at z
          rw [t2]
          exact z
        · have hd : (xDo c p x).2.2.1 = exc c x.2.2.1 := if_neg q
          obtain ⟨t1, t2⟩ := ht.2 q
          have hn : has x.2.2.1 (c % 64) (some c) := by
            have := hh r hr
            rw [t1] at this
            rw [hc]
            exact this
          rw [hd]
          refine ⟨exc_pw g1, rows_exc g2, fun u hu => ?_⟩
          have z := has_exc g1 hn (hh u hu)
          rw [hc] at z
          rw [t2]
          exact z
      refine ⟨⟨hE.1, hE.2.1, g3, g4, g5, g6⟩, fun q => absurd q c0, fun q => absurd (show x.1.1 = 1 from q) (by omega), fun _ u hu => ⟨_, up1 T r e' u, hE.2.2 u hu, ?_, ?_⟩, fun q => absurd q h3, fun _ => ⟨n1, n2⟩, fun q => absurd (show x.1.1 = 5 from q) (by omega), k6⟩
      · show ch u x.2.2.2.1 _ _
        rw [n1]
        exact rfl
      · show ch u x.2.2.2.2 _ _
        rw [n2]
        exact rfl
    · rw [if_neg c4]
      by_cases c120 : 120 ≤ x.2.2.2.2.length
      · rw [if_pos c120]
        exact ⟨JT_clear _ _ _, Or.inl rfl⟩
      · rw [if_neg c120]
        refine ⟨⟨⟨g1, g2, g3, hl, g5, g6⟩, fun q => absurd q c0, fun q => ?_, fun q u hu => ?_, fun q => absurd q h3, fun q => absurd q c4, k5, k6⟩, Or.inr ⟨rfl, rfl⟩⟩
        · obtain ⟨s1, s2, s3, s4⟩ := k1 q
          exact ⟨s1, s2, s3, fun u hu => ⟨(s4 u hu).1, ch_app.mpr ⟨T u, (s4 u hu).2, ch1 hc e' ht u⟩⟩⟩
        · obtain ⟨e, m, z1, z2, z3⟩ := k2 q u hu
          exact ⟨e, m, z1, z2, ch_app.mpr ⟨T u, z3, ch1 hc e' ht u⟩⟩
/-- a row changes -/
theorem JT_row {T B : Nat → Option Nat} {y : Ix} {r : Nat} {vo vn : Option Nat} (h : JT T B y) (h3 : ¬ y.1.1 = 3) (hr : r < 48) (ht : T r = eo y.2.1 vo r) (hne : ¬ eo y.2.1 vo r = eo y.2.1 vn r) : (JT (up1 T r none) B (xKO (eo y.2.1 vo r) False y) ∧ ((xKO (eo y.2.1 vo r) False y).1.1 = 0 ∨ ((xKO (eo y.2.1 vo r) False y).1 = y.1 ∧ (xKO (eo y.2.1 vo r) False y).2.1 = y.2.1))) ∧ (JT (up1 T r (eo y.2.1 vn r)) B (xKO (eo y.2.1 vn r) True (xKO (eo y.2.1 vo r) False y)) ∧ ((xKO (eo y.2.1 vn r) True (xKO (eo y.2.1 vo r) False y)).1.1 = 0 ∨ ((xKO (eo y.2.1 vn r) True (xKO (eo y.2.1 vo r) False y)).1 = y.1 ∧ (xKO (eo y.2.1 vn r) True (xKO (eo y.2.1 vo r) False y)).2.1 = y.2.1))) := by
  have hA : JT (up1 T r none) B (xKO (eo y.2.1 vo r) False y) ∧ ((xKO (eo y.2.1 vo r) False y).1.1 = 0 ∨ ((xKO (eo y.2.1 vo r) False y).1 = y.1 ∧ (xKO (eo y.2.1 vo r) False y).2.1 = y.2.1)) := by
    cases hq : eo y.2.1 vo r with
    | none =>
      rw [hq] at ht
      have e : up1 T r none = T := by
        funext u
        unfold up1
        by_cases c : u = r
        · rw [if_pos c, c, ht]
        · rw [if_neg c]
      rw [e]
      exact ⟨h, Or.inr ⟨rfl, rfl⟩⟩
    | some c =>
      rw [hq] at ht
      exact JT_keep h h3 (eo_r hq (by omega)) hr ⟨fun z => z.elim, fun _ => ⟨ht, rfl⟩⟩
  refine ⟨hA, ?_⟩
  cases hq : eo y.2.1 vn r with
  | none => exact hA
  | some c =>
    have hs3 : ¬ (xKO (eo y.2.1 vo r) False y).1.1 = 3 := fun q => by
      rcases hA.2 with z | z
      · omega
      · rw [z.1] at q
        exact h3 q
    have hB := JT_keep (p := True) (e' := some c) hA.1 hs3 (eo_r hq (by omega)) hr ⟨fun _ => ⟨by unfold up1; rw [if_pos rfl], rfl⟩, fun z => absurd trivial z⟩
    have e : up1 (up1 T r none) r (some c) = up1 T r (some c) := by
      funext u
      unfold up1
      by_cases c : u = r
      · rw [if_pos c, if_pos c]
      · rw [if_neg c, if_neg c, if_neg c]
    rw [e] at hB
    refine ⟨hB.1, ?_⟩
    rcases hB.2 with z | z
    · exact Or.inl z
    · rcases hA.2 with z2 | z2
      · refine Or.inl ?_
        show (xKeep c True (xKO (eo y.2.1 vo r) False y)).1.1 = 0
        rw [z.1]
        exact z2
      · exact Or.inr ⟨z.1.trans z2.1, z.2.trans z2.2⟩
/-- the table's entries, as far as row k by the writes -/
noncomputable def Tk (v : Vs) (w : Nat → Option (Option Nat)) (d : Df) (k : Nat) : Nat → Option Nat := fun r => if r < k then eo d (wr v w r) r else tb v d r
theorem xFol_J {v : Vs} {w : Nat → Option (Option Nat)} {x : Ix} (h : JX v x) (h3 : ¬ x.1.1 = 3) : ∀ k, k ≤ 48 → ((xFol v w x k).1.1 = 0 ∨ ((xFol v w x k).1 = x.1 ∧ (xFol v w x k).2.1 = x.2.1)) ∧ JT (Tk v w x.2.1 k) (bs v x.2.1 x.1.2.1) (xFol v w x k)
  | 0, _ => ⟨Or.inr ⟨rfl, rfl⟩, h⟩
  | k + 1, hk => by
    obtain ⟨i1, i2⟩ := xFol_J h h3 k (by omega)
    show ((xRowF v w k (xFol v w x k)).1.1 = 0 ∨ ((xRowF v w k (xFol v w x k)).1 = x.1 ∧ (xRowF v w k (xFol v w x k)).2.1 = x.2.1)) ∧ JT (Tk v w x.2.1 (k + 1)) (bs v x.2.1 x.1.2.1) (xRowF v w k (xFol v w x k))
    generalize xFol v w x k = y at i1 i2
    cases hw : w k with
    | none =>
      have e : xRowF v w k y = y := by unfold xRowF; rw [hw]
      rw [e]
      refine ⟨i1, JT_cg i2 (fun r hr => ?_) (fun r hr => rfl)⟩
      unfold Tk
      by_cases c : r < k
      · rw [if_pos c, if_pos (by omega)]
      · rw [if_neg c]
        by_cases c2 : r = k
        · rw [if_pos (by omega), c2, wr_n (fun z => z hw)]
          rfl
        · rw [if_neg (by omega)]
    | some u =>
      have e : xRowF v w k y = @ite _ (eo y.2.1 (lst v k).2 k = eo y.2.1 u k) (Classical.propDecidable _) y (xKO (eo y.2.1 u k) True (xKO (eo y.2.1 (lst v k).2 k) False y)) := by unfold xRowF; rw [hw]
      rw [e]
      by_cases c0 : y.1.1 = 0
      · have e2 : @ite _ (eo y.2.1 (lst v k).2 k = eo y.2.1 u k) (Classical.propDecidable _) y (xKO (eo y.2.1 u k) True (xKO (eo y.2.1 (lst v k).2 k) False y)) = y := by
          split
          · rfl
          · rw [xKO_0 c0, xKO_0 c0]
        rw [e2]
        exact ⟨Or.inl c0, JT_0 i2 c0⟩
      · obtain ⟨j1, j2⟩ := i1.resolve_left c0
        have hT : Tk v w x.2.1 k k = eo y.2.1 (lst v k).2 k := by unfold Tk; rw [if_neg (by omega), j2]; rfl
        have hU : ∀ r, r < 48 → Tk v w x.2.1 (k + 1) r = up1 (Tk v w x.2.1 k) k (eo y.2.1 u k) r := fun r hr => by
          unfold up1 Tk
          by_cases c : r = k
          · rw [if_pos c, if_pos (by omega), c, wr_y hw, j2]
          · rw [if_neg c]
            by_cases c2 : r < k
            · rw [if_pos (by omega), if_pos c2]
            · rw [if_neg (by omega), if_neg c2]
        by_cases c : eo y.2.1 (lst v k).2 k = eo y.2.1 u k
        · rw [if_pos c]
          refine ⟨i1, JT_cg i2 (fun r hr => ?_) (fun r hr => rfl)⟩
          rw [hU r hr]
          unfold up1
          by_cases c2 : r = k
          · rw [if_pos c2, c2, hT, c]
          · rw [if_neg c2]
        · rw [if_neg c]
          obtain ⟨a1, a2, a3⟩ := JT_row i2 (by rw [j1]; exact h3) (by omega) hT c
          refine ⟨?_, JT_cg a2 hU (fun r hr => rfl)⟩
          rcases a3 with z | z
          · exact Or.inl z
          · exact Or.inr ⟨z.1.trans j1, z.2.trans j2⟩
/-- room in an index that is ready, as a commit changes it -/
theorem xFol_cap {v : Vs} {w : Nat → Option (Option Nat)} {x : Ix} {r : Nat} {u : Option Nat} (h : JX v x) (h3 : ¬ x.1.1 = 3) (hr : r < 48) (h4 : (xFol v w x r).1.1 = 4) : ∀ c, eo (xFol v w x r).2.1 u r = some c → ¬ eo (xFol v w x r).2.1 (lst v r).2 r = eo (xFol v w x r).2.1 u r → cap c (xKO (eo (xFol v w x r).2.1 (lst v r).2 r) False (xFol v w x r)).2.2.1 := fun c hc hne => by
  obtain ⟨i1, i2⟩ := xFol_J (w := w) h h3 r (by omega)
  obtain ⟨j1, j2⟩ := i1.resolve_left (by omega)
  have hT : Tk v w x.2.1 r r = eo (xFol v w x r).2.1 (lst v r).2 r := by unfold Tk; rw [if_neg (by omega), j2]; rfl
  obtain ⟨⟨a1, a2⟩, _⟩ := JT_row (vn := u) i2 (by rw [j1]; exact h3) hr hT hne
  have hcr := eo_r hc (by omega)
  rcases a2 with z | z
  · rw [(a1.2.1 z).1]
    exact Or.inl (by decide)
  · have hs4 : (xKO (eo (xFol v w x r).2.1 (lst v r).2 r) False (xFol v w x r)).1.1 = 4 := by rw [z.1]; exact h4
    obtain ⟨n1, n2⟩ := a1.2.2.2.2.2.1 hs4
    obtain ⟨e, m, z1, z2, z3⟩ := a1.2.2.2.1 (by omega) r hr
    rw [n1] at z2
    rw [n2] at z3
    have z4 : e = m := z2
    have z5 : m = up1 (Tk v w x.2.1 r) r none r := z3
    have z6 : up1 (Tk v w x.2.1 r) r none r = none := by unfold up1; rw [if_pos rfl]
    rw [z4, z5, z6] at z1
    exact a1.cap (by omega) (by rw [hcr]; exact z1)
theorem JT_ent {T B : Nat → Option Nat} {x : Ix} {f : Nat → Option Nat} (h : JT T B x) (h4 : x.1.1 = 4) (ht : ∀ r, r < 48 → T r = eo x.2.1 (f r) r) : x.2.2.1 = gth x.2.1 f 48 := by
  obtain ⟨w1, w2, w3⟩ := gth_ok (d := x.2.1) (f := f) (n := 48) (by omega)
  obtain ⟨n1, n2⟩ := h.2.2.2.2.2.1 h4
  have hh : ∀ u, u < 48 → has x.2.2.1 u (T u) := fun u hu => by
    obtain ⟨e, m, z1, z2, z3⟩ := h.2.2.2.1 (by omega) u hu
    rw [n1] at z2
    rw [n2] at z3
    have z4 : e = m := z2
    have z5 : m = T u := z3
    rw [← z5, ← z4]
    exact z1
  refine PW_ext h.1.1 w1 (fun c => ?_)
  rw [w2]
  constructor
  · intro q
    have hr := h.1.2.1 c q
    exact ⟨c % 64, hr, by rw [← ht _ hr]; exact (hh _ hr c).mp ⟨q, rfl⟩⟩
  · rintro ⟨r, hr, q⟩
    rw [← ht r hr] at q
    exact ((hh r hr c).mpr q).1
theorem tws_K {d : Df} {f : Nat → Option Nat} : tws (gth d f 48) ↔ ∃ r q, r < 48 ∧ q < 48 ∧ ¬ r = q ∧ K1 d f r q := by
  obtain ⟨w1, w2, w3⟩ := gth_ok (d := d) (f := f) (n := 48) (by omega)
  have hs := PW_srtd w1
  constructor
  · rintro ⟨k, k1, k2⟩
    obtain ⟨r, r1, r2⟩ := (w2 _).mp (mem_getD (l := gth d f 48) (k := k) (by omega))
    obtain ⟨q, q1, q2⟩ := (w2 _).mp (mem_getD (l := gth d f 48) (k := k + 1) k1)
    have r3 := eo_r r2 (by omega)
    have q3 := eo_r q2 (by omega)
    have := hs k (k + 1) (by omega) k1
    exact ⟨r, q, r1, q1, by omega, _, _, r2, q2, k2.symm⟩
  · rintro ⟨r, q, r1, q1, hne, a, b, e1, e2, e3⟩
    have r3 := eo_r e1 (by omega)
    have q3 := eo_r e2 (by omega)
    obtain ⟨j, j1, j2⟩ := mem_at.mp ((w2 a).mpr ⟨r, r1, e1⟩)
    obtain ⟨k, k1, k2⟩ := mem_at.mp ((w2 b).mpr ⟨q, q1, e2⟩)
    have key : ∀ j k a b, j < k → k < (gth d f 48).length → (gth d f 48).getD j 0 = a → (gth d f 48).getD k 0 = b → a / 64 = b / 64 → tws (gth d f 48) := fun j k a b h1 h2 h3 h4 h5 => by
      refine ⟨j, by omega, ?_⟩
      have y1 := hs j (j + 1) (by omega) (by omega)
      have y2 : (gth d f 48).getD (j + 1) 0 ≤ (gth d f 48).getD k 0 := by
        by_cases c : j + 1 = k
        · rw [c]; omega
        · have := hs (j + 1) k (by omega) h2
          omega
      rw [h3] at y1 ⊢
      rw [h4] at y2
      omega
    rcases Nat.lt_trichotomy j k with z | z | z
    · exact key j k a b z k1 j2 k2 e3
    · rw [z, k2] at j2
      omega
    · exact key k j b a z j1 k2 j2 e3.symm
theorem K1_sym {d : Df} {f : Nat → Option Nat} {r q : Nat} (h : K1 d f r q) : K1 d f q r := by
  obtain ⟨a, b, h1, h2, h3⟩ := h
  exact ⟨b, a, h2, h1, h3.symm⟩
theorem mrR_K {d : Df} {v : Vs} {w : Nat → Option (Option Nat)} {r : Nat} (hr : r < 48) : mrR d v w r ↔ (w r ≠ none ∧ ∃ q, q < 48 ∧ ¬ q = r ∧ K1 d (wr v w) r q) := by
  constructor
  · rintro ⟨h1, h2, q, h3, h4, h5, a, b, h6, h7, h8⟩
    exact ⟨h1, q, h3, h4, (K1_i (by omega) (by omega) h6 h7 h2 h5).mpr h8⟩
  · rintro ⟨h1, q, h3, h4, h5⟩
    obtain ⟨a, b, e1, e2, e3⟩ := h5
    obtain ⟨pa, p1, p2, p3⟩ := eo_c e1
    obtain ⟨pb1, p4, p5, p6⟩ := eo_c e2
    exact ⟨h1, p2, q, h3, h4, p5, pa, pb1, p1, p4, by omega⟩
theorem mk_mr {s : St} {w : Nat → Option (Option Nat)} {i R : Nat} (h : JI s.2.1 s.1.1 R (s.2.2.2 i)) : mkA s w i ↔ mrA s w i := by
  obtain ⟨h1, h2, _⟩ := h
  unfold mkA mrA
  constructor
  · rintro ⟨a1, a2, a3⟩
    refine ⟨a1, a2, ?_⟩
    have hn : ¬ tws (gth (s.2.2.2 i).2.1 (fun r => (lst s.2.1 r).2) 48) := by
      have := h2 a1 a2
      rw [JT_ent (f := fun r => (lst s.2.1 r).2) h1 a1 (fun r _ => rfl)] at this
      exact this
    obtain ⟨r, q, r1, q1, hne, hK⟩ := tws_K.mp a3
    by_cases c : w r ≠ none
    · exact ⟨r, r1, (mrR_K r1).mpr ⟨c, q, q1, fun e => hne e.symm, hK⟩⟩
    · by_cases c2 : w q ≠ none
      · exact ⟨q, q1, (mrR_K q1).mpr ⟨c2, r, r1, hne, K1_sym hK⟩⟩
      · exfalso
        refine hn (tws_K.mpr ⟨r, q, r1, q1, hne, ?_⟩)
        obtain ⟨a, b, e1, e2, e3⟩ := hK
        rw [wr_n c] at e1
        rw [wr_n c2] at e2
        exact ⟨a, b, e1, e2, e3⟩
  · rintro ⟨a1, a2, r, r1, a3⟩
    obtain ⟨_, q, q1, q2, q3⟩ := (mrR_K r1).mp a3
    exact ⟨a1, a2, tws_K.mpr ⟨r, q, r1, q1, fun e => q2 e.symm, q3⟩⟩
