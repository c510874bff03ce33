/-! lists that rise -/
def PW (l : List Nat) : Prop := l.Pairwise (fun a b => a < b)
theorem PW_nil : PW [] := List.Pairwise.nil
theorem PW_cons {c : Nat} {l : List Nat} : PW (c :: l) ↔ (∀ y, y ∈ l → c < y) ∧ PW l := List.pairwise_cons
theorem PW_srtd : ∀ {l : List Nat}, PW l → srtd l
  | [], _ => fun a b _ h2 => absurd h2 (by simp)
  | c :: cs, h => fun a b h1 h2 => by
    obtain ⟨h3, h4⟩ := PW_cons.mp h
    cases b with
    | zero => omega
    | succ b =>
      have h5 : b < cs.length := by simpa using h2
      cases a with
      | zero =>
        have : cs.getD b 0 ∈ cs := mem_getD h5
        simpa using h3 _ this
      | succ a => simpa using PW_srtd h4 a b (by omega) h5
theorem PW_ext : ∀ {l m : List Nat}, PW l → PW m → (∀ c, c ∈ l ↔ c ∈ m) → l = m
  | [], [], _, _, _ => rfl
  | [], y :: m, _, _, h => absurd ((h y).mpr (by simp)) (by simp)
  | x :: l, [], _, _, h => absurd ((h x).mp (by simp)) (by simp)
  | x :: l, y :: m, h1, h2, h => by
    obtain ⟨a1, a2⟩ := PW_cons.mp h1
    obtain ⟨b1, b2⟩ := PW_cons.mp h2
    have e : x = y := by
      rcases List.mem_cons.mp ((h x).mp (by simp)) with e | e
      · exact e
      · rcases List.mem_cons.mp ((h y).mpr (by simp)) with e2 | e2
        · exact e2.symm
        · have := b1 x e
          have := a1 y e2
          omega
    subst e
    congr 1
    refine PW_ext a2 b2 (fun c => ⟨fun q => ?_, fun q => ?_⟩)
    · rcases List.mem_cons.mp ((h c).mp (List.mem_cons_of_mem _ q)) with e | e
      · have := a1 c q
        omega
      · exact e
    · rcases List.mem_cons.mp ((h c).mpr (List.mem_cons_of_mem _ q)) with e | e
      · have := b1 c q
        omega
      · exact e
theorem pl_in {x : Nat} : ∀ {l : List Nat}, PW l → ((pl x l < l.length ∧ l.getD (pl x l) 0 = x) ↔ x ∈ l)
  | [], _ => by simp
  | c :: cs, h => by
    obtain ⟨h3, h4⟩ := PW_cons.mp h
    have ih := pl_in (x := x) h4
    unfold pl
    by_cases e : c < x
    · rw [if_pos e]
      have e2 : x ∈ c :: cs ↔ x ∈ cs := ⟨fun q => (List.mem_cons.mp q).elim (fun z => by omega) id, fun q => List.mem_cons_of_mem _ q⟩
      rw [e2, ← ih]
      simp
    · rw [if_neg e]
      constructor
      · rintro ⟨_, q⟩
        have : c = x := by simpa using q
        rw [this]
        simp
      · intro q
        rcases List.mem_cons.mp q with z | z
        · subst z
          simp
        · have := h3 x z
          omega
/-- x at its place -/
def insR (x : Nat) : List Nat → List Nat
  | [] => [x]
  | c :: cs => if c < x then c :: insR x cs else x :: c :: cs
theorem insR_eq (x : Nat) : ∀ l : List Nat, l.take (pl x l) ++ x :: l.drop (pl x l) = insR x l
  | [] => rfl
  | c :: cs => by
    unfold pl insR
    by_cases e : c < x
    · rw [if_pos e, if_pos e]
      have := insR_eq x cs
      simpa using this
    · rw [if_neg e, if_neg e]
      rfl
theorem insR_mem {x c : Nat} : ∀ {l : List Nat}, c ∈ insR x l ↔ c = x ∨ c ∈ l
  | [] => by simp [insR]
  | y :: l => by
    have ih := insR_mem (x := x) (c := c) (l := l)
    unfold insR
    by_cases e : y < x
    · rw [if_pos e, List.mem_cons, ih, List.mem_cons]
      constructor
      · rintro (q | q | q)
        · exact Or.inr (Or.inl q)
        · exact Or.inl q
        · exact Or.inr (Or.inr q)
      · rintro (q | q | q)
        · exact Or.inr (Or.inl q)
        · exact Or.inl q
        · exact Or.inr (Or.inr q)
    · rw [if_neg e, List.mem_cons]
theorem insR_len (x : Nat) : ∀ l : List Nat, (insR x l).length = l.length + 1
  | [] => rfl
  | y :: l => by
    unfold insR
    split
    · simp [insR_len x l]
    · simp
theorem insR_pw {x : Nat} : ∀ {l : List Nat}, PW l → ¬ x ∈ l → PW (insR x l)
  | [], _, _ => PW_cons.mpr ⟨fun y hy => absurd hy (by simp), PW_nil⟩
  | y :: l, h, hx => by
    obtain ⟨h3, h4⟩ := PW_cons.mp h
    have hxy : x ≠ y := fun e => hx (by rw [e]; simp)
    have hxl : ¬ x ∈ l := fun e => hx (List.mem_cons_of_mem _ e)
    unfold insR
    by_cases e : y < x
    · rw [if_pos e]
      refine PW_cons.mpr ⟨fun z hz => ?_, insR_pw h4 hxl⟩
      rcases insR_mem.mp hz with q | q
      · omega
      · exact h3 z q
    · rw [if_neg e]
      refine PW_cons.mpr ⟨fun z hz => ?_, h⟩
      rcases List.mem_cons.mp hz with q | q
      · omega
      · have := h3 z q
        omega
theorem inc_new {x : Nat} {l : List Nat} (h : PW l) (hx : ¬ x ∈ l) (hl : l.length < 48) : inc x l = insR x l := by
  unfold inc
  rw [if_neg (fun q => q.elim (fun z => by omega) (fun z => hx ((pl_in h).mp z))), insR_eq]
theorem inc_old {x : Nat} {l : List Nat} (h : PW l) (hx : x ∈ l) : inc x l = l := by
  unfold inc
  rw [if_pos (Or.inr ((pl_in h).mpr hx))]
theorem inc_pw {x : Nat} {l : List Nat} (h : PW l) : PW (inc x l) := by
  by_cases hx : x ∈ l
  · rw [inc_old h hx]
    exact h
  · by_cases hl : l.length < 48
    · rw [inc_new h hx hl]
      exact insR_pw h hx
    · unfold inc
      rw [if_pos (Or.inl (by omega))]
      exact h
theorem inc_mem2 {x c : Nat} {l : List Nat} (h : PW l) (hc : cap x l) : c ∈ inc x l ↔ c = x ∨ c ∈ l := by
  by_cases hx : x ∈ l
  · rw [inc_old h hx]
    exact ⟨Or.inr, fun q => q.elim (fun z => by rw [z]; exact hx) id⟩
  · have hl : l.length < 48 := hc.elim id (fun z => absurd ((pl_in h).mp z) hx)
    rw [inc_new h hx hl]
    exact insR_mem
def erR (x : Nat) : List Nat → List Nat
  | [] => []
  | c :: cs => if c < x then c :: erR x cs else cs
theorem erR_eq (x : Nat) : ∀ l : List Nat, l.eraseIdx (pl x l) = erR x l
  | [] => rfl
  | c :: cs => by
    unfold pl erR
    by_cases e : c < x
    · rw [if_pos e, if_pos e]
      have := erR_eq x cs
      simpa using this
    · rw [if_neg e, if_neg e]
      rfl
theorem erR_mem {x c : Nat} : ∀ {l : List Nat}, PW l → x ∈ l → (c ∈ erR x l ↔ c ∈ l ∧ c ≠ x)
  | [], _, hx => absurd hx (by simp)
  | y :: l, h, hx => by
    obtain ⟨h3, h4⟩ := PW_cons.mp h
    unfold erR
    by_cases e : y < x
    · have hxl : x ∈ l := (List.mem_cons.mp hx).elim (fun z => by omega) id
      rw [if_pos e, List.mem_cons, erR_mem h4 hxl, List.mem_cons]
      constructor
      · rintro (q | q)
        · exact ⟨Or.inl q, by omega⟩
        · exact ⟨Or.inr q.1, q.2⟩
      · rintro ⟨q | q, q2⟩
        · exact Or.inl q
        · exact Or.inr ⟨q, q2⟩
    · have exy : x = y := by
        rcases List.mem_cons.mp hx with z | z
        · exact z
        · have := h3 x z
          omega
      subst exy
      rw [if_neg e, List.mem_cons]
      constructor
      · intro q
        have := h3 c q
        exact ⟨Or.inr q, by omega⟩
      · rintro ⟨q | q, q2⟩
        · exact absurd q q2
        · exact q
theorem erR_pw {x : Nat} : ∀ {l : List Nat}, PW l → PW (erR x l)
  | [], _ => PW_nil
  | y :: l, h => by
    obtain ⟨h3, h4⟩ := PW_cons.mp h
    unfold erR
    by_cases e : y < x
    · rw [if_pos e]
      refine PW_cons.mpr ⟨fun z hz => ?_, erR_pw h4⟩
      have : z ∈ l := by
        have hs : ∀ l2 : List Nat, z ∈ erR x l2 → z ∈ l2 := by
          intro l2
          induction l2 with
          | nil => exact id
          | cons c cs ih =>
            intro q
            unfold erR at q
            split at q
            · rcases List.mem_cons.mp q with w | w
              · rw [w]; simp
              · exact List.mem_cons_of_mem _ (ih w)
            · exact List.mem_cons_of_mem _ q
        exact hs l hz
      exact h3 z this
    · rw [if_neg e]
      exact h4
theorem exc_old {x : Nat} {l : List Nat} (h : PW l) (hx : ¬ x ∈ l) : exc x l = l := by
  unfold exc
  rw [if_neg (fun q => hx ((pl_in h).mp q))]
theorem exc_pw {x : Nat} {l : List Nat} (h : PW l) : PW (exc x l) := by
  by_cases hx : x ∈ l
  · unfold exc
    rw [if_pos ((pl_in h).mpr hx), erR_eq]
    exact erR_pw h
  · rw [exc_old h hx]
    exact h
theorem exc_mem2 {x c : Nat} {l : List Nat} (h : PW l) : c ∈ exc x l ↔ c ∈ l ∧ c ≠ x := by
  by_cases hx : x ∈ l
  · unfold exc
    rw [if_pos ((pl_in h).mpr hx), erR_eq]
    exact erR_mem h hx
  · rw [exc_old h hx]
    exact ⟨fun q => ⟨q, fun e => hx (by rw [← e]; exact q)⟩, fun q => q.1⟩
/-- at most one code of a row -/
def rw1 (l : List Nat) : Prop := ∀ a b, a ∈ l → b ∈ l → a % 64 = b % 64 → a = b
theorem flt_len {p : Nat → Bool} : ∀ {l : List Nat}, PW l → (∀ a b, a ∈ l → b ∈ l → ¬ p a = true → ¬ p b = true → a = b) → l.length ≤ (l.filter p).length + 1
  | [], _, _ => by simp
  | c :: cs, h, h2 => by
    obtain ⟨h3, h4⟩ := PW_cons.mp h
    by_cases e : p c = true
    · have := flt_len (p := p) h4 (fun a b ha hb => h2 a b (List.mem_cons_of_mem _ ha) (List.mem_cons_of_mem _ hb))
      rw [List.filter_cons_of_pos e]
      simp
      exact this
    · have : cs.filter p = cs := by
        rw [List.filter_eq_self]
        intro a ha
        refine Classical.byContradiction (fun q => ?_)
        have := h2 a c (List.mem_cons_of_mem _ ha) (by simp) q e
        have := h3 a ha
        omega
      rw [List.filter_cons_of_neg e, this]
      simp
theorem rw1_len : ∀ {n : Nat} {l : List Nat}, PW l → rw1 l → (∀ c, c ∈ l → c % 64 < n) → l.length ≤ n
  | 0, l, _, _, h => by
    cases l with
    | nil => simp
    | cons c cs => exact absurd (h c (by simp)) (by omega)
  | n + 1, l, h1, h2, h3 => by
    have hf : PW (l.filter (fun c => decide (c % 64 ≠ n))) := List.Pairwise.filter _ h1
    have hl := rw1_len (n := n) (l := l.filter (fun c => decide (c % 64 ≠ n))) hf (fun a b ha hb => h2 a b (List.mem_filter.mp ha).1 (List.mem_filter.mp hb).1) (fun c hc => by
      obtain ⟨q1, q2⟩ := List.mem_filter.mp hc
      have := h3 c q1
      have q3 : c % 64 ≠ n := of_decide_eq_true q2
      omega)
    have := flt_len (p := fun c => decide (c % 64 ≠ n)) h1 (fun a b ha hb qa qb => h2 a b ha hb (by
      have ea : a % 64 = n := Classical.byContradiction (fun z => qa (decide_eq_true z))
      have eb : b % 64 = n := Classical.byContradiction (fun z => qb (decide_eq_true z))
      omega))
    omega
theorem rw1_cap {l : List Nat} {x : Nat} (h1 : PW l) (h2 : rw1 l) (h3 : ∀ c, c ∈ l → c % 64 < 48) (hx : x % 64 < 48) (hn : ∀ c, c ∈ l → ¬ c % 64 = x % 64) : l.length < 48 := by
  have hxl : ¬ x ∈ l := fun q => hn x q rfl
  have h4 := rw1_len (n := 48) (l := insR x l) (insR_pw h1 hxl) (fun a b ha hb e => by
    rcases insR_mem.mp ha with qa | qa
    · rcases insR_mem.mp hb with qb | qb
      · rw [qa, qb]
      · exact absurd (by rw [← e, qa]) (hn b qb)
    · rcases insR_mem.mp hb with qb | qb
      · exact absurd (by rw [e, qb]) (hn a qa)
      · exact h2 a b qa qb e) (fun c hc => by
    rcases insR_mem.mp hc with q | q
    · rw [q]; exact hx
    · exact h3 c q)
  rw [insR_len] at h4
  omega
theorem mem_at {l : List Nat} {c : Nat} : c ∈ l ↔ ∃ k, k < l.length ∧ l.getD k 0 = c := by
  constructor
  · intro h
    obtain ⟨k, hk, e⟩ := List.getElem_of_mem h
    exact ⟨k, hk, by rw [List.getD_eq_getElem?_getD, List.getElem?_eq_getElem hk]; exact e⟩
  · rintro ⟨k, hk, rfl⟩
    exact mem_getD hk
theorem getD_inj {l : List Nat} (h : PW l) {a b : Nat} (ha : a < l.length) (hb : b < l.length) (e : l.getD a 0 = l.getD b 0) : a = b := by
  have hs := PW_srtd h
  rcases Nat.lt_trichotomy a b with q | q | q
  · have := hs a b q hb
    omega
  · exact q
  · have := hs b a q ha
    omega
theorem getD_lt {l : List Nat} (h : PW l) {a b : Nat} (ha : a < l.length) (hb : b < l.length) : l.getD a 0 < l.getD b 0 ↔ a < b := by
  have hs := PW_srtd h
  constructor
  · intro q
    rcases Nat.lt_trichotomy a b with z | z | z
    · exact z
    · rw [z] at q
      omega
    · have := hs b a z ha
      omega
  · intro q
    exact hs a b q hb

