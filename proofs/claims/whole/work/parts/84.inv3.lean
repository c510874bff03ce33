/-! the invariant of a store: versions, over a commit and a sweep -/
abbrev Vl : Type := List (Nat × Option Nat)
def strc (l : Vl) : Prop := ∀ a b, a < b → b < l.length → (vk l a).1 < (vk l b).1
def JV (v : Vs) (sq : Nat) : Prop := ∀ r, r < 48 → 1 ≤ (v r).length ∧ strc (v r) ∧ (lst v r).1 ≤ sq
theorem vpl_ok {l : Vl} {sn : Nat} (hs : strc l) (h0 : (vk l 0).1 ≤ sn) : ∀ j, j < l.length → (vk l (vpl l sn j)).1 ≤ sn ∧ ∀ k, vpl l sn j < k → k ≤ j → sn < (vk l k).1
  | 0, _ => ⟨h0, fun k h1 h2 => by have : vpl l sn 0 = 0 := rfl; omega⟩
  | j + 1, hj => by
    obtain ⟨i1, i2⟩ := vpl_ok hs h0 j (by omega)
    by_cases c : (vk l (j + 1)).1 ≤ sn
    · have e : vpl l sn (j + 1) = j + 1 := if_pos c
      rw [e]
      exact ⟨c, fun k h1 h2 => by omega⟩
    · have e : vpl l sn (j + 1) = vpl l sn j := if_neg c
      rw [e]
      refine ⟨i1, fun k h1 h2 => ?_⟩
      by_cases c2 : k = j + 1
      · rw [c2]
        omega
      · exact i2 k h1 (by omega)
theorem vpl_iff {l : Vl} {sn k : Nat} (hs : strc l) (h0 : (vk l 0).1 ≤ sn) (hk : k < l.length) : vpl l sn (l.length - 1) = k ↔ ((vk l k).1 ≤ sn ∧ (k + 1 < l.length → sn < (vk l (k + 1)).1)) := by
  obtain ⟨i1, i2⟩ := vpl_ok hs h0 (l.length - 1) (by omega)
  have hle := vpl_le l sn (l.length - 1)
  constructor
  · intro e
    rw [e] at i1 i2
    exact ⟨i1, fun h => i2 _ (by omega) (by omega)⟩
  · rintro ⟨h1, h2⟩
    rcases Nat.lt_trichotomy (vpl l sn (l.length - 1)) k with q | q | q
    · have := i2 k q (by omega)
      omega
    · exact q
    · have h3 := h2 (by omega)
      by_cases c : vpl l sn (l.length - 1) = k + 1
      · rw [c] at i1
        omega
      · have := hs (k + 1) (vpl l sn (l.length - 1)) (by omega) (by omega)
        omega
theorem vat_last {l : Vl} {sn : Nat} (hs : strc l) (hl : 1 ≤ l.length) (h : (vk l (l.length - 1)).1 ≤ sn) : vat l sn = (vk l (l.length - 1)).2 := by
  have h0 : (vk l 0).1 ≤ sn := by
    by_cases c : l.length - 1 = 0
    · rw [c] at h; exact h
    · have := hs 0 (l.length - 1) (by omega) (by omega)
      omega
  rw [vat_vpl h0 hl, (vpl_iff hs h0 (show l.length - 1 < l.length by omega)).mpr ⟨h, fun z => absurd z (by omega)⟩]
theorem first_le {l : Vl} {sq : Nat} (hs : strc l) (hl : 1 ≤ l.length) (h : (vk l (l.length - 1)).1 ≤ sq) : ∀ k, k < l.length → (vk l k).1 ≤ sq := fun k hk => by
  by_cases c : k = l.length - 1
  · rw [c]; exact h
  · have := hs k (l.length - 1) (by omega) (by omega)
    omega
/-- a row's versions behind a commit -/
theorem cm_row {l : Vl} {sq : Nat} {u : Option Nat} (hl : 1 ≤ l.length) (hs : strc l) (h : (vk l (l.length - 1)).1 ≤ sq) : (1 ≤ (l ++ [(sq + 1, u)]).length ∧ strc (l ++ [(sq + 1, u)]) ∧ vk (l ++ [(sq + 1, u)]) ((l ++ [(sq + 1, u)]).length - 1) = (sq + 1, u)) ∧ (vk (l ++ [(sq + 1, u)]) 0).1 = (vk l 0).1 ∧ ∀ sn, sn ≤ sq → vat (l ++ [(sq + 1, u)]) sn = vat l sn := by
  have el : (l ++ [(sq + 1, u)]).length = l.length + 1 := by simp
  refine ⟨⟨by omega, fun a b h1 h2 => ?_, ?_⟩, ?_, fun sn hsn => ?_⟩
  · rw [el] at h2
    rw [vk_app _ _ a (by omega), vk_app _ _ b h2, if_pos (show a < l.length by omega)]
    by_cases c : b < l.length
    · rw [if_pos c]
      exact hs a b h1 c
    · rw [if_neg c]
      have := first_le hs hl h a (by omega)
      show _ < sq + 1
      omega
  · rw [el, vk_app _ _ _ (by omega), if_neg (by omega)]
  · rw [vk_app _ _ _ (by omega), if_pos (by omega)]
  · have hvj : ∀ j, j ≤ l.length → vj (l ++ [(sq + 1, u)]) sn j = vj l sn j := fun j => by
      induction j with
      | zero => exact fun _ => rfl
      | succ j ih =>
        intro hj
        unfold vj
        rw [vk_app _ _ _ (by omega), if_pos (show j < l.length by omega), ih (by omega)]
    unfold vat
    rw [el]
    show (if (vk (l ++ [(sq + 1, u)]) l.length).1 ≤ sn then (vk (l ++ [(sq + 1, u)]) l.length).2 else vj (l ++ [(sq + 1, u)]) sn l.length) = _
    rw [vk_app _ _ _ (by omega), if_neg (show ¬ l.length < l.length by omega), if_neg (show ¬ sq + 1 ≤ sn by omega)]
    exact hvj _ (Nat.le_refl _)
theorem vset_rs {v : Vs} {w : Nat → Option (Option Nat)} {sq r : Nat} {u : Option Nat} (hr : r < 48) (hw : w r = some u) : vset v w sq 48 r = v r ++ [(sq, u)] := by simp only [vset, if_pos hr, hw]
theorem vset_rn {v : Vs} {w : Nat → Option (Option Nat)} {sq r : Nat} (hr : r < 48) (hw : w r = none) : vset v w sq 48 r = v r := by simp only [vset, if_pos hr, hw]
theorem cm_v {v : Vs} {w : Nat → Option (Option Nat)} {sq : Nat} (h : JV v sq) : JV (vset v w (sq + 1) 48) (sq + 1) ∧ ∀ r, r < 48 → (lst (vset v w (sq + 1) 48) r).2 = wr v w r ∧ (vk (vset v w (sq + 1) 48 r) 0).1 = (vk (v r) 0).1 ∧ ∀ sn, sn ≤ sq → vat (vset v w (sq + 1) 48 r) sn = vat (v r) sn := by
  have key : ∀ r, r < 48 → (1 ≤ (vset v w (sq + 1) 48 r).length ∧ strc (vset v w (sq + 1) 48 r) ∧ (lst (vset v w (sq + 1) 48) r).1 ≤ sq + 1) ∧ (lst (vset v w (sq + 1) 48) r).2 = wr v w r ∧ (vk (vset v w (sq + 1) 48 r) 0).1 = (vk (v r) 0).1 ∧ ∀ sn, sn ≤ sq → vat (vset v w (sq + 1) 48 r) sn = vat (v r) sn := fun r hr => by
    obtain ⟨h1, h2, h3⟩ := h r hr
    cases hw : w r with
    | none =>
      have e : vset v w (sq + 1) 48 r = v r := vset_rn hr hw
      have e2 : lst (vset v w (sq + 1) 48) r = lst v r := by unfold lst; rw [e]
      rw [e, e2]
      exact ⟨⟨h1, h2, by omega⟩, (wr_n (fun z => z hw)).symm, rfl, fun _ _ => rfl⟩
    | some u =>
      have e : vset v w (sq + 1) 48 r = v r ++ [(sq + 1, u)] := vset_rs hr hw
      obtain ⟨⟨c1, c2, c3⟩, c4, c5⟩ := cm_row (u := u) h1 h2 h3
      have e2 : lst (vset v w (sq + 1) 48) r = (sq + 1, u) := by unfold lst; rw [e]; exact c3
      rw [e, e2]
      exact ⟨⟨c1, c2, Nat.le_refl _⟩, (wr_y hw).symm, c4, c5⟩
  exact ⟨fun r hr => (key r hr).1, fun r hr => (key r hr).2⟩
theorem JT_cgB {T B T' B' : Nat → Option Nat} {x : Ix} (h : JT T B x) (h1 : ∀ r, r < 48 → T' r = T r) (h2 : x.1.1 = 1 → ∀ r, r < 48 → B' r = B r) : JT T' B' x := by
  obtain ⟨g, k0, k1, k2, k3, k4, k5, k6⟩ := h
  refine ⟨g, k0, fun q => ?_, fun q r hr => ?_, k3, k4, k5, k6⟩
  · obtain ⟨s1, s2, s3, s4⟩ := k1 q
    exact ⟨s1, s2, s3, fun r hr => by rw [h1 r hr, h2 q r hr]; exact s4 r hr⟩
  · rw [h1 r hr]
    exact k2 q r hr
theorem xKeep_1 (c : Nat) (p : Prop) (x : Ix) : (xKeep c p x).1 = x.1 ∨ (xKeep c p x).1 = (0, 0, 0, 0, 3) := by
  unfold xKeep
  by_cases c0 : x.1.1 = 0
  · rw [if_pos c0]; exact Or.inl rfl
  · rw [if_neg c0]
    by_cases c4 : x.1.1 = 4
    · rw [if_pos c4]; exact Or.inl rfl
    · rw [if_neg c4]
      by_cases c5 : 120 ≤ x.2.2.2.2.length
      · rw [if_pos c5]; exact Or.inr rfl
      · rw [if_neg c5]; exact Or.inl rfl
theorem xKO_1 (q : Option Nat) (p : Prop) (x : Ix) : (xKO q p x).1 = x.1 ∨ (xKO q p x).1 = (0, 0, 0, 0, 3) := by
  cases q with
  | none => exact Or.inl rfl
  | some c => exact xKeep_1 c p x
theorem xFol_1 (v : Vs) (w : Nat → Option (Option Nat)) (x : Ix) : ∀ k, (xFol v w x k).1 = x.1 ∨ (xFol v w x k).1 = (0, 0, 0, 0, 3)
  | 0 => Or.inl rfl
  | k + 1 => by
    have ih := xFol_1 v w x k
    show (xRowF v w k (xFol v w x k)).1 = x.1 ∨ (xRowF v w k (xFol v w x k)).1 = (0, 0, 0, 0, 3)
    generalize xFol v w x k = y at ih
    have h : (xRowF v w k y).1 = y.1 ∨ (xRowF v w k y).1 = (0, 0, 0, 0, 3) := by
      unfold xRowF
      cases w k with
      | none => exact Or.inl rfl
      | some u =>
        show (@ite _ (eo y.2.1 (lst v k).2 k = eo y.2.1 u k) (Classical.propDecidable _) y (xKO (eo y.2.1 u k) True (xKO (eo y.2.1 (lst v k).2 k) False y))).1 = y.1 ∨ (@ite _ (eo y.2.1 (lst v k).2 k = eo y.2.1 u k) (Classical.propDecidable _) y (xKO (eo y.2.1 u k) True (xKO (eo y.2.1 (lst v k).2 k) False y))).1 = (0, 0, 0, 0, 3)
        by_cases c : eo y.2.1 (lst v k).2 k = eo y.2.1 u k
        · rw [if_pos c]; exact Or.inl rfl
        · rw [if_neg c]
          rcases xKO_1 (eo y.2.1 u k) True (xKO (eo y.2.1 (lst v k).2 k) False y) with z | z
          · rw [z]
            exact xKO_1 _ _ _
          · exact Or.inr z
    rcases h with z | z
    · rw [z]; exact ih
    · exact Or.inr z
theorem xFol_JI {v : Vs} {w : Nat → Option (Option Nat)} {sq N : Nat} {x : Ix} (hv : JV v sq) (h : JI v sq N x) (h3 : ¬ x.1.1 = 3) (hm : x.1.1 = 4 → x.2.1.2.1 = true → ¬ tws (gth x.2.1 (wr v w) 48)) : JI (vset v w (sq + 1) 48) (sq + 1) N (xFol v w x 48) := by
  obtain ⟨g1, g2, g3, g4⟩ := h
  obtain ⟨i1, i2⟩ := xFol_J (w := w) g1 h3 48 (by omega)
  obtain ⟨c1, c2⟩ := cm_v (w := w) hv
  have hk1 := xFol_1 v w x 48
  generalize xFol v w x 48 = y at i1 i2 hk1
  by_cases c0 : y.1.1 = 0
  · refine ⟨JT_0 i2 c0, fun q => absurd q (by omega), fun q => absurd q (by omega), ?_⟩
    rcases hk1 with z | z
    · rw [z]
      exact g4
    · rw [z]
      exact Nat.zero_le _
  · obtain ⟨j1, j2⟩ := i1.resolve_left c0
    refine ⟨?_, fun q u => ?_, fun q => ?_, by rw [j1]; exact g4⟩
    · unfold JX
      rw [j1, j2]
      refine JT_cgB i2 (fun r hr => ?_) (fun q r hr => ?_)
      · unfold Tk tb
        rw [if_pos hr, (c2 r hr).1]
      · rw [j1] at q
        unfold bs
        rw [(c2 r hr).2.2 _ (g3 q).1]
    · rw [j1] at q
      rw [j2] at u
      have e := JT_ent (f := wr v w) i2 (by rw [j1]; exact q) (fun r hr => by unfold Tk; rw [if_pos hr, j2])
      rw [e, j2]
      exact hm q u
    · rw [j1] at q ⊢
      obtain ⟨k1, k2⟩ := g3 q
      exact ⟨by omega, fun r hr => by rw [(c2 r hr).2.1]; exact k2 r hr⟩
/-- from which snaps versions are seen -/
theorem tsn_mem {s : St} {x : Nat} : ∀ {n : Nat}, x ∈ tsn s n ↔ (x = s.1.1 ∨ ∃ t, t < n ∧ (s.2.2.1 t).1 = true ∧ x = (s.2.2.1 t).2.1)
  | 0 => by
    show x ∈ [s.1.1] ↔ _
    rw [List.mem_singleton]
    exact ⟨Or.inl, fun q => q.elim id (fun ⟨t, ht, _⟩ => by omega)⟩
  | n + 1 => by
    have ih := tsn_mem (s := s) (x := x) (n := n)
    show x ∈ (if (s.2.2.1 n).1 then tsn s n ++ [(s.2.2.1 n).2.1] else tsn s n) ↔ _
    by_cases c : (s.2.2.1 n).1 = true
    · rw [if_pos c, List.mem_append, List.mem_singleton, ih]
      constructor
      · rintro ((q | ⟨t, h1, h2⟩) | q)
        · exact Or.inl q
        · exact Or.inr ⟨t, by omega, h2⟩
        · exact Or.inr ⟨n, by omega, c, q⟩
      · rintro (q | ⟨t, h1, h2⟩)
        · exact Or.inl (Or.inl q)
        · by_cases e : t = n
          · rw [e] at h2
            exact Or.inr h2.2
          · exact Or.inl (Or.inr ⟨t, by omega, h2⟩)
    · rw [if_neg c, ih]
      constructor
      · rintro (q | ⟨t, h1, h2⟩)
        · exact Or.inl q
        · exact Or.inr ⟨t, by omega, h2⟩
      · rintro (q | ⟨t, h1, h2⟩)
        · exact Or.inl q
        · by_cases e : t = n
          · rw [e] at h2
            exact absurd h2.1 c
          · exact Or.inr ⟨t, by omega, h2⟩
theorem isn_mem {s : St} {x : Nat} : ∀ {n : Nat}, x ∈ isn s n ↔ (x ∈ tsn s 4 ∨ ∃ i, i < n ∧ (s.2.2.2 i).1.1 = 1 ∧ x = (s.2.2.2 i).1.2.1)
  | 0 => ⟨Or.inl, fun q => q.elim id (fun ⟨t, ht, _⟩ => by omega)⟩
  | n + 1 => by
    have ih := isn_mem (s := s) (x := x) (n := n)
    show x ∈ (if (s.2.2.2 n).1.1 = 1 then isn s n ++ [(s.2.2.2 n).1.2.1] else isn s n) ↔ _
    by_cases c : (s.2.2.2 n).1.1 = 1
    · rw [if_pos c, List.mem_append, List.mem_singleton, ih]
      constructor
      · rintro ((q | ⟨t, h1, h2⟩) | q)
        · exact Or.inl q
        · exact Or.inr ⟨t, by omega, h2⟩
        · exact Or.inr ⟨n, by omega, c, q⟩
      · rintro (q | ⟨t, h1, h2⟩)
        · exact Or.inl (Or.inl q)
        · by_cases e : t = n
          · rw [e] at h2
            exact Or.inr h2.2
          · exact Or.inl (Or.inr ⟨t, by omega, h2⟩)
    · rw [if_neg c, ih]
      constructor
      · rintro (q | ⟨t, h1, h2⟩)
        · exact Or.inl q
        · exact Or.inr ⟨t, by omega, h2⟩
      · rintro (q | ⟨t, h1, h2⟩)
        · exact Or.inl q
        · by_cases e : t = n
          · rw [e] at h2
            exact absurd h2.1 c
          · exact Or.inr ⟨t, by omega, h2⟩
theorem one_mem {S : List Nat} {f b : Nat} : one S f b ↔ ∃ x, x ∈ S ∧ f ≤ x ∧ x < b := by
  constructor
  · rintro ⟨k, h1, h2, h3⟩
    exact ⟨S.getD k 0, mem_getD h1, h2, h3⟩
  · rintro ⟨x, h1, h2, h3⟩
    obtain ⟨k, k1, k2⟩ := mem_at.mp h1
    exact ⟨k, k1, by rw [k2]; exact h2, by rw [k2]; exact h3⟩
theorem kp_iff {l : Vl} {S : List Nat} {k : Nat} (hs : strc l) (h0 : ∀ x, x ∈ S → (vk l 0).1 ≤ x ∧ x < 1000000) (hk : k < l.length) : kp l S k ↔ ∃ x, x ∈ S ∧ vpl l x (l.length - 1) = k := by
  unfold kp
  rw [one_mem]
  constructor
  · rintro ⟨x, h1, h2, h3⟩
    refine ⟨x, h1, (vpl_iff hs (h0 x h1).1 hk).mpr ⟨h2, fun z => ?_⟩⟩
    rw [if_pos z] at h3
    exact h3
  · rintro ⟨x, h1, h2⟩
    obtain ⟨h3, h4⟩ := (vpl_iff hs (h0 x h1).1 hk).mp h2
    refine ⟨x, h1, h3, ?_⟩
    by_cases c : k + 1 < l.length
    · rw [if_pos c]
      exact h4 c
    · rw [if_neg c]
      exact (h0 x h1).2
/-- a row's versions behind a sweep -/
theorem sw_row {l : Vl} {S : List Nat} {sq : Nat} (hl : 1 ≤ l.length) (hs : strc l) (hq : (vk l (l.length - 1)).1 ≤ sq) (hS : sq ∈ S) (h0 : ∀ x, x ∈ S → (vk l 0).1 ≤ x ∧ x < 1000000) : (1 ≤ (kl (kp l S) l.length).length ∧ 1 ≤ (kv l S).length ∧ strc (kv l S) ∧ vk (kv l S) ((kv l S).length - 1) = vk l (l.length - 1)) ∧ ∀ x, x ∈ S → (vk (kv l S) 0).1 ≤ x ∧ vat (kv l S) x = vat l x := by
  have hlast : kp l S (l.length - 1) := (kp_iff hs h0 (by omega)).mpr ⟨sq, hS, (vpl_iff hs (h0 sq hS).1 (by omega)).mpr ⟨hq, fun z => absurd z (by omega)⟩⟩
  have hpw := kl_pw (p := kp l S) l.length
  have hmem : l.length - 1 ∈ kl (kp l S) l.length := kl_mem.mpr ⟨by omega, hlast⟩
  obtain ⟨jl, j1, j2⟩ := mem_at.mp hmem
  have el : (kv l S).length = (kl (kp l S) l.length).length := by unfold kv; rw [List.length_map]
  have hvk : ∀ j, j < (kl (kp l S) l.length).length → vk (kv l S) j = vk l ((kl (kp l S) l.length).getD j 0) := fun j hj => vk_map l _ j hj
  have hstr : strc (kv l S) := fun a b h1 h2 => by
    rw [el] at h2
    rw [hvk a (by omega), hvk b h2]
    have h3 := PW_srtd hpw a b h1 h2
    have h4 := (kl_mem.mp (mem_getD h2)).1
    exact hs _ _ h3 h4
  have hjl : jl = (kl (kp l S) l.length).length - 1 := by
    rcases (show jl = (kl (kp l S) l.length).length - 1 ∨ jl < (kl (kp l S) l.length).length - 1 by omega) with q | q
    · exact q
    · have h3 := PW_srtd hpw jl ((kl (kp l S) l.length).length - 1) q (by omega)
      have h4 := (kl_mem.mp (mem_getD (l := kl (kp l S) l.length) (k := (kl (kp l S) l.length).length - 1) (by omega))).1
      omega
  have hx : ∀ x, x ∈ S → ∃ j, j < (kl (kp l S) l.length).length ∧ (kl (kp l S) l.length).getD j 0 = vpl l x (l.length - 1) := fun x hx => by
    have hle := vpl_le l x (l.length - 1)
    exact mem_at.mp (kl_mem.mpr ⟨by omega, (kp_iff hs h0 (by omega)).mpr ⟨x, hx, rfl⟩⟩)
  have hf : ∀ x, x ∈ S → (vk (kv l S) 0).1 ≤ x := fun x hxS => by
    obtain ⟨j, y1, y2⟩ := hx x hxS
    obtain ⟨i1, i2⟩ := vpl_ok hs (h0 x hxS).1 (l.length - 1) (by omega)
    have h5 : (vk (kv l S) j).1 ≤ x := by rw [hvk j y1, y2]; exact i1
    by_cases c : j = 0
    · rw [c] at h5; exact h5
    · have := hstr 0 j (by omega) (by omega)
      omega
  refine ⟨⟨by omega, by omega, hstr, ?_⟩, fun x hxS => ⟨hf x hxS, ?_⟩⟩
  · rw [el, hvk _ (by omega), ← hjl, j2]
  · obtain ⟨j, y1, y2⟩ := hx x hxS
    have hle := vpl_le l x (l.length - 1)
    obtain ⟨i1, i2⟩ := (vpl_iff hs (h0 x hxS).1 (show vpl l x (l.length - 1) < l.length by omega)).mp rfl
    have h6 : vpl (kv l S) x ((kv l S).length - 1) = j := by
      refine (vpl_iff hstr (hf x hxS) (by omega)).mpr ⟨by rw [hvk j y1, y2]; exact i1, fun z => ?_⟩
      rw [el] at z
      rw [hvk (j + 1) z]
      have h7 := PW_srtd hpw j (j + 1) (by omega) z
      have h8 := (kl_mem.mp (mem_getD z)).1
      rw [y2] at h7
      have h9 := i2 (by omega)
      by_cases c : (kl (kp l S) l.length).getD (j + 1) 0 = vpl l x (l.length - 1) + 1
      · rw [c]; exact h9
      · have := hs (vpl l x (l.length - 1) + 1) _ (show vpl l x (l.length - 1) + 1 < (kl (kp l S) l.length).getD (j + 1) 0 by omega) h8
        omega
    rw [vat_vpl (hf x hxS) (by omega), h6, vat_vpl (h0 x hxS).1 hl, hvk j y1, y2]
