/-! the invariant of all that is: over every call -/
def JTr (v : Vs) (sq : Nat) (t : Tr) : Prop := (¬ t.1 = true → t.2.2 = fun _ => none) ∧ (t.1 = true → t.2.1 ≤ sq ∧ ∀ r, r < 48 → (vk (v r) 0).1 ≤ t.2.1)
def JS (N : Nat) (s : St) : Prop := s.1.1 ≤ N ∧ s.1.2.2 ≤ 9 ∧ JV s.2.1 s.1.1 ∧ (∀ t, t < 4 → JTr s.2.1 s.1.1 (s.2.2.1 t)) ∧ ∀ i, i < 2 → JI s.2.1 s.1.1 N (s.2.2.2 i)
def JWo (N : Nat) (w : Wo) : Prop := JS N w.1 ∧ (∀ s, s ∈ w.2.1 → JS N s) ∧ ∀ i s, w.2.2.1 i = some s → JS N s
theorem JI.up {v : Vs} {sq N : Nat} {x : Ix} (h : JI v sq N x) : JI v sq (N + 1) x := ⟨h.1, h.2.1, h.2.2.1, by have := h.2.2.2; omega⟩
theorem JS.up {N : Nat} {s : St} (h : JS N s) : JS (N + 1) s := ⟨by have := h.1; omega, h.2.1, h.2.2.1, h.2.2.2.1, fun i hi => (h.2.2.2.2 i hi).up⟩
theorem JWo.up {N : Nat} {w : Wo} (h : JWo N w) : JWo (N + 1) w := ⟨h.1.up, fun s hs => (h.2.1 s hs).up, fun i s hs => (h.2.2 i s hs).up⟩
theorem JS_t {N k : Nat} {s : St} {x : Tr} (h : JS N s) (hx : JTr s.2.1 s.1.1 x) : JS N (setT s k x) := by
  refine ⟨h.1, h.2.1, h.2.2.1, fun t ht => ?_, h.2.2.2.2⟩
  show JTr s.2.1 s.1.1 (if t = k then x else s.2.2.1 t)
  by_cases e : t = k
  · rw [if_pos e]; exact hx
  · rw [if_neg e]; exact h.2.2.2.1 t ht
theorem JS_x {N k : Nat} {s : St} {x : Ix} (h : JS N s) (hx : JI s.2.1 s.1.1 N x) : JS N (setX s k x) := by
  refine ⟨h.1, h.2.1, h.2.2.1, h.2.2.2.1, fun i hi => ?_⟩
  show JI s.2.1 s.1.1 N (if i = k then x else s.2.2.2 i)
  by_cases e : i = k
  · rw [if_pos e]; exact hx
  · rw [if_neg e]; exact h.2.2.2.2 i hi
theorem JTr_end {v : Vs} {sq : Nat} : JTr v sq tEnd := ⟨fun _ => rfl, fun q => absurd q (by simp [tEnd])⟩
theorem rem_mem {U : List St} {S s : St} (h : s ∈ rem U S) : s ∈ U ∨ s = S := by
  unfold rem at h
  split at h
  · rcases List.mem_append.mp h with q | q
    · exact Or.inl q
    · exact Or.inr (by simpa using q)
  · rcases List.mem_append.mp h with q | q
    · exact Or.inl (List.mem_of_mem_tail q)
    · exact Or.inr (by simpa using q)
theorem JWo_st {N : Nat} {w : Wo} {S : St} (h : JWo N w) (hS : JS (N + 1) S) : JWo (N + 1) (wst w S) := ⟨hS, fun s hs => (rem_mem hs).elim (fun q => (h.2.1 s q).up) (fun q => by rw [q]; exact h.1.up), fun i s hs => (h.2.2 i s hs).up⟩
theorem JV.f {v : Vs} {sq : Nat} (h : JV v sq) : ∀ r, r < 48 → (vk (v r) 0).1 ≤ sq := fun r hr => by
  obtain ⟨h1, h2, h3⟩ := h r hr
  exact first_le h2 h1 h3 0 (by omega)
theorem tn_r {n : Nat} {x : Int32} (hn : n < 1000) (h : rng n x) : tn x < n ∧ x = nI (tn x) := by
  obtain ⟨k, hk, rfl⟩ := h
  rw [tn_k (by omega)]
  exact ⟨hk, rfl⟩
theorem J_begin {N : Nat} {w : Wo} (t : Int32) (h : JWo N w) : JWo (N + 1) (o_begin t w).2 := by
  unfold o_begin
  by_cases c1 : rng 4 t
  · rw [cif_y c1]
    by_cases c2 : opn w t
    · rw [cif_y c2]
      exact h.up
    · rw [cif_n c2]
      refine JWo_st h (JS_t h.1.up ⟨fun q => absurd rfl q, fun _ => ⟨Nat.le_refl _, h.1.2.2.1.f⟩⟩)
  · rw [cif_n c1]
    exact h.up
theorem rfw_o {w : Wo} {t r : Int32} (h : rfw t r w = 0) : rng 4 t ∧ opn w t := by
  unfold rfw at h
  by_cases c1 : rng 4 t ∧ rng 48 r
  · rw [cif_y c1] at h
    by_cases c2 : opn w t
    · exact ⟨c1.1, c2⟩
    · rw [cif_n c2] at h
      exact absurd h (by decide)
  · rw [cif_n c1] at h
    exact absurd h (by decide)
theorem JTr_wr {v : Vs} {sq r : Nat} {t : Tr} {x : Option Nat} (h : JTr v sq t) (ho : t.1 = true) : JTr v sq (tWr t r x) := ⟨fun q => absurd ho q, fun _ => h.2 ho⟩
theorem J_put {N : Nat} {w : Wo} (t r x y z : Int32) (h : JWo N w) : JWo (N + 1) (o_put t r x y z w).2 := by
  unfold o_put
  by_cases c1 : rng 4 t ∧ rng 48 r
  · rw [cif_y c1]
    by_cases c2 : nums x y z
    · rw [cif_y c2]
      by_cases c3 : rfw t r w = 0
      · rw [cif_y c3]
        exact JWo_st h (JS_t h.1.up (JTr_wr (h.1.2.2.2.1 _ (tn_r (by decide) c1.1).1) (rfw_o c3).2))
      · rw [cif_n c3]
        exact h.up
    · rw [cif_n c2]
      exact h.up
  · rw [cif_n c1]
    exact h.up
theorem J_erase {N : Nat} {w : Wo} (t r : Int32) (h : JWo N w) : JWo (N + 1) (o_erase t r w).2 := by
  unfold o_erase
  by_cases c3 : rfw t r w = 0
  · rw [cif_y c3]
    exact JWo_st h (JS_t h.1.up (JTr_wr (h.1.2.2.2.1 _ (tn_r (by decide) (rfw_o c3).1).1) (rfw_o c3).2))
  · rw [cif_n c3]
    exact h.up
theorem J_roll {N : Nat} {w : Wo} (t : Int32) (h : JWo N w) : JWo (N + 1) (o_roll t w).2 := by
  unfold o_roll
  by_cases c1 : rng 4 t
  · rw [cif_y c1]
    by_cases c2 : opn w t
    · rw [cif_y c2]
      exact JWo_st h (JS_t h.1.up JTr_end)
    · rw [cif_n c2]
      exact h.up
  · rw [cif_n c1]
    exact h.up
theorem hnd_0 {s : St} {t : Tr} (h : hnd s t = 0) (hc : ¬ cn (fun r => t.2.2 r ≠ none) 48 = 0) : (¬ ∃ k, k < 2 ∧ (s.2.2.2 k).1.1 = 3) ∧ ¬ ∃ k, k < 2 ∧ mkA s t.2.2 k := by
  unfold hnd at h
  rw [if_neg hc] at h
  by_cases c1 : ∃ k, k < 2 ∧ (s.2.2.2 k).1.1 = 3
  · rw [if_pos c1] at h
    cases h
  · rw [if_neg c1] at h
    refine ⟨c1, fun c4 => ?_⟩
    split at h
    · cases h
    · split at h
      · cases h
      · first
          | cases h
          | (rw [if_pos c4] at h; cases h)
theorem JS_stl {N k : Nat} {s : St} (h : JS N s) (hk : k < 4) (h0 : hnd s (s.2.2.1 k) = 0) : JS (N + 1) (stl s k) := by
  unfold stl
  by_cases c : cn (fun r => (s.2.2.1 k).2.2 r ≠ none) 48 = 0
  · rw [if_pos c]
    exact JS_t (k := k) h.up JTr_end
  · rw [if_neg c]
    obtain ⟨n1, n2⟩ := hnd_0 h0 c
    obtain ⟨g1, g2, g3, g4, g5⟩ := h
    obtain ⟨c1, c2⟩ := cm_v (w := (s.2.2.1 k).2.2) g3
    refine ⟨show s.1.1 + 1 ≤ N + 1 by omega, g2, c1, fun t ht => ?_, fun i hi => ?_⟩
    · show JTr _ _ (if t = k then (false, 0, fun _ => none) else s.2.2.1 t)
      by_cases e : t = k
      · rw [if_pos e]; exact JTr_end
      · rw [if_neg e]
        obtain ⟨t1, t2⟩ := g4 t ht
        refine ⟨t1, fun q => ?_⟩
        obtain ⟨t3, t4⟩ := t2 q
        refine ⟨show _ ≤ s.1.1 + 1 by omega, fun r hr => ?_⟩
        show (vk (vset s.2.1 (s.2.2.1 k).2.2 (s.1.1 + 1) 48 r) 0).1 ≤ _
        rw [(c2 r hr).2.1]
        exact t4 r hr
    · have e : folI s (s.2.2.1 k).2.2 2 i = xFol s.2.1 (s.2.2.1 k).2.2 (s.2.2.2 i) 48 := if_pos hi
      show JI _ _ _ (folI s (s.2.2.1 k).2.2 2 i)
      rw [e]
      exact (xFol_JI g3 (g5 i hi) (fun q => n1 ⟨i, hi, q⟩) (fun q u z => n2 ⟨i, hi, q, u, z⟩)).up
theorem J_commit {N : Nat} {w : Wo} (t : Int32) (h : JWo N w) : JWo (N + 1) (o_commit t w).2 := by
  unfold o_commit
  by_cases c1 : rng 4 t
  · rw [cif_y c1]
    by_cases c2 : opn w t
    · rw [cif_y c2]
      have hS : JS (N + 1) (if hnd w.1 (tof w (tn t)) = 0 then stl w.1 (tn t) else if hnd w.1 (tof w (tn t)) = 1 ∨ hnd w.1 (tof w (tn t)) = 3 then setT w.1 (tn t) tEnd else w.1) := by
        by_cases c3 : hnd w.1 (tof w (tn t)) = 0
        · rw [if_pos c3]
          exact JS_stl h.1 (tn_r (by decide) c1).1 c3
        · rw [if_neg c3]
          by_cases c4 : hnd w.1 (tof w (tn t)) = 1 ∨ hnd w.1 (tof w (tn t)) = 3
          · rw [if_pos c4]
            exact JS_t h.1.up JTr_end
          · rw [if_neg c4]
            exact h.1.up
      exact JWo_st h hS
    · rw [cif_n c2]
      exact h.up
  · rw [cif_n c1]
    exact h.up
/-- the snaps of a sweep -/
theorem isn_ok {N : Nat} {s : St} (h : JS N s) (hN : N < 900000) : s.1.1 ∈ isn s 2 ∧ ∀ r, r < 48 → ∀ x, x ∈ isn s 2 → (vk (s.2.1 r) 0).1 ≤ x ∧ x < 1000000 := by
  obtain ⟨g1, g2, g3, g4, g5⟩ := h
  refine ⟨isn_mem.mpr (Or.inl (tsn_mem.mpr (Or.inl rfl))), fun r hr x hx => ?_⟩
  rcases isn_mem.mp hx with q | ⟨i, i1, i2, i3⟩
  · rcases tsn_mem.mp q with e | ⟨t, t1, t2, t3⟩
    · rw [e]
      exact ⟨g3.f r hr, by omega⟩
    · obtain ⟨t4, t5⟩ := (g4 t t1).2 t2
      rw [t3]
      exact ⟨t5 r hr, by omega⟩
  · obtain ⟨i4, i5⟩ := (g5 i i1).2.2.1 i2
    rw [i3]
    exact ⟨i5 r hr, by omega⟩
theorem sw_all {N : Nat} {s : St} (h : JS N s) (hN : N < 900000) : ∀ r, r < 48 → (1 ≤ (kl (kp (s.2.1 r) (isn s 2)) (s.2.1 r).length).length ∧ 1 ≤ (kv (s.2.1 r) (isn s 2)).length ∧ strc (kv (s.2.1 r) (isn s 2)) ∧ vk (kv (s.2.1 r) (isn s 2)) ((kv (s.2.1 r) (isn s 2)).length - 1) = lst s.2.1 r) ∧ ∀ x, x ∈ isn s 2 → (vk (kv (s.2.1 r) (isn s 2)) 0).1 ≤ x ∧ vat (kv (s.2.1 r) (isn s 2)) x = vat (s.2.1 r) x := fun r hr => by
  obtain ⟨h1, h2, h3⟩ := h.2.2.1 r hr
  obtain ⟨h4, h5⟩ := isn_ok h hN
  exact sw_row h1 h2 h3 h4 (h5 r hr)
theorem kvs_r {v : Vs} {S : List Nat} {r : Nat} (hr : r < 48) : kvs v S 48 r = kv (v r) S := if_pos hr
theorem JS_swp {N : Nat} {s : St} (h : JS N s) (hN : N < 900000) : JS N (swp s) := by
  have hs := sw_all h hN
  obtain ⟨g1, g2, g3, g4, g5⟩ := h
  have hl : ∀ r, r < 48 → lst (kvs s.2.1 (isn s 2) 48) r = lst s.2.1 r := fun r hr => by
    show vk (kvs s.2.1 (isn s 2) 48 r) ((kvs s.2.1 (isn s 2) 48 r).length - 1) = _
    rw [kvs_r hr]
    exact (hs r hr).1.2.2.2
  refine ⟨g1, g2, fun r hr => ?_, fun t ht => ⟨(g4 t ht).1, fun q => ⟨((g4 t ht).2 q).1, fun r hr => ?_⟩⟩, fun i hi => ?_⟩
  · show 1 ≤ (kvs s.2.1 (isn s 2) 48 r).length ∧ strc (kvs s.2.1 (isn s 2) 48 r) ∧ (lst (kvs s.2.1 (isn s 2) 48) r).1 ≤ s.1.1
    rw [hl r hr, kvs_r hr]
    exact ⟨(hs r hr).1.2.1, (hs r hr).1.2.2.1, (g3 r hr).2.2⟩
  · show (vk (kvs s.2.1 (isn s 2) 48 r) 0).1 ≤ _
    rw [kvs_r hr]
    exact ((hs r hr).2 _ (isn_mem.mpr (Or.inl (tsn_mem.mpr (Or.inr ⟨t, ht, q, rfl⟩))))).1
  · obtain ⟨j1, j2, j3, j4⟩ := g5 i hi
    have hm : (s.2.2.2 i).1.1 = 1 → (s.2.2.2 i).1.2.1 ∈ isn s 2 := fun q => isn_mem.mpr (Or.inr ⟨i, hi, q, rfl⟩)
    refine ⟨JT_cgB j1 (fun r hr => ?_) (fun q r hr => ?_), j2, fun q => ⟨(j3 q).1, fun r hr => ?_⟩, j4⟩
    · show eo (s.2.2.2 i).2.1 (lst (kvs s.2.1 (isn s 2) 48) r).2 r = eo (s.2.2.2 i).2.1 (lst s.2.1 r).2 r
      rw [hl r hr]
    · show eo (s.2.2.2 i).2.1 (vat (kvs s.2.1 (isn s 2) 48 r) (s.2.2.2 i).1.2.1) r = eo (s.2.2.2 i).2.1 (vat (s.2.1 r) (s.2.2.2 i).1.2.1) r
      rw [kvs_r hr, ((hs r hr).2 _ (hm q)).2]
    · show (vk (kvs s.2.1 (isn s 2) 48 r) 0).1 ≤ _
      rw [kvs_r hr]
      exact ((hs r hr).2 _ (hm q)).1
theorem J_sweep {N : Nat} {w : Wo} (h : JWo N w) (hN : N < 900000) : JWo (N + 1) (o_sweep w).2 := JWo_st h (JS_swp h.1 hN).up
theorem J_feed {N : Nat} {w : Wo} (x1 x2 x3 x4 x5 : Int32) (h : JWo N w) : JWo (N + 1) (o_feed x1 x2 x3 x4 x5 w).2 := by
  unfold o_feed
  split
  · exact h.up
  · exact h.up
/-- what a definition tells has columns, none twice -/
theorem rO_ok {b : List Nat} : ∀ {f p : Nat} {o : List (Nat × Bool)}, ndc o → (rO b f p o).1 = 0 → ndc (rO b f p o).2.2 ∧ 1 ≤ (rO b f p o).2.2.length
  | 0, p, o, _, h => absurd h (by simp [rO])
  | f + 1, p, o, hd, h => by
    rw [rO_s] at h ⊢
    cases hc : clm b p with
    | none =>
      rw [rO1_n hc] at h ⊢
      rw [if_neg (fun z => absurd z.1 (by simp))] at h
      exact absurd h (by simp)
    | some c =>
      by_cases h2 : po o c < o.length
      · rw [rO1_3 hc h2] at h ⊢
        rw [if_neg (fun z => absurd z.1 (by simp))] at h
        exact absurd h (by simp)
      · have hn : ndc (o ++ [(c, pb (isW b (sk b (p + 1)) 1))]) := ndc_snoc hd (po_no h2)
        rw [rO1_0 hc h2] at h ⊢
        by_cases c2 : (0, pd b p, o ++ [(c, pb (isW b (sk b (p + 1)) 1))]).1 = 0 ∧ cma b (0, pd b p, o ++ [(c, pb (isW b (sk b (p + 1)) 1))]).2.1
        · rw [if_pos c2] at h ⊢
          exact rO_ok hn h
        · rw [if_neg c2]
          exact ⟨hn, by simp⟩
theorem fin_2 {α : Type} {b : List Nat} {p : Nat} {x : α} : (fin b p x).2.2 = x := (fin_1 b p x).2.2
theorem rD_ok {b : List Nat} (h : (rD b).1 = 0) : ndc (rD b).2.2.1 ∧ 1 ≤ (rD b).2.2.1.length := by
  unfold rD at h ⊢
  by_cases c1 : isW b (sk b 0) 0
  · rw [if_pos c1] at h ⊢
    by_cases c2 : (rO b 4 (sk b (sk b 0 + zln 0)) []).1 = 0
    · rw [if_pos c2] at h ⊢
      have hr := rO_ok ndc_nil c2
      generalize rO b 4 (sk b (sk b 0 + zln 0)) [] = X at hr h ⊢
      have e : (rD2 b X.2.1 X.2.2).2.2.1 = X.2.2 := by
        unfold rD2
        by_cases c3 : isW b (wv b X.2.1 2) 3
        · rw [if_pos c3]
          by_cases c4 : (rC b (wv b (wv b X.2.1 2) 3)).1 = 0
          · rw [if_pos c4, fin_2]
          · rw [if_neg c4]
        · rw [if_neg c3, fin_2]
      rw [e]
      exact hr
    · rw [if_neg c2] at h
      exact absurd h c2
  · rw [if_neg c1] at h
    exact absurd h (by simp)
theorem JI_new {v : Vs} {sq N : Nat} {d : Df} (hv : JV v sq) (hd : ndc d.1) (hl : 1 ≤ d.1.length) : JI v sq N ((1, sq, 0, 0, 0), d, [], [], []) := by
  refine ⟨⟨⟨PW_nil, fun c hc => absurd hc (by simp), fun c hc => absurd hc (by simp), fun c hc => absurd hc (by simp), hd, by show 1 < 6; decide⟩, fun q => absurd (show 1 = 0 from q) (by decide), fun _ => ⟨by show 0 < 48; decide, rfl, rfl, fun r hr => ⟨?_, ?_⟩⟩, fun q => absurd (show 2 ≤ 1 from q) (by decide), fun q => absurd (show 1 = 3 from q) (by decide), fun q => absurd (show 1 = 4 from q) (by decide), fun q => absurd (show 1 = 5 from q) (by decide), fun _ => hl⟩, fun q => absurd (show 1 = 4 from q) (by decide), fun _ => ⟨Nat.le_refl _, hv.f⟩, Nat.zero_le _⟩
  · show has [] r (if r < 0 then _ else none)
    rw [if_neg (by omega)]
    exact has_nil r
  · obtain ⟨h1, h2, h3⟩ := hv r hr
    show eo d (vat (v r) sq) r = eo d (lst v r).2 r
    rw [vat_last h2 h1 h3]
    rfl
theorem J_build {N : Nat} {w : Wo} (i n : Int32) (h : JWo N w) : JWo (N + 1) (o_build i n w).2 := by
  unfold o_build
  by_cases c1 : rng 2 i
  · rw [cif_y c1]
    by_cases c2 : rng ((tpb w).length + 1) n
    · rw [cif_y c2]
      by_cases c3 : (xof w (tn i)).1.1 = 0
      · rw [if_pos c3]
        unfold bld
        by_cases c4 : (rD ((tpb w).take (tn n))).1 = 0
        · rw [if_pos c4]
          obtain ⟨k1, k2⟩ := rD_ok c4
          have h' : JWo N (setTp w [] 0 (-1)) := h
          exact JWo_st h' (JS_x h.1.up (JI_new h.1.2.2.1 k1 k2))
        · rw [if_neg c4]
          exact h.up
      · rw [if_neg c3]
        exact h.up
    · rw [cif_n c2]
      exact h.up
  · rw [cif_n c1]
    exact h.up
theorem J_work {N : Nat} {w : Wo} (i n : Int32) (h : JWo N w) : JWo (N + 1) (o_work i n w).2 := by
  unfold o_work
  by_cases c1 : rng 2 i
  · rw [cif_y c1]
    by_cases c2 : rng 201 n ∧ ¬ n = 0
    · rw [cif_y c2]
      by_cases c3 : und (xof w (tn i))
      · rw [cif_y c3]
        exact JWo_st h (JS_x h.1.up (JI_uit h.1.2.1 (h.1.2.2.2.2 _ (tn_r (by decide) c1).1)).up)
      · rw [cif_n c3]
        exact h.up
    · rw [cif_n c2]
      exact h.up
  · rw [cif_n c1]
    exact h.up
theorem JI_go {v : Vs} {sq N : Nat} {x : Ix} (h : JI v sq N x) (h5 : x.1.1 = 5) : JI v sq (N + 1) (xGo x) := by
  obtain ⟨j1, j2, j3, j4⟩ := h
  refine ⟨JT_turn (x := x) (y1 := (2, x.1.2.1, x.1.2.2.1, x.1.2.2.2.1 + 1, x.1.2.2.2.2)) j1 (by omega) (j1.2.2.2.2.2.2.1 h5) (Or.inl rfl), fun q => absurd (show 2 = 4 from q) (by decide), fun q => absurd (show 2 = 1 from q) (by decide), ?_⟩
  show x.1.2.2.2.1 + 1 ≤ N + 1 + 10
  omega
theorem J_takeUp {N : Nat} {w : Wo} (i : Int32) (h : JWo N w) : JWo (N + 1) (o_takeUp i w).2 := by
  unfold o_takeUp
  by_cases c1 : rng 2 i
  · rw [cif_y c1]
    by_cases c3 : (xof w (tn i)).1.1 = 5
    · rw [if_pos c3]
      exact JWo_st h (JS_x h.1.up (JI_go (h.1.2.2.2.2 _ (tn_r (by decide) c1).1) c3))
    · rw [if_neg c3]
      exact h.up
  · rw [cif_n c1]
    exact h.up
theorem JI_clear {v : Vs} {sq N e : Nat} : JI v sq N (xClear e) := ⟨JT_clear _ _ e, fun q => absurd (show 0 = 4 from q) (by decide), fun q => absurd (show 0 = 1 from q) (by decide), Nat.zero_le _⟩
theorem J_giveUp {N : Nat} {w : Wo} (i : Int32) (h : JWo N w) : JWo (N + 1) (o_giveUp i w).2 := by
  unfold o_giveUp
  by_cases c1 : rng 2 i
  · rw [cif_y c1]
    by_cases c3 : (xof w (tn i)).1.1 = 0
    · rw [if_pos c3]
      exact h.up
    · rw [if_neg c3]
      exact JWo_st h (JS_x h.1.up JI_clear)
  · rw [cif_n c1]
    exact h.up
theorem J_terms {N : Nat} {w : Wo} (x v : Int32) (h : JWo N w) : JWo (N + 1) (o_terms x v w).2 := by
  unfold o_terms
  by_cases c1 : x = 0
  · rw [if_pos c1]
    by_cases c2 : rng 21 v
    · rw [cif_y c2]
      exact JWo_st h h.1.up
    · rw [cif_n c2]
      exact h.up
  · rw [if_neg c1]
    by_cases c3 : x = nI 1
    · rw [if_pos c3]
      by_cases c2 : rng 10 v ∧ ¬ v = 0
      · rw [cif_y c2]
        have := (tn_r (by decide) c2.1).1
        exact JWo_st h ⟨h.1.up.1, show tn v ≤ 9 by omega, h.1.up.2.2⟩
      · rw [cif_n c2]
        exact h.up
    · rw [if_neg c3]
      exact h.up
theorem mem_getS {l : List St} {k : Nat} (h : k < l.length) : l.getD k st0 ∈ l := by
  rw [List.getD_eq_getElem?_getD, List.getElem?_eq_getElem h]
  exact List.getElem_mem h
theorem J_undo {N : Nat} {w : Wo} (n : Int32) (h : JWo N w) (hl : w.2.1.length ≤ 8) : JWo (N + 1) (o_undo n w).2 := by
  unfold o_undo
  by_cases c1 : rng (w.2.1.length + 1) n ∧ ¬ n = 0
  · rw [cif_y c1]
    obtain ⟨k1, k2⟩ := tn_r (by omega) c1.1
    have h0 : ¬ tn n = 0 := fun q => c1.2 (by rw [k2, q]; rfl)
    exact ⟨(h.2.1 _ (mem_getS (by omega))).up, fun s hs => (h.2.1 s (List.mem_of_mem_take hs)).up, h.up.2.2⟩
  · rw [cif_n c1]
    exact h.up
theorem J_image {N : Nat} {w : Wo} (i : Int32) (h : JWo N w) : JWo (N + 1) (o_image i w).2 := by
  unfold o_image
  by_cases c1 : rng 2 i
  · rw [cif_y c1]
    refine ⟨h.1.up, h.up.2.1, fun j s hs => ?_⟩
    have hs : up1 w.2.2.1 (tn i) (some w.1) j = some s := hs
    unfold up1 at hs
    by_cases e : j = tn i
    · rw [if_pos e] at hs
      cases hs
      exact h.1.up
    · rw [if_neg e] at hs
      exact (h.2.2 j s hs).up
  · rw [cif_n c1]
    exact h.up
theorem J_restore {N : Nat} {w : Wo} (i : Int32) (h : JWo N w) : JWo (N + 1) (o_restore i w).2 := by
  unfold o_restore
  by_cases c1 : rng 2 i
  · rw [cif_y c1]
    cases hq : w.2.2.1 (tn i) with
    | none => exact h.up
    | some s => exact ⟨(h.2.2 _ s hq).up, fun s hs => absurd hs (by simp), h.up.2.2⟩
  · rw [cif_n c1]
    exact h.up
theorem J_query {N : Nat} {w : Wo} (n : Int32) (h : JWo N w) : JWo (N + 1) (o_query n w).2 := by
  unfold o_query
  by_cases c1 : rng ((tpb w).length + 1) n
  · rw [cif_y c1]
    unfold qry
    by_cases c4 : (rQ ((tpb w).take (tn n))).1 = 0
    · rw [if_pos c4]
      exact h.up
    · rw [if_neg c4]
      exact h.up
  · rw [cif_n c1]
    exact h.up
/-- at first -/
theorem JS_0 : JS 0 st0 := by
  refine ⟨Nat.le_refl _, by show 5 ≤ 9; decide, fun r _ => ⟨by show 1 ≤ 1; decide, fun a b h1 h2 => ?_, by show 0 ≤ 0; decide⟩, fun t _ => ⟨fun _ => rfl, fun q => absurd (show false = true from q) (by decide)⟩, fun i _ => JI_clear⟩
  have h3 : b < 1 := h2
  omega
