/-! what the contracts ask, out of the invariant -/
theorem JWo.hcl {N : Nat} {w : Wo} (h : JWo N w) : ∀ k, k < 4 → ¬ (w.1.2.2.1 k).1 = true → (tof w k).2.2 = fun _ => none := fun k hk => (h.1.2.2.2.1 k hk).1
theorem JWo.hfs {N : Nat} {w : Wo} (h : JWo N w) : ∀ k, k < 4 → (w.1.2.2.1 k).1 = true → ∀ r, r < 48 → (vk (w.1.2.1 r) 0).1 ≤ (w.1.2.2.1 k).2.1 := fun k hk q => ((h.1.2.2.2.1 k hk).2 q).2
theorem JWo.hq {N : Nat} {w : Wo} (h : JWo N w) (hN : N < 800000) : w.1.1.1 < 899999 := by
  have := h.1.1
  omega
theorem JWo.hkl {N : Nat} {w : Wo} (h : JWo N w) (hN : N < 800000) : ∀ r, r < 48 → 1 ≤ (kl (kp (w.1.2.1 r) (isn w.1 2)) (w.1.2.1 r).length).length := fun r hr => (sw_all h.1 (by omega) r hr).1.1
theorem JWo.hsw {N : Nat} {w : Wo} (h : JWo N w) (hN : N < 800000) : ∀ r, r < 48 → ∀ k, k < (w.1.2.1 r).length → (msn w.1 (w.1.2.1 r) k ↔ kp (w.1.2.1 r) (isn w.1 2) k) := fun r hr k hk => by
  obtain ⟨h1, h2, h3⟩ := h.1.2.2.1 r hr
  obtain ⟨h4, h5⟩ := isn_ok h.1 (by omega)
  rw [kp_iff h2 (h5 r hr) hk]
  have hlast : vpl (w.1.2.1 r) w.1.1.1 ((w.1.2.1 r).length - 1) = (w.1.2.1 r).length - 1 := (vpl_iff h2 (h5 r hr _ h4).1 (by omega)).mpr ⟨h3, fun z => absurd z (by omega)⟩
  constructor
  · rintro (e | ⟨t, t1, t2, t3⟩ | ⟨i, i1, i2, i3⟩)
    · exact ⟨_, h4, by rw [hlast, e]⟩
    · exact ⟨_, isn_mem.mpr (Or.inl (tsn_mem.mpr (Or.inr ⟨t, t1, t2, rfl⟩))), t3⟩
    · exact ⟨_, isn_mem.mpr (Or.inr ⟨i, i1, i2, rfl⟩), i3⟩
  · rintro ⟨x, hx, e⟩
    rcases isn_mem.mp hx with q | ⟨i, i1, i2, i3⟩
    · rcases tsn_mem.mp q with z | ⟨t, t1, t2, t3⟩
      · rw [z, hlast] at e
        exact Or.inl e.symm
      · rw [t3] at e
        exact Or.inr (Or.inl ⟨t, t1, t2, e⟩)
    · rw [i3] at e
      exact Or.inr (Or.inr ⟨i, i1, i2, e⟩)
theorem JWo.hnr {N : Nat} {w : Wo} (h : JWo N w) (hN : N < 700000) : ∀ k, k < 2 → ((xof w k).1.1 = 1 → (xof w k).1.2.2.1 < 48) ∧ (xof w k).1.2.2.2.1 < 800000 := fun k hk => by
  obtain ⟨j1, j2, j3, j4⟩ := h.1.2.2.2.2 k hk
  exact ⟨fun q => (j1.2.2.1 q).1, show (w.1.2.2.2 k).1.2.2.2.1 < 800000 by omega⟩
theorem JWo.hU0 {N : Nat} {w : Wo} (h : JWo N w) : ∀ i, i < 2 → (xof w i).1.1 = 1 → (xof w i).1.2.2.1 < 48 ∧ (xof w i).1.2.2.2.1 = 0 := fun i hi q => by
  obtain ⟨s1, s2, _⟩ := (h.1.2.2.2.2 i hi).1.2.2.1 q
  exact ⟨s1, s2⟩
theorem JWo.hU {N : Nat} {w : Wo} (h : JWo N w) (hN : N < 700000) : ∀ i, i < 2 → ∀ q, uok w.1.2.1 (uit w.1.2.1 w.1.1.2.1 w.1.1.2.2 q (xof w i)) := fun i hi q => JI_uok (JI_uit h.1.2.1 (h.1.2.2.2.2 i hi)) (by omega)
theorem JWo.hal {N : Nat} {w : Wo} (h : JWo N w) : ∀ k, k < 4 → ((∃ i, i < 2 ∧ mkA w.1 (tof w k).2.2 i) ↔ ∃ i, i < 2 ∧ mrA w.1 (tof w k).2.2 i) := fun k _ => by
  constructor
  · rintro ⟨i, hi, q⟩
    exact ⟨i, hi, (mk_mr (h.1.2.2.2.2 i hi)).mp q⟩
  · rintro ⟨i, hi, q⟩
    exact ⟨i, hi, (mk_mr (h.1.2.2.2.2 i hi)).mpr q⟩
theorem JWo.hcap {N : Nat} {w : Wo} (h : JWo N w) : ∀ k, k < 4 → ∀ i, i < 2 → ∀ r, r < 48 → ∀ u, (tof w k).2.2 r = some u → (xFol w.1.2.1 (tof w k).2.2 (w.1.2.2.2 i) r).1.1 = 4 → ∀ c, eo (xFol w.1.2.1 (tof w k).2.2 (w.1.2.2.2 i) r).2.1 u r = some c → ¬ eo (xFol w.1.2.1 (tof w k).2.2 (w.1.2.2.2 i) r).2.1 (lst w.1.2.1 r).2 r = eo (xFol w.1.2.1 (tof w k).2.2 (w.1.2.2.2 i) r).2.1 u r → cap c (xKO (eo (xFol w.1.2.1 (tof w k).2.2 (w.1.2.2.2 i) r).2.1 (lst w.1.2.1 r).2 r) False (xFol w.1.2.1 (tof w k).2.2 (w.1.2.2.2 i) r)).2.2.1 := fun k _ i hi r hr u _ h4 => by
  refine xFol_cap (h.1.2.2.2.2 i hi).1 (fun q => ?_) hr h4
  rcases xFol_1 w.1.2.1 (tof w k).2.2 (w.1.2.2.2 i) r with z | z
  · rw [z] at h4
    omega
  · rw [z] at h4
    exact absurd h4 (by decide)
theorem JWo.hol {N : Nat} {w : Wo} (h : JWo N w) : ∀ i, i < 2 → (xof w i).1.1 = 4 → 1 ≤ (xof w i).2.1.1.length := fun i hi q => (h.1.2.2.2.2 i hi).1.2.2.2.2.2.2.2 (fun z => by rw [show (xof w i).1.1 = (w.1.2.2.2 i).1.1 from rfl] at q; omega)
theorem JWo.hpw {N : Nat} {w : Wo} (h : JWo N w) : ∀ i, i < 2 → PW (xof w i).2.2.1 := fun i hi => (h.1.2.2.2.2 i hi).1.1.1
theorem JWo.hso {N : Nat} {w : Wo} (h : JWo N w) : ∀ i, i < 2 → srtd (xof w i).2.2.1 := fun i hi => PW_srtd (h.hpw i hi)
theorem JWo.hnd {N : Nat} {w : Wo} (h : JWo N w) : ∀ i, i < 2 → ndc (xof w i).2.1.1 := fun i hi => (h.1.2.2.2.2 i hi).1.1.2.2.2.2.1
theorem JWo.hfr {N : Nat} {w : Wo} (h : JWo N w) : ∀ i, i < 2 → 2 * cn (sh2 (xof w i).2.2.1 (tbl w i)) (xof w i).2.2.1.length ≤ (xof w i).2.2.1.length + (tbl w i).length := fun i hi => by
  have := sh2_le (h.hpw i hi) (gth_ok (d := (xof w i).2.1) (f := fun r => (lst w.1.2.1 r).2) (n := 48) (by omega)).1
  have e : (gth (xof w i).2.1 (fun r => (lst w.1.2.1 r).2) 48) = tbl w i := rfl
  rw [e] at this
  omega
theorem MW.hcd {V : zV} {m : Nat} {w : Wo} (h : MW V m w) : ∀ i, i < 2 → cdb (xof w i) := fun i hi => (h.1.2.2.2 i hi).2.2.2.2.2.2.2.2.2.2.2.2.2.2.1
theorem JWo.hrd {N : Nat} {w : Wo} (h : JWo N w) (hN : N < 700000) : ∀ i, i < 2 → (xof w i).1.2.2.2.1 < 900000 := fun i hi => by
  have := (h.hnr hN i hi).2
  omega
theorem MW.eq {V V' : zV} {m lo hi : Nat} {w : Wo} (h : MW V m w) (he : zEq V V' lo hi) (hd : m + 16 ≤ lo ∨ hi ≤ m) : MW V' m w := by
  obtain ⟨h1, h2, h3, h4, h5, h6, h7⟩ := h
  have E := fun (k : Nat) (c : k < 16) => he (m + k) (by omega)
  have E0 : V' m = V m := he m (by omega)
  refine ⟨by rw [E 1 (by decide)]; exact h1, ⟨h2.1, by rw [E0]; exact h2.2.1, fun k hk => by rw [E 2 (by decide)]; exact h2.2.2 k hk⟩, fun i hi => ⟨by rw [E 3 (by decide)]; exact (h3 i hi).1, fun s hs => by rw [E 1 (by decide)]; exact (h3 i hi).2 s hs⟩, ?_, ⟨by rw [E0]; exact h5.1, h5.2⟩, h6.cg (fun j _ => by rw [E0]) (E 9 (by decide)) (E 10 (by decide)), fun k hk => by rw [E 8 (by decide)]; exact h7 k hk⟩
  obtain ⟨g1, g2, g3, g4, g5, g6⟩ := h4
  exact ⟨by rw [E0]; exact g1, by rw [E0]; exact g2, by rw [E0]; exact g3, g4, g5, fun j hj => by rw [E 6 (by decide)]; exact g6 j hj⟩
