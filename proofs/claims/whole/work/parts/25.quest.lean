/-! Question: (conditions, keys) -/
abbrev Cd : Type := Nat × Nat × Nat
abbrev Qu : Type := List Cd × List (Nat × Bool)
def ck (q : List Cd) (k : Nat) : Cd := q.getD k (0, 0, 0)
def sQu (L : zL) (a : Nat) : Prop := L a = some (.inr (.inr (5, [some (.ref (a + 1)), none, some (.ref (a + 2))]))) ∧ L (a + 1) = some (.inr (.inl (6, [some (a + 5), some (a + 6), some (a + 7), some (a + 8)]))) ∧ sOr L (a + 2) ∧ ∀ k, k < 4 → sCo L (a + 5 + k)
def QU (V : zV) (a : Nat) (q : Qu) : Prop := V a 1 = nI q.1.length ∧ q.1.length ≤ 4 ∧ (∀ k, k < q.1.length → CO V (a + 5 + k) (ck q.1 k).1 (ck q.1 k).2.1 (ck q.1 k).2.2) ∧ OR V (a + 2) q.2
theorem QU.eq {V V' : zV} {a lo hi : Nat} {q : Qu} (h : QU V a q) (he : zEq V V' lo hi) (hd : a + 9 ≤ lo ∨ hi ≤ a) : QU V' a q := by
  obtain ⟨h1, h2, h3, h4⟩ := h
  exact ⟨by rw [he a (by omega)]; exact h1, h2, fun k hk => (h3 k hk).eq he (by omega), h4.eq he (by omega)⟩
theorem c4_at (a k : Nat) (h : k < 4) : ([some (a + 5), some (a + 6), some (a + 7), some (a + 8)] : List (Option Nat))[k]? = some (some (a + 5 + k)) := by
  rcases (show k = 0 ∨ k = 1 ∨ k = 2 ∨ k = 3 by omega) with rfl | rfl | rfl | rfl <;> rfl
def fo (x : Cd) (p : Nat) : Prop := ft x.2.1 (pt p x.1) x.2.2
def asL (q : List Cd) (c : Nat) : Prop := ∃ k, k < q.length ∧ ((ck q k).1 = c ∧ (ck q k).2.1 = 0)
noncomputable def stc (q : List Cd) (o : List (Nat × Bool)) : Nat := fs (fun j => ¬ asL q (o.getD j (0, false)).1) o.length
def inS (o : List (Nat × Bool)) (x : Cd) (m : Nat) : Prop := ¬ x.2.1 = 1 ∧ po o x.1 < o.length ∧ po o x.1 < m
noncomputable def stz (q : List Cd) (o : List (Nat × Bool)) : Nat := cn (fun k => inS o (ck q k) (stc q o + 1)) q.length
def isR (q : List Cd) (o : List (Nat × Bool)) (m r : Nat) : Prop := ∀ k, k < q.length → inS o (ck q k) m → ft (ck q k).2.1 (tu (o.getD (po o (ck q k).1) (0, false)).2 (pt r (po o (ck q k).1))) (ck q k).2.2
noncomputable def rby (q : List Cd) (o : List (Nat × Bool)) (l : List Nat) : Nat := cn (fun k => isR q o (stc q o + 1) (l.getD k 0 / 64)) l.length + 1
def ask (q : List Cd) (x : Cd) : Prop := ∃ k, k < q.length ∧ ((ck q k).1 = x.1 ∧ (ck q k).2.1 = x.2.1 ∧ (ck q k).2.2 = x.2.2)
def srv (q : List Cd) (x : Ix) : Prop := x.1.1 = 4 ∧ (x.2.1.2.2.1 = true → ask q x.2.1.2.2.2) ∧ 0 < stz q x.2.1.1

set_option maxHeartbeats 4000000 in
set_option maxRecDepth 100000 in
theorem lp_QUholds {D : zD} {z0 nx : Nat} {L : zL} {V : zV} {a p : Nat} {q : Qu} (hs : sQu L a) (h : QU V a q) (hp : p < 1000000) : ∀ (fu : Nat) (i : Nat), q.1.length - i = fu → i ≤ q.1.length → (∀ k, k < i → (fo (ck q.1 k) p)) → Z D z0 3 0 0 mX5_holdsFor 0 0 2 [some (.ref a), some (.int (nI p)), some (.int (nI i))] [] L V nx (zi (zb (∀ k, k < q.1.length → (fo (ck q.1 k) p))) L V nx) := by
  intro fu
  induction fu using Nat.strongRecOn with
  | ind fu ih =>
    intro i h_fu h_0 h_1
    have hs0 := hs
    have h0 := h
    obtain ⟨h1, h2, h3, h4⟩ := hs
    obtain ⟨g1, g2, g3, g4⟩ := h
    refine z_iload_n dX5_holdsFor_2 rfl ?_
    refine z_aload_n dX5_holdsFor_3 rfl ?_
    refine z_getIe dX5_holdsFor_4 fX5_25 (by first | assumption | exact And.left (by assumption)) rfl (by first | assumption | exact zup_s _ _ _ _ | rfl) ?_
    refine z_icmp_geN (tgt := 31) dX5_holdsFor_7 (by decide) (by omega) (by omega) (fun c_7 => ?_) (fun c_7 => ?_)
    · refine z_iconst (v := nI 1) dX5_holdsFor_31 rfl ?_
      refine z_zreturn dX5_holdsFor_32 (Nat.le_of_ble_eq_true rfl) (Nat.le_of_ble_eq_true rfl) rfl (by first | exact Or.inl rfl | exact Or.inr rfl | exact zb_01 _ | assumption) ?_
      exact zi_r (zb_t (fun k hk => h_1 k (by omega))).symm
    · have q1 := c4_at a i (by omega)
      have p1 := h4 i (by omega)
      have p2 := p1
      unfold sCo at p2
      have x0 := g3 i (by omega)
      obtain ⟨x1, x2, x3, x4, x5, x6⟩ := g3 i (by omega)
      refine z_aload_n dX5_holdsFor_10 rfl ?_
      refine z_getR dX5_holdsFor_11 fX5_11 (by first | assumption | exact And.left (by assumption)) rfl ?_
      refine z_iload_n dX5_holdsFor_14 rfl ?_
      refine z_aaldN dX5_holdsFor_15 (by first | assumption | exact And.left (by assumption)) (fun _ => rfl) (by exact Nat.le_of_ble_eq_true rfl) (by assumption) ?_
      refine z_iload_n dX5_holdsFor_16 rfl ?_
      refine z_callV1i dX5_holdsFor_17 kX0_holdsFor lX5_32 (by first | assumption | exact And.left (by assumption)) rfl (s_holdsFor p1 x0 hp) (Nat.le_of_ble_eq_true rfl) (Nat.le_of_ble_eq_true rfl) ⟨Nat.le_of_ble_eq_true rfl, Nat.le_of_ble_eq_true rfl⟩ ?_
      refine z_if_neB (tgt := 25) dX5_holdsFor_20 (by decide) (fun c_20 => ?_) (fun c_20 => ?_)
      · refine z_incN dX5_holdsFor_25 rfl rfl ?_
        refine z_goto (tgt := 2) dX5_holdsFor_28 (by decide) ?_
        exact ih _ (by omega) (i + 1) rfl (by omega) (lt_s h_1 c_20)
      · refine z_iconst (v := nI 0) dX5_holdsFor_23 rfl ?_
        refine z_zreturn dX5_holdsFor_24 (Nat.le_of_ble_eq_true rfl) (Nat.le_of_ble_eq_true rfl) rfl (by first | exact Or.inl rfl | exact Or.inr rfl | exact zb_01 _ | assumption) ?_
        exact zi_r (zb_f (fun q => c_20 (q i (by omega)))).symm

set_option maxHeartbeats 4000000 in
set_option maxRecDepth 100000 in
theorem s_QUholds {D : zD} {z0 nx : Nat} {L : zL} {V : zV} {a p : Nat} {q : Qu} (hs : sQu L a) (h : QU V a q) (hp : p < 1000000) : Sp D z0 3 0 0 mX5_holdsFor [.ref a, .int (nI p)] L V nx (zi (zb (∀ k, k < q.1.length → (fo (ck q.1 k) p))) L V nx) := by
  refine Sp.of 1 (by decide) rfl rfl (Nat.le_of_ble_eq_true rfl) ?_
  refine z_iconst (v := nI 0) dX5_holdsFor_0 rfl ?_
  refine z_istore_n dX5_holdsFor_1 (Nat.le_of_ble_eq_true rfl) rfl ?_
  exact lp_QUholds hs h hp _ 0 rfl (by omega) (fun k hk => absurd hk (by omega))

set_option maxHeartbeats 4000000 in
set_option maxRecDepth 100000 in
theorem lp_asks {D : zD} {z0 nx : Nat} {L : zL} {V : zV} {a b : Nat} {x : Cd} {q : Qu} (hs : sQu L a) (h : QU V a q) (hs2 : sCo L b) (hx : CO V b x.1 x.2.1 x.2.2) : ∀ (fu : Nat) (i : Nat), q.1.length - i = fu → i ≤ q.1.length → (∀ k, k < i → ¬ ((ck q.1 k).1 = x.1 ∧ (ck q.1 k).2.1 = x.2.1 ∧ (ck q.1 k).2.2 = x.2.2)) → Z D z0 2 0 0 mX5_asksFor 0 0 2 [some (.ref a), some (.ref b), some (.int (nI i))] [] L V nx (zi (zb (∃ k, k < q.1.length ∧ ((ck q.1 k).1 = x.1 ∧ (ck q.1 k).2.1 = x.2.1 ∧ (ck q.1 k).2.2 = x.2.2))) L V nx) := by
  intro fu
  induction fu using Nat.strongRecOn with
  | ind fu ih =>
    intro i h_fu h_0 h_1
    have hs0 := hs
    have h0 := h
    obtain ⟨h1, h2, h3, h4⟩ := hs
    obtain ⟨g1, g2, g3, g4⟩ := h
    refine z_iload_n dX5_asksFor_2 rfl ?_
    refine z_aload_n dX5_asksFor_3 rfl ?_
    refine z_getIe dX5_asksFor_4 fX5_25 (by first | assumption | exact And.left (by assumption)) rfl (by first | assumption | exact zup_s _ _ _ _ | rfl) ?_
    refine z_icmp_geN (tgt := 31) dX5_asksFor_7 (by decide) (by omega) (by omega) (fun c_7 => ?_) (fun c_7 => ?_)
    · refine z_iconst (v := nI 0) dX5_asksFor_31 rfl ?_
      refine z_zreturn dX5_asksFor_32 (Nat.le_of_ble_eq_true rfl) (Nat.le_of_ble_eq_true rfl) rfl (by first | exact Or.inl rfl | exact Or.inr rfl | exact zb_01 _ | assumption) ?_
      exact zi_r (zb_f (fun q => by obtain ⟨k, k1, k2⟩ := q; exact h_1 k (by omega) k2)).symm
    · have q1 := c4_at a i (by omega)
      have p1 := h4 i (by omega)
      have p2 := p1
      unfold sCo at p2
      have x0 := g3 i (by omega)
      obtain ⟨x1, x2, x3, x4, x5, x6⟩ := g3 i (by omega)
      refine z_aload_n dX5_asksFor_10 rfl ?_
      refine z_getR dX5_asksFor_11 fX5_11 (by first | assumption | exact And.left (by assumption)) rfl ?_
      refine z_iload_n dX5_asksFor_14 rfl ?_
      refine z_aaldN dX5_asksFor_15 (by first | assumption | exact And.left (by assumption)) (fun _ => rfl) (by exact Nat.le_of_ble_eq_true rfl) (by assumption) ?_
      refine z_aload_n dX5_asksFor_16 rfl ?_
      refine z_callV1i dX5_asksFor_17 kX0_isAs lX5_92 (by first | assumption | exact And.left (by assumption)) rfl (s_isAs p1 hs2 x0 hx) (Nat.le_of_ble_eq_true rfl) (Nat.le_of_ble_eq_true rfl) ⟨Nat.le_of_ble_eq_true rfl, Nat.le_of_ble_eq_true rfl⟩ ?_
      refine z_if_eqB (tgt := 25) dX5_asksFor_20 (by decide) (fun c_20 => ?_) (fun c_20 => ?_)
      · refine z_incN dX5_asksFor_25 rfl rfl ?_
        refine z_goto (tgt := 2) dX5_asksFor_28 (by decide) ?_
        exact ih _ (by omega) (i + 1) rfl (by omega) (lt_s h_1 c_20)
      · refine z_iconst (v := nI 1) dX5_asksFor_23 rfl ?_
        refine z_zreturn dX5_asksFor_24 (Nat.le_of_ble_eq_true rfl) (Nat.le_of_ble_eq_true rfl) rfl (by first | exact Or.inl rfl | exact Or.inr rfl | exact zb_01 _ | assumption) ?_
        exact zi_r (zb_t ⟨i, by omega, c_20⟩).symm

set_option maxHeartbeats 4000000 in
set_option maxRecDepth 100000 in
theorem s_asks {D : zD} {z0 nx : Nat} {L : zL} {V : zV} {a b : Nat} {x : Cd} {q : Qu} (hs : sQu L a) (h : QU V a q) (hs2 : sCo L b) (hx : CO V b x.1 x.2.1 x.2.2) : Sp D z0 2 0 0 mX5_asksFor [.ref a, .ref b] L V nx (zi (zb (∃ k, k < q.1.length ∧ ((ck q.1 k).1 = x.1 ∧ (ck q.1 k).2.1 = x.2.1 ∧ (ck q.1 k).2.2 = x.2.2))) L V nx) := by
  refine Sp.of 1 (by decide) rfl rfl (Nat.le_of_ble_eq_true rfl) ?_
  refine z_iconst (v := nI 0) dX5_asksFor_0 rfl ?_
  refine z_istore_n dX5_asksFor_1 (Nat.le_of_ble_eq_true rfl) rfl ?_
  exact lp_asks hs h hs2 hx _ 0 rfl (by omega) (fun k hk => absurd hk (by omega))

set_option maxHeartbeats 4000000 in
set_option maxRecDepth 100000 in
theorem lp_asL {D : zD} {z0 nx : Nat} {L : zL} {V : zV} {a c : Nat} {q : Qu} (hs : sQu L a) (h : QU V a q) (hc : c < 2147483648) : ∀ (fu : Nat) (i : Nat), q.1.length - i = fu → i ≤ q.1.length → (∀ k, k < i → ¬ ((ck q.1 k).1 = c ∧ (ck q.1 k).2.1 = 0)) → Z D z0 1 0 0 mX5_isAskedByLike 0 0 2 [some (.ref a), some (.int (nI c)), some (.int (nI i))] [] L V nx (zi (zb (∃ k, k < q.1.length ∧ ((ck q.1 k).1 = c ∧ (ck q.1 k).2.1 = 0))) L V nx) := by
  intro fu
  induction fu using Nat.strongRecOn with
  | ind fu ih =>
    intro i h_fu h_0 h_1
    have hs0 := hs
    have h0 := h
    obtain ⟨h1, h2, h3, h4⟩ := hs
    obtain ⟨g1, g2, g3, g4⟩ := h
    refine z_iload_n dX5_isAskedByLike_2 rfl ?_
    refine z_aload_n dX5_isAskedByLike_3 rfl ?_
    refine z_getIe dX5_isAskedByLike_4 fX5_25 (by first | assumption | exact And.left (by assumption)) rfl (by first | assumption | exact zup_s _ _ _ _ | rfl) ?_
    refine z_icmp_geN (tgt := 43) dX5_isAskedByLike_7 (by decide) (by omega) (by omega) (fun c_7 => ?_) (fun c_7 => ?_)
    · refine z_iconst (v := nI 0) dX5_isAskedByLike_43 rfl ?_
      refine z_zreturn dX5_isAskedByLike_44 (Nat.le_of_ble_eq_true rfl) (Nat.le_of_ble_eq_true rfl) rfl (by first | exact Or.inl rfl | exact Or.inr rfl | exact zb_01 _ | assumption) ?_
      exact zi_r (zb_f (fun q => by obtain ⟨k, k1, k2⟩ := q; exact h_1 k (by omega) k2)).symm
    · have q1 := c4_at a i (by omega)
      have p1 := h4 i (by omega)
      have p2 := p1
      unfold sCo at p2
      have x0 := g3 i (by omega)
      obtain ⟨x1, x2, x3, x4, x5, x6⟩ := g3 i (by omega)
      refine z_aload_n dX5_isAskedByLike_10 rfl ?_
      refine z_getR dX5_isAskedByLike_11 fX5_11 (by first | assumption | exact And.left (by assumption)) rfl ?_
      refine z_iload_n dX5_isAskedByLike_14 rfl ?_
      refine z_aaldN dX5_isAskedByLike_15 (by first | assumption | exact And.left (by assumption)) (fun _ => rfl) (by exact Nat.le_of_ble_eq_true rfl) (by assumption) ?_
      refine z_getIe dX5_isAskedByLike_16 fX5_102 (by first | assumption | exact And.left (by assumption)) rfl (by first | assumption | exact zup_s _ _ _ _ | rfl) ?_
      refine z_iload_n dX5_isAskedByLike_19 rfl ?_
      refine z_icmp_neN (tgt := 37) dX5_isAskedByLike_20 (by decide) (by omega) (by omega) (fun c_20 => ?_) (fun c_20 => ?_)
      · refine z_incN dX5_isAskedByLike_37 rfl rfl ?_
        refine z_goto (tgt := 2) dX5_isAskedByLike_40 (by decide) ?_
        first
          | exact ih _ (by omega) (i + 1) rfl (by omega) (lt_s h_1 (fun q => c_20 q.1))
          | exact ih _ (by omega) (i + 1) rfl (by omega) (lt_s h_1 (fun q => c_32 q.2))
      · refine z_aload_n dX5_isAskedByLike_23 rfl ?_
        refine z_getR dX5_isAskedByLike_24 fX5_11 (by first | assumption | exact And.left (by assumption)) rfl ?_
        refine z_iload_n dX5_isAskedByLike_27 rfl ?_
        refine z_aaldN dX5_isAskedByLike_28 (by first | assumption | exact And.left (by assumption)) (fun _ => rfl) (by exact Nat.le_of_ble_eq_true rfl) (by assumption) ?_
        refine z_getIe dX5_isAskedByLike_29 fX5_105 (by first | assumption | exact And.left (by assumption)) rfl (by first | assumption | exact zup_s _ _ _ _ | rfl) ?_
        refine z_if_neN (tgt := 37) dX5_isAskedByLike_32 (by decide) (by omega) (fun c_32 => ?_) (fun c_32 => ?_)
        · refine z_incN dX5_isAskedByLike_37 rfl rfl ?_
          refine z_goto (tgt := 2) dX5_isAskedByLike_40 (by decide) ?_
          first
            | exact ih _ (by omega) (i + 1) rfl (by omega) (lt_s h_1 (fun q => c_20 q.1))
            | exact ih _ (by omega) (i + 1) rfl (by omega) (lt_s h_1 (fun q => c_32 q.2))
        · refine z_iconst (v := nI 1) dX5_isAskedByLike_35 rfl ?_
          refine z_zreturn dX5_isAskedByLike_36 (Nat.le_of_ble_eq_true rfl) (Nat.le_of_ble_eq_true rfl) rfl (by first | exact Or.inl rfl | exact Or.inr rfl | exact zb_01 _ | assumption) ?_
          exact zi_r (zb_t ⟨i, by omega, c_20, c_32⟩).symm

set_option maxHeartbeats 4000000 in
set_option maxRecDepth 100000 in
theorem s_asL {D : zD} {z0 nx : Nat} {L : zL} {V : zV} {a c : Nat} {q : Qu} (hs : sQu L a) (h : QU V a q) (hc : c < 2147483648) : Sp D z0 1 0 0 mX5_isAskedByLike [.ref a, .int (nI c)] L V nx (zi (zb (∃ k, k < q.1.length ∧ ((ck q.1 k).1 = c ∧ (ck q.1 k).2.1 = 0))) L V nx) := by
  refine Sp.of 1 (by decide) rfl rfl (Nat.le_of_ble_eq_true rfl) ?_
  refine z_iconst (v := nI 0) dX5_isAskedByLike_0 rfl ?_
  refine z_istore_n dX5_isAskedByLike_1 (Nat.le_of_ble_eq_true rfl) rfl ?_
  exact lp_asL hs h hc _ 0 rfl (by omega) (fun k hk => absurd hk (by omega))

set_option maxHeartbeats 4000000 in
set_option maxRecDepth 100000 in
theorem lp_stc {D : zD} {z0 nx : Nat} {L : zL} {V : zV} {a b : Nat} {q : Qu} {o : List (Nat × Bool)} (hs : sQu L a) (h : QU V a q) (hs2 : sOr L b) (ho : OR V b o) : ∀ (fu : Nat) (i : Nat), o.length - i = fu → i ≤ o.length → (∀ k, k < i → ¬ ¬ asL q.1 (o.getD k (0, false)).1) → Z D z0 2 0 0 mX5_stretchColumns 0 0 2 [some (.ref a), some (.ref b), some (.int (nI i))] [] L V nx (zi (nI (stc q.1 o + 1)) L V nx) := by
  intro fu
  induction fu using Nat.strongRecOn with
  | ind fu ih =>
    intro i h_fu h_0 h_1
    have hs0 := hs
    have h0 := h
    obtain ⟨h1, h2, h3, h4⟩ := hs
    obtain ⟨g1, g2, g3, g4⟩ := h
    have hs20 := hs2
    have ho0 := ho
    obtain ⟨k1, k2, k3⟩ := hs2
    obtain ⟨r1, r2, r3, r4, r5⟩ := ho
    refine z_iload_n dX5_stretchColumns_2 rfl ?_
    refine z_aload_n dX5_stretchColumns_3 rfl ?_
    refine z_getIe dX5_stretchColumns_4 fX5_95 (by first | assumption | exact And.left (by assumption)) rfl (by first | assumption | exact zup_s _ _ _ _ | rfl) ?_
    refine z_icmp_geN (tgt := 29) dX5_stretchColumns_7 (by decide) (by omega) (by omega) (fun c_7 => ?_) (fun c_7 => ?_)
    · refine z_iload_n dX5_stretchColumns_29 rfl ?_
      refine z_iconst (v := nI 1) dX5_stretchColumns_30 rfl ?_
      refine z_addN dX5_stretchColumns_31 ?_
      refine z_ireturn dX5_stretchColumns_32 (Nat.le_of_ble_eq_true rfl) (Nat.le_of_ble_eq_true rfl) rfl ?_
      first
        | exact zi_r (by rw [stc, fs_eq (i := i) h_1 (by omega) (fun _ => c_20)])
        | exact zi_r (by rw [stc, fs_eq (i := i) h_1 (by omega) (fun q => absurd q (by omega))])
    · refine z_aload_n dX5_stretchColumns_10 rfl ?_
      refine z_aload_n dX5_stretchColumns_11 rfl ?_
      refine z_getR dX5_stretchColumns_12 fX5_96 (by first | assumption | exact And.left (by assumption)) rfl ?_
      refine z_iload_n dX5_stretchColumns_15 rfl ?_
      refine z_ialdN dX5_stretchColumns_16 (by first | assumption | exact And.left (by assumption)) (by omega) (by decide) (r3 i (by omega)).1 ?_
      have b1 := r4 i (by omega)
      refine z_callV1i dX5_stretchColumns_17 kX5_isAskedByLike lX5_99 (by first | assumption | exact And.left (by assumption)) rfl (s_asL hs0 h0 (by omega)) (Nat.le_of_ble_eq_true rfl) (Nat.le_of_ble_eq_true rfl) ⟨Nat.le_of_ble_eq_true rfl, Nat.le_of_ble_eq_true rfl⟩ ?_
      refine z_if_eqB (tgt := 29) dX5_stretchColumns_20 (by decide) (fun c_20 => ?_) (fun c_20 => ?_)
      · refine z_iload_n dX5_stretchColumns_29 rfl ?_
        refine z_iconst (v := nI 1) dX5_stretchColumns_30 rfl ?_
        refine z_addN dX5_stretchColumns_31 ?_
        refine z_ireturn dX5_stretchColumns_32 (Nat.le_of_ble_eq_true rfl) (Nat.le_of_ble_eq_true rfl) rfl ?_
        first
          | exact zi_r (by rw [stc, fs_eq (i := i) h_1 (by omega) (fun _ => c_20)])
          | exact zi_r (by rw [stc, fs_eq (i := i) h_1 (by omega) (fun q => absurd q (by omega))])
      · refine z_incN dX5_stretchColumns_23 rfl rfl ?_
        refine z_goto (tgt := 2) dX5_stretchColumns_26 (by decide) ?_
        exact ih _ (by omega) (i + 1) rfl (by omega) (lt_s h_1 (fun q => q c_20))

set_option maxHeartbeats 4000000 in
set_option maxRecDepth 100000 in
theorem s_stc {D : zD} {z0 nx : Nat} {L : zL} {V : zV} {a b : Nat} {q : Qu} {o : List (Nat × Bool)} (hs : sQu L a) (h : QU V a q) (hs2 : sOr L b) (ho : OR V b o) : Sp D z0 2 0 0 mX5_stretchColumns [.ref a, .ref b] L V nx (zi (nI (stc q.1 o + 1)) L V nx) := by
  refine Sp.of 1 (by decide) rfl rfl (Nat.le_of_ble_eq_true rfl) ?_
  refine z_iconst (v := nI 0) dX5_stretchColumns_0 rfl ?_
  refine z_istore_n dX5_stretchColumns_1 (Nat.le_of_ble_eq_true rfl) rfl ?_
  exact lp_stc hs h hs2 ho _ 0 rfl (by omega) (fun k hk => absurd hk (by omega))

set_option maxHeartbeats 4000000 in
set_option maxRecDepth 100000 in
theorem s_inSA {D : zD} {z0 nx : Nat} {L : zL} {V : zV} {b c m : Nat} {x : Cd} {o : List (Nat × Bool)} (hs : sCo L c) (h : CO V c x.1 x.2.1 x.2.2) (hs2 : sOr L b) (ho : OR V b o) (hm : m < 2147483648) (hp : po o x.1 < o.length) : Sp D z0 2 0 0 mX5_isInStretch [.ref c, .ref b, .int (nI m)] L V nx (zi (zb (inS o x m)) L V nx) := by
  have hs0 := hs
  have h0 := h
  unfold sCo at hs
  obtain ⟨x1, x2, x3, x4, x5, x6⟩ := h
  have hpl := s_placeOf (D := D) (z0 := z0) (nx := nx) hs2 ho (c := x.1) (by omega)
  rw [if_pos hp] at hpl
  have ho3 := ho.2.1
  refine Sp.of 1 (by decide) rfl rfl (Nat.le_of_ble_eq_true rfl) ?_
  refine z_aload_n dX5_isInStretch_0 rfl ?_
  refine z_aload_n dX5_isInStretch_1 rfl ?_
  refine z_getIe dX5_isInStretch_2 fX5_102 (by first | assumption | exact And.left (by assumption)) rfl (by first | assumption | exact zup_s _ _ _ _ | rfl) ?_
  refine z_callV1i dX5_isInStretch_5 kX4_placeOf lX5_108 (by first | assumption | exact And.left (by assumption)) rfl hpl (Nat.le_of_ble_eq_true rfl) (Nat.le_of_ble_eq_true rfl) ⟨Nat.le_of_ble_eq_true rfl, Nat.le_of_ble_eq_true rfl⟩ ?_
  refine z_istore_n dX5_isInStretch_8 (Nat.le_of_ble_eq_true rfl) rfl ?_
  refine z_aload_n dX5_isInStretch_9 rfl ?_
  refine z_getIe dX5_isInStretch_10 fX5_105 (by first | assumption | exact And.left (by assumption)) rfl (by first | assumption | exact zup_s _ _ _ _ | rfl) ?_
  refine z_iconst (v := nI 1) dX5_isInStretch_13 rfl ?_
  refine z_icmp_eqN (tgt := 31) dX5_isInStretch_14 (by decide) (by omega) (by omega) (fun c_14 => ?_) (fun c_14 => ?_)
  · refine z_iconst (v := nI 0) dX5_isInStretch_31 rfl ?_
    refine z_zreturn dX5_isInStretch_32 (Nat.le_of_ble_eq_true rfl) (Nat.le_of_ble_eq_true rfl) rfl (by first | exact Or.inl rfl | exact Or.inr rfl | exact zb_01 _ | assumption) ?_
    exact zi_r (by first | exact (zb_t ⟨by omega, by omega, by omega⟩).symm | exact (zb_f (fun q => by obtain ⟨q1, q2, q3⟩ := q; omega)).symm)
  · refine z_iload_n dX5_isInStretch_17 rfl ?_
    refine z_iconst (v := (-1)) dX5_isInStretch_18 rfl ?_
    refine z_icmp_eq (tgt := 31) dX5_isInStretch_19 (by decide) (fun c_19 => ?_) (fun c_19 => ?_)
    · exact absurd c_19 (nI_ne_m1 (by omega))
    · refine z_iload_n dX5_isInStretch_22 rfl ?_
      refine z_iload_n dX5_isInStretch_23 rfl ?_
      refine z_icmp_geN (tgt := 31) dX5_isInStretch_24 (by decide) (by omega) (by omega) (fun c_24 => ?_) (fun c_24 => ?_)
      · refine z_iconst (v := nI 0) dX5_isInStretch_31 rfl ?_
        refine z_zreturn dX5_isInStretch_32 (Nat.le_of_ble_eq_true rfl) (Nat.le_of_ble_eq_true rfl) rfl (by first | exact Or.inl rfl | exact Or.inr rfl | exact zb_01 _ | assumption) ?_
        exact zi_r (by first | exact (zb_t ⟨by omega, by omega, by omega⟩).symm | exact (zb_f (fun q => by obtain ⟨q1, q2, q3⟩ := q; omega)).symm)
      · refine z_iconst (v := nI 1) dX5_isInStretch_27 rfl ?_
        refine z_goto (tgt := 32) dX5_isInStretch_28 (by decide) ?_
        refine z_zreturn dX5_isInStretch_32 (Nat.le_of_ble_eq_true rfl) (Nat.le_of_ble_eq_true rfl) rfl (by first | exact Or.inl rfl | exact Or.inr rfl | exact zb_01 _ | assumption) ?_
        exact zi_r (by first | exact (zb_t ⟨by omega, by omega, by omega⟩).symm | exact (zb_f (fun q => by obtain ⟨q1, q2, q3⟩ := q; omega)).symm)

set_option maxHeartbeats 4000000 in
set_option maxRecDepth 100000 in
theorem s_inSB {D : zD} {z0 nx : Nat} {L : zL} {V : zV} {b c m : Nat} {x : Cd} {o : List (Nat × Bool)} (hs : sCo L c) (h : CO V c x.1 x.2.1 x.2.2) (hs2 : sOr L b) (ho : OR V b o) (hm : m < 2147483648) (hp : ¬ po o x.1 < o.length) : Sp D z0 2 0 0 mX5_isInStretch [.ref c, .ref b, .int (nI m)] L V nx (zi (zb (inS o x m)) L V nx) := by
  have hs0 := hs
  have h0 := h
  unfold sCo at hs
  obtain ⟨x1, x2, x3, x4, x5, x6⟩ := h
  have hpl := s_placeOf (D := D) (z0 := z0) (nx := nx) hs2 ho (c := x.1) (by omega)
  rw [if_neg hp] at hpl
  refine Sp.of 1 (by decide) rfl rfl (Nat.le_of_ble_eq_true rfl) ?_
  refine z_aload_n dX5_isInStretch_0 rfl ?_
  refine z_aload_n dX5_isInStretch_1 rfl ?_
  refine z_getIe dX5_isInStretch_2 fX5_102 (by first | assumption | exact And.left (by assumption)) rfl (by first | assumption | exact zup_s _ _ _ _ | rfl) ?_
  refine z_callV1i dX5_isInStretch_5 kX4_placeOf lX5_108 (by first | assumption | exact And.left (by assumption)) rfl hpl (Nat.le_of_ble_eq_true rfl) (Nat.le_of_ble_eq_true rfl) ⟨Nat.le_of_ble_eq_true rfl, Nat.le_of_ble_eq_true rfl⟩ ?_
  refine z_istore_n dX5_isInStretch_8 (Nat.le_of_ble_eq_true rfl) rfl ?_
  refine z_aload_n dX5_isInStretch_9 rfl ?_
  refine z_getIe dX5_isInStretch_10 fX5_105 (by first | assumption | exact And.left (by assumption)) rfl (by first | assumption | exact zup_s _ _ _ _ | rfl) ?_
  refine z_iconst (v := nI 1) dX5_isInStretch_13 rfl ?_
  refine z_icmp_eqN (tgt := 31) dX5_isInStretch_14 (by decide) (by omega) (by omega) (fun c_14 => ?_) (fun c_14 => ?_)
  · refine z_iconst (v := nI 0) dX5_isInStretch_31 rfl ?_
    refine z_zreturn dX5_isInStretch_32 (Nat.le_of_ble_eq_true rfl) (Nat.le_of_ble_eq_true rfl) rfl (by first | exact Or.inl rfl | exact Or.inr rfl | exact zb_01 _ | assumption) ?_
    exact zi_r (by first | exact (zb_t ⟨by omega, by omega, by omega⟩).symm | exact (zb_f (fun q => by obtain ⟨q1, q2, q3⟩ := q; omega)).symm)
  · refine z_iload_n dX5_isInStretch_17 rfl ?_
    refine z_iconst (v := (-1)) dX5_isInStretch_18 rfl ?_
    refine z_icmp_eq (tgt := 31) dX5_isInStretch_19 (by decide) (fun c_19 => ?_) (fun c_19 => ?_)
    · refine z_iconst (v := nI 0) dX5_isInStretch_31 rfl ?_
      refine z_zreturn dX5_isInStretch_32 (Nat.le_of_ble_eq_true rfl) (Nat.le_of_ble_eq_true rfl) rfl (by first | exact Or.inl rfl | exact Or.inr rfl | exact zb_01 _ | assumption) ?_
      exact zi_r (by first | exact (zb_t ⟨by omega, by omega, by omega⟩).symm | exact (zb_f (fun q => by obtain ⟨q1, q2, q3⟩ := q; omega)).symm)
    · exact absurd rfl c_19

theorem s_inS {D : zD} {z0 nx : Nat} {L : zL} {V : zV} {b c m : Nat} {x : Cd} {o : List (Nat × Bool)} (hs : sCo L c) (h : CO V c x.1 x.2.1 x.2.2) (hs2 : sOr L b) (ho : OR V b o) (hm : m < 2147483648) : Sp D z0 2 0 0 mX5_isInStretch [.ref c, .ref b, .int (nI m)] L V nx (zi (zb (inS o x m)) L V nx) := by
  by_cases hp : po o x.1 < o.length
  · exact s_inSA hs h hs2 ho hm hp
  · exact s_inSB hs h hs2 ho hm hp

set_option maxHeartbeats 4000000 in
set_option maxRecDepth 100000 in
theorem lp_stz {D : zD} {z0 nx : Nat} {L : zL} {V : zV} {a b : Nat} {q : Qu} {o : List (Nat × Bool)} (hs : sQu L a) (h : QU V a q) (hs2 : sOr L b) (ho : OR V b o) : ∀ (fu : Nat) (i : Nat), q.1.length - i = fu → i ≤ q.1.length → Z D z0 3 0 0 mX5_stretchSize 0 0 11 [some (.ref a), some (.ref b), some (.int (nI (stc q.1 o + 1))), some (.int (nI (cn (fun k => inS o (ck q.1 k) (stc q.1 o + 1)) i))), some (.int (nI i))] [] L V nx (zi (nI (stz q.1 o)) L V nx) := by
  intro fu
  induction fu using Nat.strongRecOn with
  | ind fu ih =>
    intro i h_fu h_0
    have hs0 := hs
    have h0 := h
    obtain ⟨h1, h2, h3, h4⟩ := hs
    obtain ⟨g1, g2, g3, g4⟩ := h
    have hs20 := hs2
    have ho0 := ho
    obtain ⟨k1, k2, k3⟩ := hs2
    obtain ⟨r1, r2, r3, r4, r5⟩ := ho
    have hst : stc q.1 o ≤ o.length := fs_le _ _
    refine z_iload dX5_stretchSize_11 rfl ?_
    refine z_aload_n dX5_stretchSize_13 rfl ?_
    refine z_getIe dX5_stretchSize_14 fX5_25 (by first | assumption | exact And.left (by assumption)) rfl (by first | assumption | exact zup_s _ _ _ _ | rfl) ?_
    refine z_icmp_geN (tgt := 44) dX5_stretchSize_17 (by decide) (by omega) (by omega) (fun c_17 => ?_) (fun c_17 => ?_)
    · refine z_iload_n dX5_stretchSize_44 rfl ?_
      refine z_ireturn dX5_stretchSize_45 (Nat.le_of_ble_eq_true rfl) (Nat.le_of_ble_eq_true rfl) rfl ?_
      exact zi_r (by rw [show i = q.1.length by omega] <;> rfl)
    · have q1 := c4_at a i (by omega)
      have p1 := h4 i (by omega)
      have p2 := p1
      unfold sCo at p2
      have x0 := g3 i (by omega)
      obtain ⟨x1, x2, x3, x4, x5, x6⟩ := g3 i (by omega)
      refine z_aload_n dX5_stretchSize_20 rfl ?_
      refine z_getR dX5_stretchSize_21 fX5_11 (by first | assumption | exact And.left (by assumption)) rfl ?_
      refine z_iload dX5_stretchSize_24 rfl ?_
      refine z_aaldN dX5_stretchSize_26 (by first | assumption | exact And.left (by assumption)) (fun _ => rfl) (by exact Nat.le_of_ble_eq_true rfl) (by assumption) ?_
      refine z_aload_n dX5_stretchSize_27 rfl ?_
      refine z_iload_n dX5_stretchSize_28 rfl ?_
      refine z_callS3i dX5_stretchSize_29 kX5_isInStretch lX5_69 (s_inS p1 x0 hs20 ho0 (by omega)) (Nat.le_of_ble_eq_true rfl) (Nat.le_of_ble_eq_true rfl) ⟨Nat.le_of_ble_eq_true rfl, Nat.le_of_ble_eq_true rfl⟩ ?_
      refine z_if_eqB (tgt := 38) dX5_stretchSize_32 (by decide) (fun c_32 => ?_) (fun c_32 => ?_)
      · refine z_incN dX5_stretchSize_38 rfl rfl ?_
        refine z_goto (tgt := 11) dX5_stretchSize_41 (by decide) ?_
        first
          | (have hz := ih _ (by omega) (i + 1) rfl (by omega); rw [cn_y (p := fun k => inS o (ck q.1 k) (stc q.1 o + 1)) c_32] at hz; exact hz)
          | (have hz := ih _ (by omega) (i + 1) rfl (by omega); rw [cn_n (p := fun k => inS o (ck q.1 k) (stc q.1 o + 1)) c_32] at hz; exact hz)
      · refine z_incN dX5_stretchSize_35 rfl rfl ?_
        refine z_incN dX5_stretchSize_38 rfl rfl ?_
        refine z_goto (tgt := 11) dX5_stretchSize_41 (by decide) ?_
        first
          | (have hz := ih _ (by omega) (i + 1) rfl (by omega); rw [cn_y (p := fun k => inS o (ck q.1 k) (stc q.1 o + 1)) c_32] at hz; exact hz)
          | (have hz := ih _ (by omega) (i + 1) rfl (by omega); rw [cn_n (p := fun k => inS o (ck q.1 k) (stc q.1 o + 1)) c_32] at hz; exact hz)

set_option maxHeartbeats 4000000 in
set_option maxRecDepth 100000 in
theorem s_stz {D : zD} {z0 nx : Nat} {L : zL} {V : zV} {a b : Nat} {q : Qu} {o : List (Nat × Bool)} (hs : sQu L a) (h : QU V a q) (hs2 : sOr L b) (ho : OR V b o) : Sp D z0 3 0 0 mX5_stretchSize [.ref a, .ref b] L V nx (zi (nI (stz q.1 o)) L V nx) := by
  refine Sp.of 3 (by decide) rfl rfl (Nat.le_of_ble_eq_true rfl) ?_
  refine z_aload_n dX5_stretchSize_0 rfl ?_
  refine z_aload_n dX5_stretchSize_1 rfl ?_
  refine z_callV1i dX5_stretchSize_2 kX5_stretchColumns lX5_66 (by first | assumption | exact And.left (by assumption)) rfl (s_stc hs h hs2 ho) (Nat.le_of_ble_eq_true rfl) (Nat.le_of_ble_eq_true rfl) ⟨Nat.le_of_ble_eq_true rfl, Nat.le_of_ble_eq_true rfl⟩ ?_
  refine z_istore_n dX5_stretchSize_5 (Nat.le_of_ble_eq_true rfl) rfl ?_
  refine z_iconst (v := nI 0) dX5_stretchSize_6 rfl ?_
  refine z_istore_n dX5_stretchSize_7 (Nat.le_of_ble_eq_true rfl) rfl ?_
  refine z_iconst (v := nI 0) dX5_stretchSize_8 rfl ?_
  refine z_istore dX5_stretchSize_9 (Nat.le_of_ble_eq_true rfl) rfl ?_
  exact lp_stz hs h hs2 ho _ 0 rfl (by omega)

set_option maxHeartbeats 4000000 in
set_option maxRecDepth 100000 in
theorem lp_isR {D : zD} {z0 nx : Nat} {L : zL} {V : zV} {a b r m : Nat} {q : Qu} {o : List (Nat × Bool)} (hs : sQu L a) (h : QU V a q) (hs2 : sOr L b) (ho : OR V b o) (hr : r < 1000000) (hm : m < 2147483648) : ∀ (fu : Nat) (i : Nat), q.1.length - i = fu → i ≤ q.1.length → (∀ k, k < i → inS o (ck q.1 k) m → ft (ck q.1 k).2.1 (tu (o.getD (po o (ck q.1 k).1) (0, false)).2 (pt r (po o (ck q.1 k).1))) (ck q.1 k).2.2) → Z D z0 4 0 0 mX5_isRead 0 0 3 [some (.ref a), some (.int (nI r)), some (.ref b), some (.int (nI m)), some (.int (nI i)), none] [] L V nx (zi (zb (isR q.1 o m r)) L V nx) := by
  intro fu
  induction fu using Nat.strongRecOn with
  | ind fu ih =>
    intro i h_fu h_0 h_1
    have hs0 := hs
    have h0 := h
    obtain ⟨h1, h2, h3, h4⟩ := hs
    obtain ⟨g1, g2, g3, g4⟩ := h
    have hs20 := hs2
    have ho0 := ho
    obtain ⟨k1, k2, k3⟩ := hs2
    obtain ⟨r1, r2, r3, r4, r5⟩ := ho
    refine z_iload dX5_isRead_3 rfl ?_
    refine z_aload_n dX5_isRead_5 rfl ?_
    refine z_getIe dX5_isRead_6 fX5_25 (by first | assumption | exact And.left (by assumption)) rfl (by first | assumption | exact zup_s _ _ _ _ | rfl) ?_
    refine z_icmp_geN (tgt := 64) dX5_isRead_9 (by decide) (by omega) (by omega) (fun c_9 => ?_) (fun c_9 => ?_)
    · refine z_iconst (v := nI 1) dX5_isRead_64 rfl ?_
      refine z_zreturn dX5_isRead_65 (Nat.le_of_ble_eq_true rfl) (Nat.le_of_ble_eq_true rfl) rfl (by first | exact Or.inl rfl | exact Or.inr rfl | exact zb_01 _ | assumption) ?_
      exact zi_r (zb_t (fun k hk => h_1 k (by omega))).symm
    · have q1 := c4_at a i (by omega)
      have p1 := h4 i (by omega)
      have p2 := p1
      unfold sCo at p2
      have x0 := g3 i (by omega)
      obtain ⟨x1, x2, x3, x4, x5, x6⟩ := g3 i (by omega)
      refine z_aload_n dX5_isRead_12 rfl ?_
      refine z_getR dX5_isRead_13 fX5_11 (by first | assumption | exact And.left (by assumption)) rfl ?_
      refine z_iload dX5_isRead_16 rfl ?_
      refine z_aaldN dX5_isRead_18 (by first | assumption | exact And.left (by assumption)) (fun _ => rfl) (by exact Nat.le_of_ble_eq_true rfl) (by assumption) ?_
      refine z_astore dX5_isRead_19 (Nat.le_of_ble_eq_true rfl) rfl ?_
      refine z_aload dX5_isRead_21 rfl ?_
      refine z_aload_n dX5_isRead_23 rfl ?_
      refine z_iload_n dX5_isRead_24 rfl ?_
      refine z_callS3i dX5_isRead_25 kX5_isInStretch lX5_69 (s_inS p1 x0 hs20 ho0 hm) (Nat.le_of_ble_eq_true rfl) (Nat.le_of_ble_eq_true rfl) ⟨Nat.le_of_ble_eq_true rfl, Nat.le_of_ble_eq_true rfl⟩ ?_
      refine z_if_neB (tgt := 34) dX5_isRead_28 (by decide) (fun c_28 => ?_) (fun c_28 => ?_)
      · have hip := c_28.2.1
        have hpl := s_placeOf (D := D) (z0 := z0) (nx := nx) hs20 ho0 (c := (ck q.1 i).1) (by omega)
        rw [if_pos hip] at hpl
        have hq3 := tu_lt (o.getD (po o (ck q.1 i).1) (0, false)).2 (pt_lt (po o (ck q.1 i).1) hr)
        refine z_aload dX5_isRead_34 rfl ?_
        refine z_aload_n dX5_isRead_36 rfl ?_
        refine z_iload_n dX5_isRead_37 rfl ?_
        refine z_aload_n dX5_isRead_38 rfl ?_
        refine z_aload dX5_isRead_39 rfl ?_
        refine z_getIe dX5_isRead_41 fX5_102 (by first | assumption | exact And.left (by assumption)) rfl (by first | assumption | exact zup_s _ _ _ _ | rfl) ?_
        refine z_callV1i dX5_isRead_44 kX4_placeOf lX5_108 (by first | assumption | exact And.left (by assumption)) rfl hpl (Nat.le_of_ble_eq_true rfl) (Nat.le_of_ble_eq_true rfl) ⟨Nat.le_of_ble_eq_true rfl, Nat.le_of_ble_eq_true rfl⟩ ?_
        refine z_callV2i dX5_isRead_47 kX4_keyPart lX5_111 (by first | assumption | exact And.left (by assumption)) rfl (s_keyPart hs20 ho0 hip hr) (Nat.le_of_ble_eq_true rfl) (Nat.le_of_ble_eq_true rfl) ⟨Nat.le_of_ble_eq_true rfl, Nat.le_of_ble_eq_true rfl⟩ ?_
        refine z_callV1i dX5_isRead_50 kX0_fits lX5_115 (by first | assumption | exact And.left (by assumption)) rfl (s_fits p1 x0 (by omega)) (Nat.le_of_ble_eq_true rfl) (Nat.le_of_ble_eq_true rfl) ⟨Nat.le_of_ble_eq_true rfl, Nat.le_of_ble_eq_true rfl⟩ ?_
        refine z_if_neB (tgt := 58) dX5_isRead_53 (by decide) (fun c_53 => ?_) (fun c_53 => ?_)
        · refine z_incN dX5_isRead_58 rfl rfl ?_
          refine z_goto (tgt := 3) dX5_isRead_61 (by decide) ?_
          refine z_fg 5 ?_
          first
            | exact ih _ (by omega) (i + 1) rfl (by omega) (lt_s h_1 (fun q => absurd q c_28))
            | exact ih _ (by omega) (i + 1) rfl (by omega) (lt_s h_1 (fun _ => c_53))
        · refine z_iconst (v := nI 0) dX5_isRead_56 rfl ?_
          refine z_zreturn dX5_isRead_57 (Nat.le_of_ble_eq_true rfl) (Nat.le_of_ble_eq_true rfl) rfl (by first | exact Or.inl rfl | exact Or.inr rfl | exact zb_01 _ | assumption) ?_
          exact zi_r (zb_f (fun q => c_53 (q i (by omega) c_28))).symm
      · refine z_goto (tgt := 58) dX5_isRead_31 (by decide) ?_
        refine z_incN dX5_isRead_58 rfl rfl ?_
        refine z_goto (tgt := 3) dX5_isRead_61 (by decide) ?_
        refine z_fg 5 ?_
        first
          | exact ih _ (by omega) (i + 1) rfl (by omega) (lt_s h_1 (fun q => absurd q c_28))
          | exact ih _ (by omega) (i + 1) rfl (by omega) (lt_s h_1 (fun _ => c_53))

set_option maxHeartbeats 4000000 in
set_option maxRecDepth 100000 in
theorem s_isR {D : zD} {z0 nx : Nat} {L : zL} {V : zV} {a b r m : Nat} {q : Qu} {o : List (Nat × Bool)} (hs : sQu L a) (h : QU V a q) (hs2 : sOr L b) (ho : OR V b o) (hr : r < 1000000) (hm : m < 2147483648) : Sp D z0 4 0 0 mX5_isRead [.ref a, .int (nI r), .ref b, .int (nI m)] L V nx (zi (zb (isR q.1 o m r)) L V nx) := by
  refine Sp.of 2 (by decide) rfl rfl (Nat.le_of_ble_eq_true rfl) ?_
  refine z_iconst (v := nI 0) dX5_isRead_0 rfl ?_
  refine z_istore dX5_isRead_1 (Nat.le_of_ble_eq_true rfl) rfl ?_
  exact lp_isR hs h hs2 ho hr hm _ 0 rfl (by omega) (fun k hk => absurd hk (by omega))

set_option maxHeartbeats 4000000 in
set_option maxRecDepth 100000 in
theorem s_srv {D : zD} {z0 nx : Nat} {L : zL} {V : zV} {a b : Nat} {q : Qu} {x : Ix} (hs : sQu L a) (h : QU V a q) (hs2 : sIx L b) (hx : IX V b x) : Sp D z0 4 0 0 mX5_isServedBy [.ref a, .ref b] L V nx (zi (zb (srv q.1 x)) L V nx) := by
  have hs0 := hs
  have h0 := h
  obtain ⟨h1, h2, h3, h4⟩ := hs
  obtain ⟨g1, g2, g3, g4⟩ := h
  have hs20 := hs2
  have hx0 := hx
  obtain ⟨k1, k2, k3, k4, k5⟩ := hs2
  obtain ⟨⟨⟨r1, r2, r3, r4, r5⟩, y1, y2, y3, y4, y5⟩, xd, xe, xn, xl⟩ := hx
  have k20 := k2
  obtain ⟨k6, k7, k8⟩ := k2
  have xd0 := xd
  obtain ⟨d1, d2, d3, d4⟩ := xd
  have k30 := k3
  obtain ⟨k31, k32⟩ := k3
  obtain ⟨e1, e2, e3, e4⟩ := xe
  have hsz : stz q.1 x.2.1.1 ≤ q.1.length := cn_le _ _
  refine Sp.of 0 (by decide) rfl rfl (Nat.le_of_ble_eq_true rfl) ?_
  refine z_aload_n dX5_isServedBy_0 rfl ?_
  refine z_getIe dX5_isServedBy_1 fX5_36 (by first | assumption | exact And.left (by assumption)) rfl (by first | assumption | exact zup_s _ _ _ _ | rfl) ?_
  refine z_iconst (v := nI 4) dX5_isServedBy_4 rfl ?_
  refine z_icmp_eqN (tgt := 10) dX5_isServedBy_5 (by decide) (by omega) (by omega) (fun c_5 => ?_) (fun c_5 => ?_)
  · refine z_aload_n dX5_isServedBy_10 rfl ?_
    refine z_getR dX5_isServedBy_11 fX5_41 (by first | assumption | exact And.left (by assumption)) rfl ?_
    refine z_getIe dX5_isServedBy_14 fX5_45 (by first | assumption | exact And.left (by assumption)) rfl (by first | assumption | exact zup_s _ _ _ _ | rfl) ?_
    refine z_if_eqB (tgt := 36) dX5_isServedBy_17 (by decide) (fun c_17 => ?_) (fun c_17 => ?_)
    · refine z_aload_n dX5_isServedBy_36 rfl ?_
      refine z_aload_n dX5_isServedBy_37 rfl ?_
      refine z_getR dX5_isServedBy_38 fX5_41 (by first | assumption | exact And.left (by assumption)) rfl ?_
      refine z_getR dX5_isServedBy_41 fX5_59 (by first | assumption | exact And.left (by assumption)) rfl ?_
      refine z_callV1i dX5_isServedBy_44 kX5_stretchSize lX5_62 (by first | assumption | exact And.left (by assumption)) rfl (s_stz hs0 h0 k7 d1) (Nat.le_of_ble_eq_true rfl) (Nat.le_of_ble_eq_true rfl) ⟨Nat.le_of_ble_eq_true rfl, Nat.le_of_ble_eq_true rfl⟩ ?_
      refine z_if_leN (tgt := 54) dX5_isServedBy_47 (by decide) (by omega) (fun c_47 => ?_) (fun c_47 => ?_)
      · refine z_iconst (v := nI 0) dX5_isServedBy_54 rfl ?_
        refine z_zreturn dX5_isServedBy_55 (Nat.le_of_ble_eq_true rfl) (Nat.le_of_ble_eq_true rfl) rfl (by first | exact Or.inl rfl | exact Or.inr rfl | exact zb_01 _ | assumption) ?_
        exact zi_r (by first | exact (zb_f (fun q => by have := q.2.2; omega)).symm | exact (zb_t ⟨c_5, fun z => by first | exact absurd z c_17 | exact c_31, by omega⟩).symm)
      · refine z_iconst (v := nI 1) dX5_isServedBy_50 rfl ?_
        refine z_goto (tgt := 55) dX5_isServedBy_51 (by decide) ?_
        refine z_zreturn dX5_isServedBy_55 (Nat.le_of_ble_eq_true rfl) (Nat.le_of_ble_eq_true rfl) rfl (by first | exact Or.inl rfl | exact Or.inr rfl | exact zb_01 _ | assumption) ?_
        exact zi_r (by first | exact (zb_f (fun q => by have := q.2.2; omega)).symm | exact (zb_t ⟨c_5, fun z => by first | exact absurd z c_17 | exact c_31, by omega⟩).symm)
    · refine z_aload_n dX5_isServedBy_20 rfl ?_
      refine z_aload_n dX5_isServedBy_21 rfl ?_
      refine z_getR dX5_isServedBy_22 fX5_41 (by first | assumption | exact And.left (by assumption)) rfl ?_
      refine z_getR dX5_isServedBy_25 fX5_51 (by first | assumption | exact And.left (by assumption)) rfl ?_
      refine z_callV1i dX5_isServedBy_28 kX5_asksFor lX5_55 (by first | assumption | exact And.left (by assumption)) rfl (s_asks hs0 h0 k8 d4) (Nat.le_of_ble_eq_true rfl) (Nat.le_of_ble_eq_true rfl) ⟨Nat.le_of_ble_eq_true rfl, Nat.le_of_ble_eq_true rfl⟩ ?_
      refine z_if_neB (tgt := 36) dX5_isServedBy_31 (by decide) (fun c_31 => ?_) (fun c_31 => ?_)
      · refine z_aload_n dX5_isServedBy_36 rfl ?_
        refine z_aload_n dX5_isServedBy_37 rfl ?_
        refine z_getR dX5_isServedBy_38 fX5_41 (by first | assumption | exact And.left (by assumption)) rfl ?_
        refine z_getR dX5_isServedBy_41 fX5_59 (by first | assumption | exact And.left (by assumption)) rfl ?_
        refine z_callV1i dX5_isServedBy_44 kX5_stretchSize lX5_62 (by first | assumption | exact And.left (by assumption)) rfl (s_stz hs0 h0 k7 d1) (Nat.le_of_ble_eq_true rfl) (Nat.le_of_ble_eq_true rfl) ⟨Nat.le_of_ble_eq_true rfl, Nat.le_of_ble_eq_true rfl⟩ ?_
        refine z_if_leN (tgt := 54) dX5_isServedBy_47 (by decide) (by omega) (fun c_47 => ?_) (fun c_47 => ?_)
        · refine z_iconst (v := nI 0) dX5_isServedBy_54 rfl ?_
          refine z_zreturn dX5_isServedBy_55 (Nat.le_of_ble_eq_true rfl) (Nat.le_of_ble_eq_true rfl) rfl (by first | exact Or.inl rfl | exact Or.inr rfl | exact zb_01 _ | assumption) ?_
          exact zi_r (by first | exact (zb_f (fun q => by have := q.2.2; omega)).symm | exact (zb_t ⟨c_5, fun z => by first | exact absurd z c_17 | exact c_31, by omega⟩).symm)
        · refine z_iconst (v := nI 1) dX5_isServedBy_50 rfl ?_
          refine z_goto (tgt := 55) dX5_isServedBy_51 (by decide) ?_
          refine z_zreturn dX5_isServedBy_55 (Nat.le_of_ble_eq_true rfl) (Nat.le_of_ble_eq_true rfl) rfl (by first | exact Or.inl rfl | exact Or.inr rfl | exact zb_01 _ | assumption) ?_
          exact zi_r (by first | exact (zb_f (fun q => by have := q.2.2; omega)).symm | exact (zb_t ⟨c_5, fun z => by first | exact absurd z c_17 | exact c_31, by omega⟩).symm)
      · refine z_iconst (v := nI 0) dX5_isServedBy_34 rfl ?_
        refine z_zreturn dX5_isServedBy_35 (Nat.le_of_ble_eq_true rfl) (Nat.le_of_ble_eq_true rfl) rfl (by first | exact Or.inl rfl | exact Or.inr rfl | exact zb_01 _ | assumption) ?_
        exact zi_r (zb_f (fun q => c_31 (q.2.1 c_17))).symm
  · refine z_iconst (v := nI 0) dX5_isServedBy_8 rfl ?_
    refine z_zreturn dX5_isServedBy_9 (Nat.le_of_ble_eq_true rfl) (Nat.le_of_ble_eq_true rfl) rfl (by first | exact Or.inl rfl | exact Or.inr rfl | exact zb_01 _ | assumption) ?_
    exact zi_r (zb_f (fun q => c_5 q.1)).symm

set_option maxHeartbeats 4000000 in
set_option maxRecDepth 100000 in
theorem lp_rby {D : zD} {z0 nx : Nat} {L : zL} {V : zV} {a b : Nat} {q : Qu} {x : Ix} (hs : sQu L a) (h : QU V a q) (hs2 : sIx L b) (hx : IX V b x) (hc : ∀ c ∈ x.2.2.1, c < 64000000) : ∀ (fu : Nat) (i : Nat), x.2.2.1.length - i = fu → i ≤ x.2.2.1.length → Z D z0 5 0 0 mX5_readsBy 0 0 20 [some (.ref a), some (.ref b), some (.ref (b + 2)), some (.int (nI (stc q.1 x.2.1.1 + 1))), some (.int (nI (cn (fun k => isR q.1 x.2.1.1 (stc q.1 x.2.1.1 + 1) (x.2.2.1.getD k 0 / 64)) i + 1))), some (.int (nI i))] [] L V nx (zi (nI (rby q.1 x.2.1.1 x.2.2.1)) L V nx) := by
  intro fu
  induction fu using Nat.strongRecOn with
  | ind fu ih =>
    intro i h_fu h_0
    have hs0 := hs
    have h0 := h
    obtain ⟨h1, h2, h3, h4⟩ := hs
    obtain ⟨g1, g2, g3, g4⟩ := h
    have hs20 := hs2
    have hx0 := hx
    obtain ⟨k1, k2, k3, k4, k5⟩ := hs2
    obtain ⟨⟨⟨r1, r2, r3, r4, r5⟩, y1, y2, y3, y4, y5⟩, xd, xe, xn, xl⟩ := hx
    have k20 := k2
    obtain ⟨k6, k7, k8⟩ := k2
    have xd0 := xd
    obtain ⟨d1, d2, d3, d4⟩ := xd
    have k30 := k3
    obtain ⟨k31, k32⟩ := k3
    obtain ⟨e1, e2, e3, e4⟩ := xe
    have hst : stc q.1 x.2.1.1 ≤ x.2.1.1.length := fs_le _ _
    have ho3 := d1.2.1
    refine z_iload dX5_readsBy_20 rfl ?_
    refine z_aload_n dX5_readsBy_22 rfl ?_
    refine z_getR dX5_readsBy_23 fX5_73 (by first | assumption | exact And.left (by assumption)) rfl ?_
    refine z_getIe dX5_readsBy_26 fX5_77 (by first | assumption | exact And.left (by assumption)) rfl (by first | assumption | exact zup_s _ _ _ _ | rfl) ?_
    refine z_icmp_geN (tgt := 63) dX5_readsBy_29 (by decide) (by omega) (by omega) (fun c_29 => ?_) (fun c_29 => ?_)
    · refine z_iload dX5_readsBy_63 rfl ?_
      refine z_ireturn dX5_readsBy_65 (Nat.le_of_ble_eq_true rfl) (Nat.le_of_ble_eq_true rfl) rfl ?_
      exact zi_r (by rw [show i = x.2.2.1.length by omega] <;> rfl)
    · refine z_aload_n dX5_readsBy_32 rfl ?_
      refine z_aload_n dX5_readsBy_33 rfl ?_
      refine z_getR dX5_readsBy_34 fX5_73 (by first | assumption | exact And.left (by assumption)) rfl ?_
      refine z_getR dX5_readsBy_37 fX5_80 (by first | assumption | exact And.left (by assumption)) rfl ?_
      refine z_iload dX5_readsBy_40 rfl ?_
      refine z_ialdN dX5_readsBy_42 (by first | assumption | exact And.left (by assumption)) (by omega) (by decide) (e2 i (by omega)) ?_
      have hci : x.2.2.1.getD i 0 < 64000000 := by
        rw [List.getD_eq_getElem?_getD, List.getElem?_eq_getElem (by omega)]
        exact hc _ (List.getElem_mem _)
      refine z_callS1i dX5_readsBy_43 kX6_rankIn lX5_84 (s_rankIn (by omega)) (Nat.le_of_ble_eq_true rfl) (Nat.le_of_ble_eq_true rfl) ⟨Nat.le_of_ble_eq_true rfl, Nat.le_of_ble_eq_true rfl⟩ ?_
      refine z_aload_n dX5_readsBy_46 rfl ?_
      refine z_iload_n dX5_readsBy_47 rfl ?_
      refine z_callV3i dX5_readsBy_48 kX5_isRead lX5_88 (by first | assumption | exact And.left (by assumption)) rfl (s_isR hs0 h0 k7 d1 (by omega) (by omega)) (Nat.le_of_ble_eq_true rfl) (Nat.le_of_ble_eq_true rfl) ⟨Nat.le_of_ble_eq_true rfl, Nat.le_of_ble_eq_true rfl⟩ ?_
      refine z_if_eqB (tgt := 57) dX5_readsBy_51 (by decide) (fun c_51 => ?_) (fun c_51 => ?_)
      · refine z_incN dX5_readsBy_57 rfl rfl ?_
        refine z_goto (tgt := 20) dX5_readsBy_60 (by decide) ?_
        first
          | (have hz := ih _ (by omega) (i + 1) rfl (by omega); rw [cn_y (p := fun k => isR q.1 x.2.1.1 (stc q.1 x.2.1.1 + 1) (x.2.2.1.getD k 0 / 64)) c_51] at hz; exact hz)
          | (have hz := ih _ (by omega) (i + 1) rfl (by omega); rw [cn_n (p := fun k => isR q.1 x.2.1.1 (stc q.1 x.2.1.1 + 1) (x.2.2.1.getD k 0 / 64)) c_51] at hz; exact hz)
      · refine z_incN dX5_readsBy_54 rfl rfl ?_
        refine z_incN dX5_readsBy_57 rfl rfl ?_
        refine z_goto (tgt := 20) dX5_readsBy_60 (by decide) ?_
        first
          | (have hz := ih _ (by omega) (i + 1) rfl (by omega); rw [cn_y (p := fun k => isR q.1 x.2.1.1 (stc q.1 x.2.1.1 + 1) (x.2.2.1.getD k 0 / 64)) c_51] at hz; exact hz)
          | (have hz := ih _ (by omega) (i + 1) rfl (by omega); rw [cn_n (p := fun k => isR q.1 x.2.1.1 (stc q.1 x.2.1.1 + 1) (x.2.2.1.getD k 0 / 64)) c_51] at hz; exact hz)

set_option maxHeartbeats 4000000 in
set_option maxRecDepth 100000 in
theorem s_rby {D : zD} {z0 nx : Nat} {L : zL} {V : zV} {a b : Nat} {q : Qu} {x : Ix} (hs : sQu L a) (h : QU V a q) (hs2 : sIx L b) (hx : IX V b x) (hc : ∀ c ∈ x.2.2.1, c < 64000000) : Sp D z0 5 0 0 mX5_readsBy [.ref a, .ref b] L V nx (zi (nI (rby q.1 x.2.1.1 x.2.2.1)) L V nx) := by
  have hs0 := hs
  have h0 := h
  have hs20 := hs2
  have hx0 := hx
  obtain ⟨k1, k2, k3, k4, k5⟩ := hs2
  obtain ⟨k6, k7, k8⟩ := k2
  have d1 := hx.2.1.1
  refine Sp.of 4 (by decide) rfl rfl (Nat.le_of_ble_eq_true rfl) ?_
  refine z_aload_n dX5_readsBy_0 rfl ?_
  refine z_getR dX5_readsBy_1 fX5_41 (by first | assumption | exact And.left (by assumption)) rfl ?_
  refine z_getR dX5_readsBy_4 fX5_59 (by first | assumption | exact And.left (by assumption)) rfl ?_
  refine z_astore_n dX5_readsBy_7 (Nat.le_of_ble_eq_true rfl) rfl ?_
  refine z_aload_n dX5_readsBy_8 rfl ?_
  refine z_aload_n dX5_readsBy_9 rfl ?_
  refine z_callV1i dX5_readsBy_10 kX5_stretchColumns lX5_66 (by first | assumption | exact And.left (by assumption)) rfl (s_stc hs0 h0 k7 d1) (Nat.le_of_ble_eq_true rfl) (Nat.le_of_ble_eq_true rfl) ⟨Nat.le_of_ble_eq_true rfl, Nat.le_of_ble_eq_true rfl⟩ ?_
  refine z_istore_n dX5_readsBy_13 (Nat.le_of_ble_eq_true rfl) rfl ?_
  refine z_iconst (v := nI 1) dX5_readsBy_14 rfl ?_
  refine z_istore dX5_readsBy_15 (Nat.le_of_ble_eq_true rfl) rfl ?_
  refine z_iconst (v := nI 0) dX5_readsBy_17 rfl ?_
  refine z_istore dX5_readsBy_18 (Nat.le_of_ble_eq_true rfl) rfl ?_
  exact lp_rby hs0 h0 hs20 hx0 hc _ 0 rfl (by omega)

set_option maxHeartbeats 4000000 in
set_option maxRecDepth 100000 in
theorem s_QUclear {D : zD} {z0 nx : Nat} {L : zL} {V : zV} {a : Nat} (hs : sQu L a) (hk : ∀ k, k < 3 → V (a + 2 + 2) k = 0 ∨ V (a + 2 + 2) k = 1) : Sp D z0 2 0 0 mX5_clearAll [.ref a] L V nx (zq none L nx (fun V' => zEq V V' a (a + 9) ∧ QU V' a ([], []))) := by
  obtain ⟨h1, h2, h3, h4⟩ := hs
  refine Sp.of 0 (by decide) rfl rfl (Nat.le_of_ble_eq_true rfl) ?_
  refine z_aload_n dX5_clearAll_0 rfl ?_
  refine z_iconst (v := nI 0) dX5_clearAll_1 rfl ?_
  refine z_putI dX5_clearAll_2 fX5_25 (by first | assumption | exact And.left (by assumption)) rfl ?_
  refine z_aload_n dX5_clearAll_5 rfl ?_
  refine z_getR dX5_clearAll_6 fX5_20 (by first | assumption | exact And.left (by assumption)) rfl ?_
  have hk2 : ∀ k, k < 3 → zup V a 1 (nI 0) (a + 2 + 2) k = 0 ∨ zup V a 1 (nI 0) (a + 2 + 2) k = 1 := fun k hk3 => by rw [zup_a (by omega)]; exact hk k hk3
  refine z_callV0w dX5_clearAll_9 kX4_clearAll lX5_29 (by first | assumption | exact And.left (by assumption)) rfl (s_ORclear h3 hk2) (Nat.le_of_ble_eq_true rfl) (Nat.le_of_ble_eq_true rfl) ⟨Nat.le_of_ble_eq_true rfl, Nat.le_of_ble_eq_true rfl⟩ ?_
  intro V1 hV1
  refine z_return dX5_clearAll_12 (Nat.le_of_ble_eq_true rfl) (Nat.le_of_ble_eq_true rfl) rfl ?_
  exact ⟨rfl, rfl, rfl, (zEq.rf.up (by omega) (by omega)).trans (hV1.1.wide (by omega) (by omega)), by rw [hV1.1 a (by omega)]; simp [zup], by simp, fun k hk => absurd hk (by simp), hV1.2⟩

