/-! Store: ((seq, short, most), versions, transactions, indexes) -/
abbrev St : Type := (Nat × Nat × Nat) × Vs × (Nat → Tr) × (Nat → Ix)
def sSt (L : zL) (a : Nat) : Prop := L a = some (.inr (.inr (7, [none, none, none, some (.ref (a + 1)), some (.ref (a + 5)), some (.ref (a + 6)), some (.ref (a + 7))]))) ∧ sVe L (a + 1) ∧ L (a + 5) = some (.inr (.inl (4, [some (a + 8), some (a + 10), some (a + 12), some (a + 14)]))) ∧ L (a + 6) = some (.inr (.inl (5, [some (a + 16), some (a + 28)]))) ∧ L (a + 7) = some (.inl (0, 7)) ∧ (∀ t, t < 4 → sTr L (a + 8 + 2 * t)) ∧ ∀ i, i < 2 → sIx L (a + 16 + 12 * i)
def STn (V : zV) (a : Nat) (n : Nat × Nat × Nat) : Prop := V a 0 = nI n.1 ∧ V a 1 = nI n.2.1 ∧ V a 2 = nI n.2.2 ∧ n.1 < 900000 ∧ n.2.1 ≤ 20 ∧ 1 ≤ n.2.2 ∧ n.2.2 ≤ 9
def ST (V : zV) (a : Nat) (s : St) : Prop := STn V a s.1 ∧ VE V (a + 1) s.2.1 ∧ (∀ t, t < 4 → TR V (a + 8 + 2 * t) (s.2.2.1 t)) ∧ ∀ i, i < 2 → IX V (a + 16 + 12 * i) (s.2.2.2 i)
theorem STn.eq {V V' : zV} {a : Nat} {n : Nat × Nat × Nat} (h : STn V a n) (he : V' a = V a) : STn V' a n := by
  unfold STn at h ⊢
  rw [he]
  exact h
theorem ST.eq {V V' : zV} {a lo hi : Nat} {s : St} (h : ST V a s) (he : zEq V V' lo hi) (hd : a + 40 ≤ lo ∨ hi ≤ a) : ST V' a s := by
  obtain ⟨h1, h2, h3, h4⟩ := h
  exact ⟨h1.eq (he a (by omega)), h2.eq he (by omega), fun t ht => (h3 t ht).eq he (by omega), fun i hi => (h4 i hi).eq he (by omega)⟩
theorem ST.eq7 {V V' : zV} {a : Nat} {s : St} (h : ST V a s) (he : zEq V V' (a + 7) (a + 8)) : ST V' a s := by
  obtain ⟨h1, h2, h3, h4⟩ := h
  exact ⟨h1.eq (he a (by omega)), h2.eq he (by omega), fun t ht => (h3 t ht).eq he (by omega), fun i hi => (h4 i hi).eq he (by omega)⟩
theorem ST.cg {V : zV} {a : Nat} {s s' : St} (h : ST V a s) (h1 : s'.1 = s.1) (h2 : ∀ r, r < 48 → s'.2.1 r = s.2.1 r) (h3 : ∀ t, t < 4 → s'.2.2.1 t = s.2.2.1 t) (h4 : ∀ i, i < 2 → s'.2.2.2 i = s.2.2.2 i) : ST V a s' := by
  obtain ⟨k1, k2, k3, k4⟩ := h
  refine ⟨by rw [h1]; exact k1, fun r hr => by rw [h2 r hr]; exact k2 r hr, fun t ht => by rw [h3 t ht]; exact k3 t ht, fun i hi => by rw [h4 i hi]; exact k4 i hi⟩
def up1 {α : Type} (f : Nat → α) (t : Nat) (x : α) : Nat → α := fun q => if q = t then x else f q
theorem up1_s {α : Type} (f : Nat → α) (t : Nat) (x : α) : up1 f t x t = x := by simp [up1]
theorem up1_o {α : Type} {f : Nat → α} {t q : Nat} {x : α} (h : q ≠ t) : up1 f t x q = f q := by simp [up1, h]
theorem ST_tr {V V' : zV} {a t : Nat} {s : St} {x : Tr} (h : ST V a s) (ht : t < 4) (he : zEq V V' (a + 8 + 2 * t) (a + 8 + 2 * t + 2)) (hx : TR V' (a + 8 + 2 * t) x) : ST V' a (s.1, s.2.1, up1 s.2.2.1 t x, s.2.2.2) := by
  obtain ⟨h1, h2, h3, h4⟩ := h
  refine ⟨h1.eq (he a (by omega)), h2.eq he (by omega), fun u hu => ?_, fun i hi => (h4 i hi).eq he (by omega)⟩
  by_cases e : u = t
  · subst e
    show TR V' _ (up1 s.2.2.1 u x u)
    rw [up1_s]
    exact hx
  · show TR V' _ (up1 s.2.2.1 t x u)
    rw [up1_o e]
    exact (h3 u hu).eq he (by omega)
theorem ST_ix {V V' : zV} {a i : Nat} {s : St} {x : Ix} (h : ST V a s) (hi : i < 2) (he : zEq V V' (a + 16 + 12 * i) (a + 16 + 12 * i + 12)) (hx : IX V' (a + 16 + 12 * i) x) : ST V' a (s.1, s.2.1, s.2.2.1, up1 s.2.2.2 i x) := by
  obtain ⟨h1, h2, h3, h4⟩ := h
  refine ⟨h1.eq (he a (by omega)), h2.eq he (by omega), fun t ht => (h3 t ht).eq he (by omega), fun u hu => ?_⟩
  by_cases e : u = i
  · subst e
    show IX V' _ (up1 s.2.2.2 u x u)
    rw [up1_s]
    exact hx
  · show IX V' _ (up1 s.2.2.2 i x u)
    rw [up1_o e]
    exact (h4 u hu).eq he (by omega)
theorem ST_ve {V V' : zV} {a : Nat} {s : St} {v : Vs} (h : ST V a s) (he : zEq V V' (a + 1) (a + 5)) (hv : VE V' (a + 1) v) : ST V' a (s.1, v, s.2.2) := by
  obtain ⟨h1, h2, h3, h4⟩ := h
  exact ⟨h1.eq (he a (by omega)), hv, fun t ht => (h3 t ht).eq he (by omega), fun i hi => (h4 i hi).eq he (by omega)⟩
theorem ST_n {V V' : zV} {a : Nat} {s : St} {n : Nat × Nat × Nat} (h : ST V a s) (he : zEq V V' a (a + 1)) (hn : STn V' a n) : ST V' a (n, s.2) := by
  obtain ⟨h1, h2, h3, h4⟩ := h
  exact ⟨hn, h2.eq he (by omega), fun t ht => (h3 t ht).eq he (by omega), fun i hi => (h4 i hi).eq he (by omega)⟩
theorem t4_at (a t : Nat) (h : t < 4) : ([some (a + 8), some (a + 10), some (a + 12), some (a + 14)] : List (Option Nat))[t]? = some (some (a + 8 + 2 * t)) := by
  rcases (show t = 0 ∨ t = 1 ∨ t = 2 ∨ t = 3 by omega) with rfl | rfl | rfl | rfl <;> rfl
theorem i2_at (a i : Nat) (h : i < 2) : ([some (a + 16), some (a + 28)] : List (Option Nat))[i]? = some (some (a + 16 + 12 * i)) := by
  rcases (show i = 0 ∨ i = 1 by omega) with rfl | rfl <;> rfl
def mixT (s s2 : St) (i : Nat) : St := (s2.1, s2.2.1, fun q => if q < i then s2.2.2.1 q else s.2.2.1 q, s.2.2.2)
def mixI (s s2 : St) (i : Nat) : St := (s2.1, s2.2.1, s2.2.2.1, fun q => if q < i then s2.2.2.2 q else s.2.2.2 q)
theorem mixT_s {V : zV} {a i : Nat} {s s2 : St} (h : ST V a ((mixT s s2 i).1, (mixT s s2 i).2.1, up1 (mixT s s2 i).2.2.1 i (s2.2.2.1 i), (mixT s s2 i).2.2.2)) : ST V a (mixT s s2 (i + 1)) := by
  refine h.cg rfl (fun _ _ => rfl) (fun t ht => ?_) (fun _ _ => rfl)
  simp only [mixT, up1]
  by_cases e : t = i
  · subst e; simp
  · have : (t < i + 1) ↔ t < i := by omega
    simp [e, this]
theorem mixI_s {V : zV} {a i : Nat} {s s2 : St} (h : ST V a ((mixI s s2 i).1, (mixI s s2 i).2.1, (mixI s s2 i).2.2.1, up1 (mixI s s2 i).2.2.2 i (s2.2.2.2 i))) : ST V a (mixI s s2 (i + 1)) := by
  refine h.cg rfl (fun _ _ => rfl) (fun _ _ => rfl) (fun t ht => ?_)
  simp only [mixI, up1]
  by_cases e : t = i
  · subst e; simp
  · have : (t < i + 1) ↔ t < i := by omega
    simp [e, this]
theorem mix_TI {V : zV} {a : Nat} {s s2 : St} (h : ST V a (mixT s s2 4)) : ST V a (mixI s s2 0) := h.cg rfl (fun _ _ => rfl) (fun t ht => by simp [mixT, mixI, ht]) (fun i hi => by simp [mixT, mixI])
theorem mix_I {V : zV} {a : Nat} {s s2 : St} (h : ST V a (mixI s s2 2)) : ST V a s2 := h.cg rfl (fun _ _ => rfl) (fun _ _ => rfl) (fun i hi => by simp [mixI, hi])
noncomputable def bo (p : Nat → Prop) : Nat → Int32
  | 0 => nI 0
  | n + 1 => @ite _ (p n) (Classical.propDecidable _) (bo p n ||| (nI 1 <<< (nI n &&& 31))) (bo p n)
theorem bo_y {p : Nat → Prop} {n : Nat} (h : p n) : bo p (n + 1) = (bo p n ||| (nI 1 <<< (nI n &&& 31))) := by rw [bo, if_pos h]
theorem bo_n {p : Nat → Prop} {n : Nat} (h : ¬ p n) : bo p (n + 1) = bo p n := by rw [bo, if_neg h]
/-- what a transaction sees of a row -/
def seen (s : St) (t r : Nat) : Option Nat := match (s.2.2.1 t).2.2 r with
  | some x => x
  | none => vat (s.2.1 r) (s.2.2.1 t).2.1

set_option maxHeartbeats 4000000 in
set_option maxRecDepth 100000 in
theorem lp_STcopyI {D : zD} {z0 nx : Nat} {L : zL} {V : zV} {a b : Nat} {s s2 : St} (hs : sSt L a) (hs2 : sSt L b) (hm : ST V b s2) (hab : a + 40 ≤ b ∨ b + 40 ≤ a) : ∀ (fu : Nat) (i : Nat) (V1 : zV), 2 - i = fu → i ≤ 2 → zEq V V1 a (a + 40) → ST V1 a (mixI s s2 i) → Z D z0 5 0 0 mX7_copyFrom 0 0 65 [some (.ref a), some (.ref b), some (.int (nI i))] [] L V1 nx (zq none L nx (fun V' => zEq V V' a (a + 40) ∧ ST V' a s2)) := by
  intro fu
  induction fu using Nat.strongRecOn with
  | ind fu ih =>
    intro i V1 h_fu h_0 h_1 h_2
    obtain ⟨h1, h2, h3, h4, h5, h6, h7⟩ := hs
    obtain ⟨k1, k2, k3, k4, k5, k6, k7⟩ := hs2
    have hm1 := hm.eq h_1 (by omega)
    obtain ⟨m1, m2, m3, m4⟩ := hm1
    refine z_iload_n dX7_copyFrom_65 rfl ?_
    refine z_iconst (v := nI 2) dX7_copyFrom_66 rfl ?_
    refine z_icmp_geN (tgt := 91) dX7_copyFrom_67 (by decide) (by omega) (by omega) (fun c_67 => ?_) (fun c_67 => ?_)
    · refine z_return dX7_copyFrom_91 (Nat.le_of_ble_eq_true rfl) (Nat.le_of_ble_eq_true rfl) rfl ?_
      have e_i : i = 2 := by omega
      subst e_i
      exact ⟨rfl, rfl, rfl, h_1, mix_I h_2⟩
    · have q1 := i2_at a i (by omega)
      have q2 := i2_at b i (by omega)
      have p1 := h7 i (by omega)
      have p2 := k7 i (by omega)
      refine z_aload_n dX7_copyFrom_70 rfl ?_
      refine z_getR dX7_copyFrom_71 fX7_33 (by first | assumption | exact And.left (by assumption)) rfl ?_
      refine z_iload_n dX7_copyFrom_74 rfl ?_
      refine z_aaldN dX7_copyFrom_75 (by first | assumption | exact And.left (by assumption)) (fun _ => rfl) (by exact Nat.le_of_ble_eq_true rfl) (by assumption) ?_
      refine z_aload_n dX7_copyFrom_76 rfl ?_
      refine z_getR dX7_copyFrom_77 fX7_33 (by first | assumption | exact And.left (by assumption)) rfl ?_
      refine z_iload_n dX7_copyFrom_80 rfl ?_
      refine z_aaldN dX7_copyFrom_81 (by first | assumption | exact And.left (by assumption)) (fun _ => rfl) (by exact Nat.le_of_ble_eq_true rfl) (by assumption) ?_
      refine z_callV1w dX7_copyFrom_82 kX3_copyFrom lX7_53 (by first | assumption | exact And.left (by assumption)) rfl (s_IXcopy p1 (h_2.2.2.2 i (by omega)) p2 (m4 i (by omega)) (by omega)) (Nat.le_of_ble_eq_true rfl) (Nat.le_of_ble_eq_true rfl) ⟨Nat.le_of_ble_eq_true rfl, Nat.le_of_ble_eq_true rfl⟩ ?_
      intro V2 hV2
      refine z_incN dX7_copyFrom_85 rfl rfl ?_
      refine z_goto (tgt := 65) dX7_copyFrom_88 (by decide) ?_
      exact ih _ (by omega) (i + 1) V2 rfl (by omega) (h_1.trans (hV2.1.wide (by omega) (by omega))) (mixI_s (ST_ix h_2 (by omega) hV2.1 hV2.2))

set_option maxHeartbeats 4000000 in
set_option maxRecDepth 100000 in
theorem lp_STcopyT {D : zD} {z0 nx : Nat} {L : zL} {V : zV} {a b : Nat} {s s2 : St} (hs : sSt L a) (hs2 : sSt L b) (hm : ST V b s2) (hab : a + 40 ≤ b ∨ b + 40 ≤ a) : ∀ (fu : Nat) (i : Nat) (V1 : zV), 4 - i = fu → i ≤ 4 → zEq V V1 a (a + 40) → ST V1 a (mixT s s2 i) → Z D z0 5 0 0 mX7_copyFrom 0 0 37 [some (.ref a), some (.ref b), some (.int (nI i))] [] L V1 nx (zq none L nx (fun V' => zEq V V' a (a + 40) ∧ ST V' a s2)) := by
  intro fu
  induction fu using Nat.strongRecOn with
  | ind fu ih =>
    intro i V1 h_fu h_0 h_1 h_2
    have hs0 := hs
    have hs20 := hs2
    have hm0 := hm
    obtain ⟨h1, h2, h3, h4, h5, h6, h7⟩ := hs
    obtain ⟨k1, k2, k3, k4, k5, k6, k7⟩ := hs2
    have hm1 := hm.eq h_1 (by omega)
    obtain ⟨m1, m2, m3, m4⟩ := hm1
    refine z_iload_n dX7_copyFrom_37 rfl ?_
    refine z_iconst (v := nI 4) dX7_copyFrom_38 rfl ?_
    refine z_icmp_geN (tgt := 63) dX7_copyFrom_39 (by decide) (by omega) (by omega) (fun c_39 => ?_) (fun c_39 => ?_)
    · refine z_iconst (v := nI 0) dX7_copyFrom_63 rfl ?_
      refine z_istore_n dX7_copyFrom_64 (Nat.le_of_ble_eq_true rfl) rfl ?_
      have e_i : i = 4 := by omega
      subst e_i
      exact lp_STcopyI hs0 hs20 hm0 hab _ 0 V1 rfl (by omega) h_1 (mix_TI h_2)
    · have q1 := t4_at a i (by omega)
      have q2 := t4_at b i (by omega)
      have p1 := h6 i (by omega)
      have p2 := k6 i (by omega)
      refine z_aload_n dX7_copyFrom_42 rfl ?_
      refine z_getR dX7_copyFrom_43 fX7_27 (by first | assumption | exact And.left (by assumption)) rfl ?_
      refine z_iload_n dX7_copyFrom_46 rfl ?_
      refine z_aaldN dX7_copyFrom_47 (by first | assumption | exact And.left (by assumption)) (fun _ => rfl) (by exact Nat.le_of_ble_eq_true rfl) (by assumption) ?_
      refine z_aload_n dX7_copyFrom_48 rfl ?_
      refine z_getR dX7_copyFrom_49 fX7_27 (by first | assumption | exact And.left (by assumption)) rfl ?_
      refine z_iload_n dX7_copyFrom_52 rfl ?_
      refine z_aaldN dX7_copyFrom_53 (by first | assumption | exact And.left (by assumption)) (fun _ => rfl) (by exact Nat.le_of_ble_eq_true rfl) (by assumption) ?_
      refine z_callV1w dX7_copyFrom_54 kX9_copyFrom lX7_50 (by first | assumption | exact And.left (by assumption)) rfl (s_TRcopy p1 p2 (m3 i (by omega)) (by omega)) (Nat.le_of_ble_eq_true rfl) (Nat.le_of_ble_eq_true rfl) ⟨Nat.le_of_ble_eq_true rfl, Nat.le_of_ble_eq_true rfl⟩ ?_
      intro V2 hV2
      refine z_incN dX7_copyFrom_57 rfl rfl ?_
      refine z_goto (tgt := 37) dX7_copyFrom_60 (by decide) ?_
      exact ih _ (by omega) (i + 1) V2 rfl (by omega) (h_1.trans (hV2.1.wide (by omega) (by omega))) (mixT_s (ST_tr h_2 (by omega) hV2.1 hV2.2))

set_option maxHeartbeats 4000000 in
set_option maxRecDepth 100000 in
theorem s_STcopy {D : zD} {z0 nx : Nat} {L : zL} {V : zV} {a b : Nat} {s s2 : St} (hs : sSt L a) (h : ST V a s) (hs2 : sSt L b) (hm : ST V b s2) (hab : a + 40 ≤ b ∨ b + 40 ≤ a) : Sp D z0 5 0 0 mX7_copyFrom [.ref a, .ref b] L V nx (zq none L nx (fun V' => zEq V V' a (a + 40) ∧ ST V' a s2)) := by
  have hm0 := hm
  have hs20 := hs2
  have hs0 := hs
  have h0 := h
  obtain ⟨h1, h2, h3, h4, h5, h6, h7⟩ := hs
  obtain ⟨g1, g2, g3, g4⟩ := h
  obtain ⟨k1, k2, k3, k4, k5, k6, k7⟩ := hs2
  obtain ⟨⟨n1, n2, n3, n4, n5, n6, n7⟩, -, -, -⟩ := hm
  refine Sp.of 1 (by decide) rfl rfl (Nat.le_of_ble_eq_true rfl) ?_
  refine z_aload_n dX7_copyFrom_0 rfl ?_
  refine z_aload_n dX7_copyFrom_1 rfl ?_
  refine z_getIe dX7_copyFrom_2 fX7_43 (by first | assumption | exact And.left (by assumption)) rfl n1 ?_
  refine z_putI dX7_copyFrom_5 fX7_43 (by first | assumption | exact And.left (by assumption)) rfl ?_
  refine z_aload_n dX7_copyFrom_8 rfl ?_
  refine z_aload_n dX7_copyFrom_9 rfl ?_
  refine z_getIe dX7_copyFrom_10 fX7_9 (by first | assumption | exact And.left (by assumption)) rfl ((congrFun (zup_a (by omega)) _).trans n2) ?_
  refine z_putI dX7_copyFrom_13 fX7_9 (by first | assumption | exact And.left (by assumption)) rfl ?_
  refine z_aload_n dX7_copyFrom_16 rfl ?_
  refine z_aload_n dX7_copyFrom_17 rfl ?_
  refine z_getIe dX7_copyFrom_18 fX7_15 (by first | assumption | exact And.left (by assumption)) rfl ((congrFun ((zup_a (by omega)).trans (zup_a (by omega))) _).trans n3) ?_
  refine z_putI dX7_copyFrom_21 fX7_15 (by first | assumption | exact And.left (by assumption)) rfl ?_
  refine z_aload_n dX7_copyFrom_24 rfl ?_
  refine z_getR dX7_copyFrom_25 fX7_21 (by first | assumption | exact And.left (by assumption)) rfl ?_
  refine z_aload_n dX7_copyFrom_28 rfl ?_
  refine z_getR dX7_copyFrom_29 fX7_21 (by first | assumption | exact And.left (by assumption)) rfl ?_
  have e1 : zEq V (zup (zup (zup V a 0 (nI s2.1.1)) a 1 (nI s2.1.2.1)) a 2 (nI s2.1.2.2)) a (a + 1) := ((zEq.rf.up (by omega) (by omega)).up (by omega) (by omega)).up (by omega) (by omega)
  have i1 := ST_n h0 e1 (n := s2.1) ⟨by simp [zup], by simp [zup], by simp [zup], n4, n5, n6, n7⟩
  have m2 := (hm0.eq e1 (by omega)).2.1
  refine z_callV1w dX7_copyFrom_32 kX10_copyFrom lX7_46 (by first | assumption | exact And.left (by assumption)) rfl (s_VEcopy h2 k2 m2 (by omega)) (Nat.le_of_ble_eq_true rfl) (Nat.le_of_ble_eq_true rfl) ⟨Nat.le_of_ble_eq_true rfl, Nat.le_of_ble_eq_true rfl⟩ ?_
  intro V1 hV1
  have i2 := ST_ve i1 (hV1.1.wide (by omega) (by omega)) hV1.2
  refine z_iconst (v := nI 0) dX7_copyFrom_35 rfl ?_
  refine z_istore_n dX7_copyFrom_36 (Nat.le_of_ble_eq_true rfl) rfl ?_
  exact lp_STcopyT hs0 hs20 hm0 hab _ 0 V1 rfl (by omega) ((e1.wide (by omega) (by omega)).trans (hV1.1.wide (by omega) (by omega))) (i2.cg rfl (fun _ _ => rfl) (fun t ht => by simp [mixT]) (fun _ _ => rfl))

set_option maxHeartbeats 4000000 in
set_option maxRecDepth 100000 in
theorem s_seenN {D : zD} {z0 nx : Nat} {L : zL} {V : zV} {a r : Nat} {s : St} (hs : sSt L a) (h : ST V a s) (hr : r < 48) : Sp D z0 3 0 0 mX7_valueSeen [.ref a, .int (-1), .int (nI r)] L V nx (zi (vv (lst s.2.1 r).2) L V nx) := by
  have hs0 := hs
  have h0 := h
  obtain ⟨h1, h2, h3, h4, h5, h6, h7⟩ := hs
  obtain ⟨g1, g2, g3, g4⟩ := h
  refine Sp.of 1 (by decide) rfl rfl (Nat.le_of_ble_eq_true rfl) ?_
  refine z_iload_n dX7_valueSeen_0 rfl ?_
  refine z_iconst (v := (-1)) dX7_valueSeen_1 rfl ?_
  refine z_icmp_ne (tgt := 14) dX7_valueSeen_2 (by decide) (fun c_2 => ?_) (fun c_2 => ?_)
  · exact absurd rfl c_2
  · refine z_aload_n dX7_valueSeen_5 rfl ?_
    refine z_getR dX7_valueSeen_6 fX7_21 (by first | assumption | exact And.left (by assumption)) rfl ?_
    refine z_iload_n dX7_valueSeen_9 rfl ?_
    refine z_callV1i dX7_valueSeen_10 kX10_latest lX7_56 (by first | assumption | exact And.left (by assumption)) rfl (s_latest (by assumption) (by assumption) (by omega)) (Nat.le_of_ble_eq_true rfl) (Nat.le_of_ble_eq_true rfl) ⟨Nat.le_of_ble_eq_true rfl, Nat.le_of_ble_eq_true rfl⟩ ?_
    refine z_ireturn dX7_valueSeen_13 (Nat.le_of_ble_eq_true rfl) (Nat.le_of_ble_eq_true rfl) rfl ?_
    exact zi_r rfl

set_option maxHeartbeats 4000000 in
set_option maxRecDepth 100000 in
theorem s_seenT {D : zD} {z0 nx : Nat} {L : zL} {V : zV} {a t r : Nat} {s : St} (hs : sSt L a) (h : ST V a s) (ht : t < 4) (hr : r < 48) : Sp D z0 3 0 0 mX7_valueSeen [.ref a, .int (nI t), .int (nI r)] L V nx (zi (vv (seen s t r)) L V nx) := by
  have hs0 := hs
  have h0 := h
  obtain ⟨h1, h2, h3, h4, h5, h6, h7⟩ := hs
  obtain ⟨g1, g2, g3, g4⟩ := h
  have p1 := h6 t ht
  have q1 := t4_at a t ht
  have m0 := g3 t ht
  obtain ⟨p2, p3⟩ := h6 t ht
  obtain ⟨m1, m2, m3, m4, m5, m6⟩ := g3 t ht
  refine Sp.of 1 (by decide) rfl rfl (Nat.le_of_ble_eq_true rfl) ?_
  refine z_iload_n dX7_valueSeen_0 rfl ?_
  refine z_iconst (v := (-1)) dX7_valueSeen_1 rfl ?_
  refine z_icmp_ne (tgt := 14) dX7_valueSeen_2 (by decide) (fun c_2 => ?_) (fun c_2 => ?_)
  · refine z_aload_n dX7_valueSeen_14 rfl ?_
    refine z_getR dX7_valueSeen_15 fX7_27 (by first | assumption | exact And.left (by assumption)) rfl ?_
    refine z_iload_n dX7_valueSeen_18 rfl ?_
    refine z_aaldN dX7_valueSeen_19 (by first | assumption | exact And.left (by assumption)) (fun _ => rfl) (by exact Nat.le_of_ble_eq_true rfl) (by assumption) ?_
    refine z_astore_n dX7_valueSeen_20 (Nat.le_of_ble_eq_true rfl) rfl ?_
    refine z_aload_n dX7_valueSeen_21 rfl ?_
    refine z_iload_n dX7_valueSeen_22 rfl ?_
    refine z_callV1i dX7_valueSeen_23 kX9_hasWritten lX7_60 (by first | assumption | exact And.left (by assumption)) rfl (s_hasWritten (by assumption) (by assumption) (by omega)) (Nat.le_of_ble_eq_true rfl) (Nat.le_of_ble_eq_true rfl) ⟨Nat.le_of_ble_eq_true rfl, Nat.le_of_ble_eq_true rfl⟩ ?_
    refine z_if_eqB (tgt := 38) dX7_valueSeen_26 (by decide) (fun c_26 => ?_) (fun c_26 => ?_)
    · refine z_aload_n dX7_valueSeen_38 rfl ?_
      refine z_getR dX7_valueSeen_39 fX7_21 (by first | assumption | exact And.left (by assumption)) rfl ?_
      refine z_iload_n dX7_valueSeen_42 rfl ?_
      refine z_aload_n dX7_valueSeen_43 rfl ?_
      refine z_getIe dX7_valueSeen_44 fX7_67 (by first | assumption | exact And.left (by assumption)) rfl (by first | assumption | exact zup_s _ _ _ _ | rfl) ?_
      refine z_callV2i dX7_valueSeen_47 kX10_valueAt lX7_70 (by first | assumption | exact And.left (by assumption)) rfl (s_valueAt h2 g2 hr m5) (Nat.le_of_ble_eq_true rfl) (Nat.le_of_ble_eq_true rfl) ⟨Nat.le_of_ble_eq_true rfl, Nat.le_of_ble_eq_true rfl⟩ ?_
      refine z_ireturn dX7_valueSeen_50 (Nat.le_of_ble_eq_true rfl) (Nat.le_of_ble_eq_true rfl) rfl ?_
      exact zi_r (by first | (rw [seen, hu] <;> rfl) | (rw [seen, show (s.2.2.1 t).2.2 r = none from Classical.byContradiction c_26]))
    · obtain ⟨u, hu⟩ := Option.ne_none_iff_exists'.mp c_26
      have hw := m4 r hr
      rw [hu] at hw
      refine z_aload_n dX7_valueSeen_29 rfl ?_
      refine z_getR dX7_valueSeen_30 fX7_64 (by first | assumption | exact And.left (by assumption)) rfl ?_
      refine z_iload_n dX7_valueSeen_33 rfl ?_
      refine z_ialdN dX7_valueSeen_34 (by first | assumption | exact And.left (by assumption)) (by omega) (by decide) hw ?_
      refine z_goto (tgt := 50) dX7_valueSeen_35 (by decide) ?_
      refine z_ireturn dX7_valueSeen_50 (Nat.le_of_ble_eq_true rfl) (Nat.le_of_ble_eq_true rfl) rfl ?_
      exact zi_r (by first | (rw [seen, hu] <;> rfl) | (rw [seen, show (s.2.2.1 t).2.2 r = none from Classical.byContradiction c_26]))
  · exact absurd c_2 (nI_ne_m1 (by omega))

set_option maxHeartbeats 4000000 in
set_option maxRecDepth 100000 in
theorem lp_lastRound {D : zD} {z0 nx : Nat} {L : zL} {V : zV} {a : Nat} {s : St} (hs : sSt L a) (h : ST V a s) : ∀ (fu : Nat) (i : Nat), 2 - i = fu → i ≤ 2 → (∀ k, k < i → ¬ ((s.2.2.2 k).1.1 = 3)) → Z D z0 1 0 0 mX7_hasLastRound 0 0 2 [some (.ref a), some (.int (nI i))] [] L V nx (zi (zb (∃ k, k < 2 ∧ ((s.2.2.2 k).1.1 = 3))) L V nx) := by
  intro fu
  induction fu using Nat.strongRecOn with
  | ind fu ih =>
    intro i h_fu h_0 h_1
    have hs0 := hs
    have h0 := h
    obtain ⟨h1, h2, h3, h4, h5, h6, h7⟩ := hs
    obtain ⟨g1, g2, g3, g4⟩ := h
    refine z_iload_n dX7_hasLastRound_2 rfl ?_
    refine z_iconst (v := nI 2) dX7_hasLastRound_3 rfl ?_
    refine z_icmp_geN (tgt := 28) dX7_hasLastRound_4 (by decide) (by omega) (by omega) (fun c_4 => ?_) (fun c_4 => ?_)
    · refine z_iconst (v := nI 0) dX7_hasLastRound_28 rfl ?_
      refine z_zreturn dX7_hasLastRound_29 (Nat.le_of_ble_eq_true rfl) (Nat.le_of_ble_eq_true rfl) rfl (by first | exact Or.inl rfl | exact Or.inr rfl | exact zb_01 _ | assumption) ?_
      exact zi_r (zb_f (fun q => by obtain ⟨k, k1, k2⟩ := q; exact h_1 k (by omega) k2)).symm
    · have q1 := i2_at a i (by omega)
      have p1 := h7 i (by omega)
      have p2 := p1.1
      have x0 := g4 i (by omega)
      obtain ⟨⟨⟨x1, x2, x3, x4, x5⟩, x6, x7, x8, x9, x10⟩, xd, xe, xn, xl⟩ := g4 i (by omega)
      refine z_aload_n dX7_hasLastRound_7 rfl ?_
      refine z_getR dX7_hasLastRound_8 fX7_33 (by first | assumption | exact And.left (by assumption)) rfl ?_
      refine z_iload_n dX7_hasLastRound_11 rfl ?_
      refine z_aaldN dX7_hasLastRound_12 (by first | assumption | exact And.left (by assumption)) (fun _ => rfl) (by exact Nat.le_of_ble_eq_true rfl) (by assumption) ?_
      refine z_getIe dX7_hasLastRound_13 fX7_111 (by first | assumption | exact And.left (by assumption)) rfl (by first | assumption | exact zup_s _ _ _ _ | rfl) ?_
      refine z_iconst (v := nI 3) dX7_hasLastRound_16 rfl ?_
      refine z_icmp_neN (tgt := 22) dX7_hasLastRound_17 (by decide) (by omega) (by omega) (fun c_17 => ?_) (fun c_17 => ?_)
      · refine z_incN dX7_hasLastRound_22 rfl rfl ?_
        refine z_goto (tgt := 2) dX7_hasLastRound_25 (by decide) ?_
        exact ih _ (by omega) (i + 1) rfl (by omega) (lt_s h_1 c_17)
      · refine z_iconst (v := nI 1) dX7_hasLastRound_20 rfl ?_
        refine z_zreturn dX7_hasLastRound_21 (Nat.le_of_ble_eq_true rfl) (Nat.le_of_ble_eq_true rfl) rfl (by first | exact Or.inl rfl | exact Or.inr rfl | exact zb_01 _ | assumption) ?_
        exact zi_r (zb_t ⟨i, by omega, c_17⟩).symm

set_option maxHeartbeats 4000000 in
set_option maxRecDepth 100000 in
theorem s_lastRound {D : zD} {z0 nx : Nat} {L : zL} {V : zV} {a : Nat} {s : St} (hs : sSt L a) (h : ST V a s) : Sp D z0 1 0 0 mX7_hasLastRound [.ref a] L V nx (zi (zb (∃ k, k < 2 ∧ ((s.2.2.2 k).1.1 = 3))) L V nx) := by
  refine Sp.of 1 (by decide) rfl rfl (Nat.le_of_ble_eq_true rfl) ?_
  refine z_iconst (v := nI 0) dX7_hasLastRound_0 rfl ?_
  refine z_istore_n dX7_hasLastRound_1 (Nat.le_of_ble_eq_true rfl) rfl ?_
  exact lp_lastRound hs h _ 0 rfl (by omega) (fun k hk => absurd hk (by omega))

set_option maxHeartbeats 4000000 in
set_option maxRecDepth 100000 in
theorem lp_beingWritten {D : zD} {z0 nx : Nat} {L : zL} {V : zV} {a r : Nat} {s : St} (hs : sSt L a) (h : ST V a s) (hr : r < 48) : ∀ (fu : Nat) (i : Nat), 4 - i = fu → i ≤ 4 → (∀ k, k < i → ¬ ((s.2.2.1 k).2.2 r ≠ none)) → Z D z0 2 0 0 mX7_isBeingWritten 0 0 2 [some (.ref a), some (.int (nI r)), some (.int (nI i))] [] L V nx (zi (zb (∃ k, k < 4 ∧ ((s.2.2.1 k).2.2 r ≠ none))) L V nx) := by
  intro fu
  induction fu using Nat.strongRecOn with
  | ind fu ih =>
    intro i h_fu h_0 h_1
    have hs0 := hs
    have h0 := h
    obtain ⟨h1, h2, h3, h4, h5, h6, h7⟩ := hs
    obtain ⟨g1, g2, g3, g4⟩ := h
    refine z_iload_n dX7_isBeingWritten_2 rfl ?_
    refine z_iconst (v := nI 4) dX7_isBeingWritten_3 rfl ?_
    refine z_icmp_geN (tgt := 28) dX7_isBeingWritten_4 (by decide) (by omega) (by omega) (fun c_4 => ?_) (fun c_4 => ?_)
    · refine z_iconst (v := nI 0) dX7_isBeingWritten_28 rfl ?_
      refine z_zreturn dX7_isBeingWritten_29 (Nat.le_of_ble_eq_true rfl) (Nat.le_of_ble_eq_true rfl) rfl (by first | exact Or.inl rfl | exact Or.inr rfl | exact zb_01 _ | assumption) ?_
      exact zi_r (zb_f (fun q => by obtain ⟨k, k1, k2⟩ := q; exact h_1 k (by omega) k2)).symm
    · have q1 := t4_at a i (by omega)
      have p1 := h6 i (by omega)
      obtain ⟨p2, p3⟩ := h6 i (by omega)
      have m0 := g3 i (by omega)
      obtain ⟨m1, m2, m3, m4, m5, m6⟩ := g3 i (by omega)
      refine z_aload_n dX7_isBeingWritten_7 rfl ?_
      refine z_getR dX7_isBeingWritten_8 fX7_27 (by first | assumption | exact And.left (by assumption)) rfl ?_
      refine z_iload_n dX7_isBeingWritten_11 rfl ?_
      refine z_aaldN dX7_isBeingWritten_12 (by first | assumption | exact And.left (by assumption)) (fun _ => rfl) (by exact Nat.le_of_ble_eq_true rfl) (by assumption) ?_
      refine z_iload_n dX7_isBeingWritten_13 rfl ?_
      refine z_callV1i dX7_isBeingWritten_14 kX9_hasWritten lX7_60 (by first | assumption | exact And.left (by assumption)) rfl (s_hasWritten (by assumption) (by assumption) (by omega)) (Nat.le_of_ble_eq_true rfl) (Nat.le_of_ble_eq_true rfl) ⟨Nat.le_of_ble_eq_true rfl, Nat.le_of_ble_eq_true rfl⟩ ?_
      refine z_if_eqB (tgt := 22) dX7_isBeingWritten_17 (by decide) (fun c_17 => ?_) (fun c_17 => ?_)
      · refine z_incN dX7_isBeingWritten_22 rfl rfl ?_
        refine z_goto (tgt := 2) dX7_isBeingWritten_25 (by decide) ?_
        exact ih _ (by omega) (i + 1) rfl (by omega) (lt_s h_1 c_17)
      · refine z_iconst (v := nI 1) dX7_isBeingWritten_20 rfl ?_
        refine z_zreturn dX7_isBeingWritten_21 (Nat.le_of_ble_eq_true rfl) (Nat.le_of_ble_eq_true rfl) rfl (by first | exact Or.inl rfl | exact Or.inr rfl | exact zb_01 _ | assumption) ?_
        exact zi_r (zb_t ⟨i, by omega, c_17⟩).symm

set_option maxHeartbeats 4000000 in
set_option maxRecDepth 100000 in
theorem s_beingWritten {D : zD} {z0 nx : Nat} {L : zL} {V : zV} {a r : Nat} {s : St} (hs : sSt L a) (h : ST V a s) (hr : r < 48) : Sp D z0 2 0 0 mX7_isBeingWritten [.ref a, .int (nI r)] L V nx (zi (zb (∃ k, k < 4 ∧ ((s.2.2.1 k).2.2 r ≠ none))) L V nx) := by
  refine Sp.of 1 (by decide) rfl rfl (Nat.le_of_ble_eq_true rfl) ?_
  refine z_iconst (v := nI 0) dX7_isBeingWritten_0 rfl ?_
  refine z_istore_n dX7_isBeingWritten_1 (Nat.le_of_ble_eq_true rfl) rfl ?_
  exact lp_beingWritten hs h hr _ 0 rfl (by omega) (fun k hk => absurd hk (by omega))

set_option maxHeartbeats 4000000 in
set_option maxRecDepth 100000 in
theorem lp_openT {D : zD} {z0 nx : Nat} {L : zL} {V : zV} {a : Nat} {s : St} (hs : sSt L a) (h : ST V a s) : ∀ (fu : Nat) (i : Nat), 4 - i = fu → i ≤ 4 → Z D z0 1 0 0 mX7_openTransactions 0 0 4 [some (.ref a), some (.int (bo (fun t => (s.2.2.1 t).1 = true) i)), some (.int (nI i))] [] L V nx (zi (bo (fun t => (s.2.2.1 t).1 = true) 4) L V nx) := by
  intro fu
  induction fu using Nat.strongRecOn with
  | ind fu ih =>
    intro i h_fu h_0
    have hs0 := hs
    have h0 := h
    obtain ⟨h1, h2, h3, h4, h5, h6, h7⟩ := hs
    obtain ⟨g1, g2, g3, g4⟩ := h
    refine z_iload_n dX7_openTransactions_4 rfl ?_
    refine z_iconst (v := nI 4) dX7_openTransactions_5 rfl ?_
    refine z_icmp_geN (tgt := 33) dX7_openTransactions_6 (by decide) (by omega) (by omega) (fun c_6 => ?_) (fun c_6 => ?_)
    · refine z_iload_n dX7_openTransactions_33 rfl ?_
      refine z_ireturn dX7_openTransactions_34 (Nat.le_of_ble_eq_true rfl) (Nat.le_of_ble_eq_true rfl) rfl ?_
      exact zi_r (by rw [show i = 4 by omega])
    · have q1 := t4_at a i (by omega)
      have p1 := h6 i (by omega)
      obtain ⟨p2, p3⟩ := h6 i (by omega)
      have m0 := g3 i (by omega)
      obtain ⟨m1, m2, m3, m4, m5, m6⟩ := g3 i (by omega)
      refine z_aload_n dX7_openTransactions_9 rfl ?_
      refine z_getR dX7_openTransactions_10 fX7_27 (by first | assumption | exact And.left (by assumption)) rfl ?_
      refine z_iload_n dX7_openTransactions_13 rfl ?_
      refine z_aaldN dX7_openTransactions_14 (by first | assumption | exact And.left (by assumption)) (fun _ => rfl) (by exact Nat.le_of_ble_eq_true rfl) (by assumption) ?_
      refine z_getIe dX7_openTransactions_15 fX7_114 (by first | assumption | exact And.left (by assumption)) rfl (by first | assumption | exact zup_s _ _ _ _ | rfl) ?_
      refine z_if_eqB (tgt := 27) dX7_openTransactions_18 (by decide) (fun c_18 => ?_) (fun c_18 => ?_)
      · refine z_incN dX7_openTransactions_27 rfl rfl ?_
        refine z_goto (tgt := 4) dX7_openTransactions_30 (by decide) ?_
        first
          | (have hz := ih _ (by omega) (i + 1) rfl (by omega); rw [bo_y (p := fun t => (s.2.2.1 t).1 = true) c_18] at hz; exact hz)
          | (have hz := ih _ (by omega) (i + 1) rfl (by omega); rw [bo_n (p := fun t => (s.2.2.1 t).1 = true) c_18] at hz; exact hz)
      · refine z_iload_n dX7_openTransactions_21 rfl ?_
        refine z_iconst (v := nI 1) dX7_openTransactions_22 rfl ?_
        refine z_iload_n dX7_openTransactions_23 rfl ?_
        refine z_ishl dX7_openTransactions_24 ?_
        refine z_ior dX7_openTransactions_25 ?_
        refine z_istore_n dX7_openTransactions_26 (Nat.le_of_ble_eq_true rfl) rfl ?_
        refine z_incN dX7_openTransactions_27 rfl rfl ?_
        refine z_goto (tgt := 4) dX7_openTransactions_30 (by decide) ?_
        first
          | (have hz := ih _ (by omega) (i + 1) rfl (by omega); rw [bo_y (p := fun t => (s.2.2.1 t).1 = true) c_18] at hz; exact hz)
          | (have hz := ih _ (by omega) (i + 1) rfl (by omega); rw [bo_n (p := fun t => (s.2.2.1 t).1 = true) c_18] at hz; exact hz)

set_option maxHeartbeats 4000000 in
set_option maxRecDepth 100000 in
theorem s_openT {D : zD} {z0 nx : Nat} {L : zL} {V : zV} {a : Nat} {s : St} (hs : sSt L a) (h : ST V a s) : Sp D z0 1 0 0 mX7_openTransactions [.ref a] L V nx (zi (bo (fun t => (s.2.2.1 t).1 = true) 4) L V nx) := by
  refine Sp.of 2 (by decide) rfl rfl (Nat.le_of_ble_eq_true rfl) ?_
  refine z_iconst (v := nI 0) dX7_openTransactions_0 rfl ?_
  refine z_istore_n dX7_openTransactions_1 (Nat.le_of_ble_eq_true rfl) rfl ?_
  refine z_iconst (v := nI 0) dX7_openTransactions_2 rfl ?_
  refine z_istore_n dX7_openTransactions_3 (Nat.le_of_ble_eq_true rfl) rfl ?_
  exact lp_openT hs h _ 0 rfl (by omega)

set_option maxHeartbeats 4000000 in
set_option maxRecDepth 100000 in
theorem lp_conflict {D : zD} {z0 nx : Nat} {L : zL} {V : zV} {a c : Nat} {s : St} {t : Tr} (hs : sSt L a) (h : ST V a s) (hs2 : sTr L c) (ht : TR V c t) : ∀ (fu : Nat) (i : Nat), 48 - i = fu → i ≤ 48 → (∀ k, k < i → ¬ (t.2.2 k ≠ none ∧ t.2.1 < (lst s.2.1 k).1)) → Z D z0 3 0 0 mX7_hasConflict 0 0 2 [some (.ref a), some (.ref c), some (.int (nI i))] [] L V nx (zi (zb (∃ k, k < 48 ∧ (t.2.2 k ≠ none ∧ t.2.1 < (lst s.2.1 k).1))) L V nx) := by
  intro fu
  induction fu using Nat.strongRecOn with
  | ind fu ih =>
    intro i h_fu h_0 h_1
    have hs0 := hs
    have h0 := h
    obtain ⟨h1, h2, h3, h4, h5, h6, h7⟩ := hs
    obtain ⟨g1, g2, g3, g4⟩ := h
    have hs20 := hs2
    have ht0 := ht
    obtain ⟨p2, p3⟩ := hs2
    obtain ⟨m1, m2, m3, m4, m5, m6⟩ := ht
    refine z_iload_n dX7_hasConflict_2 rfl ?_
    refine z_bipush (v := nI 48) dX7_hasConflict_3 rfl ?_
    refine z_icmp_geN (tgt := 39) dX7_hasConflict_5 (by decide) (by omega) (by omega) (fun c_5 => ?_) (fun c_5 => ?_)
    · refine z_iconst (v := nI 0) dX7_hasConflict_39 rfl ?_
      refine z_zreturn dX7_hasConflict_40 (Nat.le_of_ble_eq_true rfl) (Nat.le_of_ble_eq_true rfl) rfl (by first | exact Or.inl rfl | exact Or.inr rfl | exact zb_01 _ | assumption) ?_
      exact zi_r (zb_f (fun q => by obtain ⟨k, k1, k2⟩ := q; exact h_1 k (by omega) k2)).symm
    · refine z_aload_n dX7_hasConflict_8 rfl ?_
      refine z_iload_n dX7_hasConflict_9 rfl ?_
      refine z_callV1i dX7_hasConflict_10 kX9_hasWritten lX7_60 (by first | assumption | exact And.left (by assumption)) rfl (s_hasWritten (by assumption) (by assumption) (by omega)) (Nat.le_of_ble_eq_true rfl) (Nat.le_of_ble_eq_true rfl) ⟨Nat.le_of_ble_eq_true rfl, Nat.le_of_ble_eq_true rfl⟩ ?_
      refine z_if_eqB (tgt := 33) dX7_hasConflict_13 (by decide) (fun c_13 => ?_) (fun c_13 => ?_)
      · refine z_incN dX7_hasConflict_33 rfl rfl ?_
        refine z_goto (tgt := 2) dX7_hasConflict_36 (by decide) ?_
        first
          | exact ih _ (by omega) (i + 1) rfl (by omega) (lt_s h_1 (fun q => c_13 q.1))
          | exact ih _ (by omega) (i + 1) rfl (by omega) (lt_s h_1 (fun q => by have := q.2; omega))
      · refine z_aload_n dX7_hasConflict_16 rfl ?_
        refine z_getR dX7_hasConflict_17 fX7_21 (by first | assumption | exact And.left (by assumption)) rfl ?_
        refine z_iload_n dX7_hasConflict_20 rfl ?_
        refine z_callV1i dX7_hasConflict_21 kX10_latestSeq lX7_132 (by first | assumption | exact And.left (by assumption)) rfl (s_latestSeq (by assumption) (by assumption) (by omega)) (Nat.le_of_ble_eq_true rfl) (Nat.le_of_ble_eq_true rfl) ⟨Nat.le_of_ble_eq_true rfl, Nat.le_of_ble_eq_true rfl⟩ ?_
        refine z_aload_n dX7_hasConflict_24 rfl ?_
        refine z_getIe dX7_hasConflict_25 fX7_67 (by first | assumption | exact And.left (by assumption)) rfl (by first | assumption | exact zup_s _ _ _ _ | rfl) ?_
        have b1 := (g2.lst (r := i) (by omega)).1
        refine z_icmp_leN (tgt := 33) dX7_hasConflict_28 (by decide) (by omega) (by omega) (fun c_28 => ?_) (fun c_28 => ?_)
        · refine z_incN dX7_hasConflict_33 rfl rfl ?_
          refine z_goto (tgt := 2) dX7_hasConflict_36 (by decide) ?_
          first
            | exact ih _ (by omega) (i + 1) rfl (by omega) (lt_s h_1 (fun q => c_13 q.1))
            | exact ih _ (by omega) (i + 1) rfl (by omega) (lt_s h_1 (fun q => by have := q.2; omega))
        · refine z_iconst (v := nI 1) dX7_hasConflict_31 rfl ?_
          refine z_zreturn dX7_hasConflict_32 (Nat.le_of_ble_eq_true rfl) (Nat.le_of_ble_eq_true rfl) rfl (by first | exact Or.inl rfl | exact Or.inr rfl | exact zb_01 _ | assumption) ?_
          exact zi_r (zb_t ⟨i, by omega, c_13, c_28⟩).symm

set_option maxHeartbeats 4000000 in
set_option maxRecDepth 100000 in
theorem s_conflict {D : zD} {z0 nx : Nat} {L : zL} {V : zV} {a c : Nat} {s : St} {t : Tr} (hs : sSt L a) (h : ST V a s) (hs2 : sTr L c) (ht : TR V c t) : Sp D z0 3 0 0 mX7_hasConflict [.ref a, .ref c] L V nx (zi (zb (∃ k, k < 48 ∧ (t.2.2 k ≠ none ∧ t.2.1 < (lst s.2.1 k).1))) L V nx) := by
  refine Sp.of 1 (by decide) rfl rfl (Nat.le_of_ble_eq_true rfl) ?_
  refine z_iconst (v := nI 0) dX7_hasConflict_0 rfl ?_
  refine z_istore_n dX7_hasConflict_1 (Nat.le_of_ble_eq_true rfl) rfl ?_
  exact lp_conflict hs h hs2 ht _ 0 rfl (by omega) (fun k hk => absurd hk (by omega))

set_option maxHeartbeats 4000000 in
set_option maxRecDepth 100000 in
theorem lp_fullRow {D : zD} {z0 nx : Nat} {L : zL} {V : zV} {a c : Nat} {s : St} {t : Tr} (hs : sSt L a) (h : ST V a s) (hs2 : sTr L c) (ht : TR V c t) : ∀ (fu : Nat) (i : Nat), 48 - i = fu → i ≤ 48 → (∀ k, k < i → ¬ (t.2.2 k ≠ none ∧ 8 ≤ (s.2.1 k).length)) → Z D z0 2 0 0 mX7_hasFullRow 0 0 2 [some (.ref a), some (.ref c), some (.int (nI i))] [] L V nx (zi (zb (∃ k, k < 48 ∧ (t.2.2 k ≠ none ∧ 8 ≤ (s.2.1 k).length))) L V nx) := by
  intro fu
  induction fu using Nat.strongRecOn with
  | ind fu ih =>
    intro i h_fu h_0 h_1
    have hs0 := hs
    have h0 := h
    obtain ⟨h1, h2, h3, h4, h5, h6, h7⟩ := hs
    obtain ⟨g1, g2, g3, g4⟩ := h
    have hs20 := hs2
    have ht0 := ht
    obtain ⟨p2, p3⟩ := hs2
    obtain ⟨m1, m2, m3, m4, m5, m6⟩ := ht
    refine z_iload_n dX7_hasFullRow_2 rfl ?_
    refine z_bipush (v := nI 48) dX7_hasFullRow_3 rfl ?_
    refine z_icmp_geN (tgt := 35) dX7_hasFullRow_5 (by decide) (by omega) (by omega) (fun c_5 => ?_) (fun c_5 => ?_)
    · refine z_iconst (v := nI 0) dX7_hasFullRow_35 rfl ?_
      refine z_zreturn dX7_hasFullRow_36 (Nat.le_of_ble_eq_true rfl) (Nat.le_of_ble_eq_true rfl) rfl (by first | exact Or.inl rfl | exact Or.inr rfl | exact zb_01 _ | assumption) ?_
      exact zi_r (zb_f (fun q => by obtain ⟨k, k1, k2⟩ := q; exact h_1 k (by omega) k2)).symm
    · refine z_aload_n dX7_hasFullRow_8 rfl ?_
      refine z_iload_n dX7_hasFullRow_9 rfl ?_
      refine z_callV1i dX7_hasFullRow_10 kX9_hasWritten lX7_60 (by first | assumption | exact And.left (by assumption)) rfl (s_hasWritten (by assumption) (by assumption) (by omega)) (Nat.le_of_ble_eq_true rfl) (Nat.le_of_ble_eq_true rfl) ⟨Nat.le_of_ble_eq_true rfl, Nat.le_of_ble_eq_true rfl⟩ ?_
      refine z_if_eqB (tgt := 29) dX7_hasFullRow_13 (by decide) (fun c_13 => ?_) (fun c_13 => ?_)
      · refine z_incN dX7_hasFullRow_29 rfl rfl ?_
        refine z_goto (tgt := 2) dX7_hasFullRow_32 (by decide) ?_
        first
          | exact ih _ (by omega) (i + 1) rfl (by omega) (lt_s h_1 (fun q => c_13 q.1))
          | exact ih _ (by omega) (i + 1) rfl (by omega) (lt_s h_1 (fun q => c_24 q.2))
      · refine z_aload_n dX7_hasFullRow_16 rfl ?_
        refine z_getR dX7_hasFullRow_17 fX7_21 (by first | assumption | exact And.left (by assumption)) rfl ?_
        refine z_iload_n dX7_hasFullRow_20 rfl ?_
        refine z_callV1i dX7_hasFullRow_21 kX10_isFull lX7_135 (by first | assumption | exact And.left (by assumption)) rfl (s_VEfull (by assumption) (by assumption) (by omega)) (Nat.le_of_ble_eq_true rfl) (Nat.le_of_ble_eq_true rfl) ⟨Nat.le_of_ble_eq_true rfl, Nat.le_of_ble_eq_true rfl⟩ ?_
        refine z_if_eqB (tgt := 29) dX7_hasFullRow_24 (by decide) (fun c_24 => ?_) (fun c_24 => ?_)
        · refine z_incN dX7_hasFullRow_29 rfl rfl ?_
          refine z_goto (tgt := 2) dX7_hasFullRow_32 (by decide) ?_
          first
            | exact ih _ (by omega) (i + 1) rfl (by omega) (lt_s h_1 (fun q => c_13 q.1))
            | exact ih _ (by omega) (i + 1) rfl (by omega) (lt_s h_1 (fun q => c_24 q.2))
        · refine z_iconst (v := nI 1) dX7_hasFullRow_27 rfl ?_
          refine z_zreturn dX7_hasFullRow_28 (Nat.le_of_ble_eq_true rfl) (Nat.le_of_ble_eq_true rfl) rfl (by first | exact Or.inl rfl | exact Or.inr rfl | exact zb_01 _ | assumption) ?_
          exact zi_r (zb_t ⟨i, by omega, c_13, c_24⟩).symm

set_option maxHeartbeats 4000000 in
set_option maxRecDepth 100000 in
theorem s_fullRow {D : zD} {z0 nx : Nat} {L : zL} {V : zV} {a c : Nat} {s : St} {t : Tr} (hs : sSt L a) (h : ST V a s) (hs2 : sTr L c) (ht : TR V c t) : Sp D z0 2 0 0 mX7_hasFullRow [.ref a, .ref c] L V nx (zi (zb (∃ k, k < 48 ∧ (t.2.2 k ≠ none ∧ 8 ≤ (s.2.1 k).length))) L V nx) := by
  refine Sp.of 1 (by decide) rfl rfl (Nat.le_of_ble_eq_true rfl) ?_
  refine z_iconst (v := nI 0) dX7_hasFullRow_0 rfl ?_
  refine z_istore_n dX7_hasFullRow_1 (Nat.le_of_ble_eq_true rfl) rfl ?_
  exact lp_fullRow hs h hs2 ht _ 0 rfl (by omega) (fun k hk => absurd hk (by omega))

