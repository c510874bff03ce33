/-! the reference: its world, its smallest methods -/
def sM (L : zL) (m : Nat) : Prop := L m = some (.inr (.inr (12, [none, some (.ref (m + 1)), some (.ref (m + 2)), none, some (.ref (m + 3)), some (.ref (m + 4)), none, some (.ref (m + 5)), some (.ref (m + 6)), none, none, none, none, none, some (.ref (m + 7)), some (.ref (m + 8)), none, none, none, none, none, some (.ref (m + 9)), some (.ref (m + 10)), some (.ref (m + 11)), none, none, none, some (.ref (m + 12)), none, none, some (.ref (m + 13)), some (.ref (m + 14)), some (.ref (m + 15)), none]))) ∧ L (m + 1) = some (.inl (0, 16029)) ∧ L (m + 2) = some (.inl (0, 42744)) ∧ L (m + 3) = some (.inl (1, 2)) ∧ L (m + 4) = some (.inl (0, 3)) ∧ L (m + 5) = some (.inl (1, 8)) ∧ L (m + 6) = some (.inl (2, 100)) ∧ L (m + 7) = some (.inl (0, 13)) ∧ L (m + 8) = some (.inl (2, 45)) ∧ L (m + 9) = some (.inl (0, 12)) ∧ L (m + 10) = some (.inl (0, 3)) ∧ L (m + 11) = some (.inl (0, 15)) ∧ L (m + 12) = some (.inl (0, 48)) ∧ L (m + 13) = some (.inl (1, 4)) ∧ L (m + 14) = some (.inl (0, 3)) ∧ L (m + 15) = some (.inl (0, 48))
/-- what lies at a place of the reference's row: a row that is there, or none -/
def AT (f : Nat → Int32) (p : Nat) (v : Option Nat) : Prop := match v with
  | none => f (p + 1) = nI 0
  | some q => f (p + 1) = nI 1 ∧ q < 1000000 ∧ ∀ j, j < 3 → f (p + 2 + j) = nI (pt q j)
def wk (ws : List (Nat × Option Nat)) (k : Nat) : Nat × Option Nat := ws.getD k (0, none)
def MTw (f : Nat → Int32) (b : Nat) (ws : List (Nat × Option Nat)) (t : Tr) : Prop := f (b + 2) = nI ws.length ∧ ws.length ≤ 8 ∧ nwr t = ws.length ∧ (∀ k, k < ws.length → f (b + 3 + 5 * k) = nI (wk ws k).1 ∧ (wk ws k).1 < 48 ∧ AT f (b + 3 + 5 * k) (wk ws k).2 ∧ t.2.2 (wk ws k).1 = some (wk ws k).2) ∧ (∀ j k, j < k → k < ws.length → ¬ (wk ws j).1 = (wk ws k).1) ∧ ∀ r, r < 48 → ∀ x, t.2.2 r = some x → ∃ k, k < ws.length ∧ wk ws k = (r, x)
def MT (f : Nat → Int32) (b : Nat) (t : Tr) : Prop := f (b + 0) = zb (t.1 = true) ∧ f (b + 1) = nI t.2.1 ∧ t.2.1 < 1000000 ∧ ∃ ws : List (Nat × Option Nat), MTw f b ws t
/-- the k-th part of a key, as it was -/
def kr (d : Df) (r k : Nat) : Nat := tu (d.1.getD k (0, false)).2 (pt r k)
def MK (f : Nat → Int32) (p : Nat) (d : Df) (r : Nat) : Prop := ∀ j, j < d.1.length → f (p + j) = nI (kr d r j)
def MXn (f : Nat → Int32) (b : Nat) (x : Nat × Nat × Nat × Nat × Nat) : Prop := f (b + 0) = nI x.1 ∧ f (b + 1) = (if x.1 = 1 then nI x.2.2.1 else -1) ∧ f (b + 2) = nI x.2.2.2.1 ∧ f (b + 3) = (if x.1 = 1 then nI x.2.1 else -1) ∧ f (b + 12) = nI x.2.2.2.2
def MXd (f : Nat → Int32) (b : Nat) (d : Df) : Prop := f (b + 4) = zb (d.2.1 = true) ∧ f (b + 5) = nI d.1.length ∧ (∀ k, k < 3 → f (b + (6 + k)) = tc d k) ∧ f (b + 9) = (if d.2.2.1 then nI d.2.2.2.1 else -1) ∧ f (b + 10) = nI d.2.2.2.2.1 ∧ f (b + 11) = nI d.2.2.2.2.2
def Dfb (d : Df) : Prop := d.1.length ≤ 3 ∧ (∀ k, k < d.1.length → (d.1.getD k (0, false)).1 < 3) ∧ d.2.2.2.1 < 3 ∧ d.2.2.2.2.1 < 4 ∧ d.2.2.2.2.2 < 100
def MXe (f : Nat → Int32) (b : Nat) (d : Df) (l : List Nat) : Prop := f (b + 13) = nI l.length ∧ ∀ k, k < l.length → f (b + 16 + 4 * k) = nI (l.getD k 0 % 64) ∧ MK f (b + 16 + 4 * k + 1) d (l.getD k 0 / 64)
def MXl (f : Nat → Int32) (b n q : Nat) (d : Df) (l : List Nat) : Prop := f (b + n) = nI l.length ∧ ∀ k, k < l.length → f (b + q + 5 * k) = nI (l.getD k 0 % 2) ∧ f (b + q + 5 * k + 1) = nI (l.getD k 0 / 2 % 64) ∧ MK f (b + q + 5 * k + 2) d (l.getD k 0 / 2 / 64)
/-- a rank by a definition: nothing behind its columns -/
def RV (d : Df) (r : Nat) : Prop := r < 1000000 ∧ ∀ k, d.1.length ≤ k → k < 3 → pt r k = 0
def IXv (x : Ix) : Prop := (∀ c ∈ x.2.2.1, RV x.2.1 (c / 64)) ∧ (∀ c ∈ x.2.2.2.1, RV x.2.1 (c / 2 / 64)) ∧ ∀ c ∈ x.2.2.2.2, RV x.2.1 (c / 2 / 64)
def IXb (x : Ix) : Prop := x.1.1 < 6 ∧ x.1.2.1 < 1000000 ∧ x.1.2.2.1 ≤ 48 ∧ x.1.2.2.2.1 < 1000000 ∧ x.1.2.2.2.2 < 4 ∧ Dfb x.2.1 ∧ x.2.2.1.length ≤ 48 ∧ x.2.2.2.1.length ≤ 120 ∧ x.2.2.2.2.length ≤ 120 ∧ cdb x ∧ IXv x
def MX (f : Nat → Int32) (b : Nat) (x : Ix) : Prop := MXn f b x.1 ∧ MXd f b x.2.1 ∧ MXe f b x.2.1 x.2.2.1 ∧ MXl f b 14 400 x.2.1 x.2.2.2.1 ∧ MXl f b 15 1000 x.2.1 x.2.2.2.2 ∧ IXb x
def MVr (f : Nat → Int32) (r : Nat) (l : List (Nat × Option Nat)) : Prop := f (1920 + r) = nI l.length ∧ 1 ≤ l.length ∧ l.length ≤ 8 ∧ ∀ k, k < l.length → f (40 * r + 5 * k) = nI (vk l k).1 ∧ (vk l k).1 < 1000000 ∧ AT f (40 * r + 5 * k) (vk l k).2
def MN (f : Nat → Int32) (n : Nat × Nat × Nat) : Prop := f 5340 = nI n.1 ∧ f 5341 = nI n.2.1 ∧ f 5342 = nI n.2.2 ∧ n.1 < 900000 ∧ n.2.1 ≤ 20 ∧ 1 ≤ n.2.2 ∧ n.2.2 ≤ 9
/-- a block of the reference's row holds a store -/
def MB (f : Nat → Int32) (s : St) : Prop := MN f s.1 ∧ (∀ r, r < 48 → MVr f r (s.2.1 r)) ∧ (∀ t, t < 4 → MT f (1968 + 43 * t) (s.2.2.1 t)) ∧ ∀ i, i < 2 → MX f (2140 + 1600 * i) (s.2.2.2 i)
/-- two rows of numbers are the same from lo on below hi -/
def sm_ (f g : Nat → Int32) (lo hi : Nat) : Prop := ∀ j, lo ≤ j → j < hi → g j = f j
theorem AT.cg {f g : Nat → Int32} {p : Nat} {v : Option Nat} (h : AT f p v) (e : sm_ f g p (p + 5)) : AT g p v := by
  cases v with
  | none => show g (p + 1) = _; rw [e _ (by omega) (by omega)]; exact h
  | some q => exact ⟨by rw [e _ (by omega) (by omega)]; exact h.1, h.2.1, fun j hj => by rw [e _ (by omega) (by omega)]; exact h.2.2 j hj⟩
theorem MK.cg {f g : Nat → Int32} {p r : Nat} {d : Df} (h : MK f p d r) (hd : d.1.length ≤ 3) (e : sm_ f g p (p + 3)) : MK g p d r := fun j hj => by rw [e _ (by omega) (by omega)]; exact h j hj
theorem MT.cg {f g : Nat → Int32} {b : Nat} {t : Tr} (h : MT f b t) (e : sm_ f g b (b + 43)) : MT g b t := by
  obtain ⟨h1, h2, h3, ws, h4, h5, h6, h7, h8⟩ := h
  refine ⟨by rw [e _ (by omega) (by omega)]; exact h1, by rw [e _ (by omega) (by omega)]; exact h2, h3, ws, by rw [e _ (by omega) (by omega)]; exact h4, h5, h6, fun k hk => ?_, h8⟩
  obtain ⟨k1, k2, k3, k4⟩ := h7 k hk
  exact ⟨by rw [e _ (by omega) (by omega)]; exact k1, k2, k3.cg (fun j h1 h2 => e j (by omega) (by omega)), k4⟩
theorem MXn.cg {f g : Nat → Int32} {b : Nat} {x : Nat × Nat × Nat × Nat × Nat} (h : MXn f b x) (e : sm_ f g b (b + 13)) : MXn g b x := by
  obtain ⟨h1, h2, h3, h4, h5⟩ := h
  exact ⟨by rw [e _ (by omega) (by omega)]; exact h1, by rw [e _ (by omega) (by omega)]; exact h2, by rw [e _ (by omega) (by omega)]; exact h3, by rw [e _ (by omega) (by omega)]; exact h4, by rw [e _ (by omega) (by omega)]; exact h5⟩
theorem MXd.cg {f g : Nat → Int32} {b : Nat} {d : Df} (h : MXd f b d) (e : sm_ f g b (b + 12)) : MXd g b d := by
  obtain ⟨h1, h2, h3, h4, h5, h6⟩ := h
  exact ⟨by rw [e _ (by omega) (by omega)]; exact h1, by rw [e _ (by omega) (by omega)]; exact h2, fun k hk => by rw [e _ (by omega) (by omega)]; exact h3 k hk, by rw [e _ (by omega) (by omega)]; exact h4, by rw [e _ (by omega) (by omega)]; exact h5, by rw [e _ (by omega) (by omega)]; exact h6⟩
theorem MXe.cg {f g : Nat → Int32} {b : Nat} {d : Df} {l : List Nat} (h : MXe f b d l) (hd : d.1.length ≤ 3) (hl : l.length ≤ 48) (e : sm_ f g (b + 13) (b + 208)) : MXe g b d l := by
  refine ⟨by rw [e _ (by omega) (by omega)]; exact h.1, fun k hk => ?_⟩
  obtain ⟨h1, h2⟩ := h.2 k hk
  exact ⟨by rw [e _ (by omega) (by omega)]; exact h1, h2.cg hd (fun j k1 k2 => e j (by omega) (by omega))⟩
theorem MXl.cg {f g : Nat → Int32} {b n q : Nat} {d : Df} {l : List Nat} (h : MXl f b n q d l) (hd : d.1.length ≤ 3) (hl : l.length ≤ 120) (hn : g (b + n) = f (b + n)) (e : sm_ f g (b + q) (b + q + 600)) : MXl g b n q d l := by
  refine ⟨by rw [hn]; exact h.1, fun k hk => ?_⟩
  obtain ⟨h1, h2, h3⟩ := h.2 k hk
  exact ⟨by rw [e _ (by omega) (by omega)]; exact h1, by rw [e _ (by omega) (by omega)]; exact h2, h3.cg hd (fun j k1 k2 => e j (by omega) (by omega))⟩
theorem MX.cg {f g : Nat → Int32} {b : Nat} {x : Ix} (h : MX f b x) (e : sm_ f g b (b + 1600)) : MX g b x := by
  obtain ⟨h1, h2, h3, h4, h5, h6⟩ := h
  have hd := h6.2.2.2.2.2.1.1
  have hb := h6.2.2.2.2.2.2
  exact ⟨h1.cg (fun j _ _ => e j (by omega) (by omega)), h2.cg (fun j _ _ => e j (by omega) (by omega)), h3.cg hd hb.1 (fun j _ _ => e j (by omega) (by omega)), h4.cg hd hb.2.1 (e _ (by omega) (by omega)) (fun j _ _ => e j (by omega) (by omega)), h5.cg hd hb.2.2.1 (e _ (by omega) (by omega)) (fun j _ _ => e j (by omega) (by omega)), h6⟩
theorem MVr.cg {f g : Nat → Int32} {r : Nat} {l : List (Nat × Option Nat)} (h : MVr f r l) (hr : r < 48) (e1 : g (1920 + r) = f (1920 + r)) (e : sm_ f g (40 * r) (40 * r + 40)) : MVr g r l := by
  obtain ⟨h1, h2, h3, h4⟩ := h
  refine ⟨by rw [e1]; exact h1, h2, h3, fun k hk => ?_⟩
  obtain ⟨k1, k2, k3⟩ := h4 k hk
  exact ⟨by rw [e _ (by omega) (by omega)]; exact k1, k2, k3.cg (fun j _ _ => e j (by omega) (by omega))⟩
theorem MB.cg {f g : Nat → Int32} {s : St} (h : MB f s) (e : sm_ f g 0 5343) : MB g s := by
  obtain ⟨⟨h1, h2, h3, h4⟩, h5, h6, h7⟩ := h
  refine ⟨⟨by rw [e _ (by omega) (by omega)]; exact h1, by rw [e _ (by omega) (by omega)]; exact h2, by rw [e _ (by omega) (by omega)]; exact h3, h4⟩, fun r hr => (h5 r hr).cg hr (e _ (by omega) (by omega)) (fun j _ _ => e j (by omega) (by omega)), fun t ht => (h6 t ht).cg (fun j _ _ => e j (by omega) (by omega)), fun i hi => (h7 i hi).cg (fun j _ _ => e j (by omega) (by omega))⟩
theorem MB_ix {f g : Nat → Int32} {s : St} {i : Nat} {x : Ix} (h : MB f s) (hi : i < 2) (e1 : sm_ f g 0 (2140 + 1600 * i)) (e2 : sm_ f g (2140 + 1600 * i + 1600) 5343) (hx : MX g (2140 + 1600 * i) x) : MB g (setX s i x) := by
  obtain ⟨⟨h1, h2, h3, h4⟩, h5, h6, h7⟩ := h
  refine ⟨⟨by rw [e2 _ (by omega) (by omega)]; exact h1, by rw [e2 _ (by omega) (by omega)]; exact h2, by rw [e2 _ (by omega) (by omega)]; exact h3, h4⟩, fun r hr => (h5 r hr).cg hr (e1 _ (by omega) (by omega)) (fun j _ _ => e1 j (by omega) (by omega)), fun t ht => (h6 t ht).cg (fun j _ _ => e1 j (by omega) (by omega)), fun k hk => ?_⟩
  show MX g _ (up1 s.2.2.2 i x k)
  by_cases c : k = i
  · subst c; rw [up1_s]; exact hx
  · rw [up1_o c]
    by_cases c2 : k < i
    · exact (h7 k hk).cg (fun j _ _ => e1 j (by omega) (by omega))
    · exact (h7 k hk).cg (fun j _ _ => e2 j (by omega) (by omega))
theorem MB_tr {f g : Nat → Int32} {s : St} {t : Nat} {x : Tr} (h : MB f s) (ht : t < 4) (e1 : sm_ f g 0 (1968 + 43 * t)) (e2 : sm_ f g (1968 + 43 * t + 43) 5343) (hx : MT g (1968 + 43 * t) x) : MB g (setT s t x) := by
  obtain ⟨⟨h1, h2, h3, h4⟩, h5, h6, h7⟩ := h
  refine ⟨⟨by rw [e2 _ (by omega) (by omega)]; exact h1, by rw [e2 _ (by omega) (by omega)]; exact h2, by rw [e2 _ (by omega) (by omega)]; exact h3, h4⟩, fun r hr => (h5 r hr).cg hr (e1 _ (by omega) (by omega)) (fun j _ _ => e1 j (by omega) (by omega)), fun k hk => ?_, fun i hi => (h7 i hi).cg (fun j _ _ => e2 j (by omega) (by omega))⟩
  show MT g _ (up1 s.2.2.1 t x k)
  by_cases c : k = t
  · subst c; rw [up1_s]; exact hx
  · rw [up1_o c]
    by_cases c2 : k < t
    · exact (h6 k hk).cg (fun j _ _ => e1 j (by omega) (by omega))
    · exact (h6 k hk).cg (fun j _ _ => e2 j (by omega) (by omega))

theorem rng_i {x : Int32} {n : Nat} (hn : n < 1000) : ((0 : Int) ≤ x.toInt ∧ x.toInt ≤ (n : Int)) ↔ rng (n + 1) x := by
  constructor
  · rintro ⟨h1, h2⟩
    refine ⟨x.toInt.toNat, by omega, ?_⟩
    apply Int32.toInt_inj.mp
    rw [nI_toInt (by omega)]
    omega
  · rintro ⟨k, hk, rfl⟩
    rw [nI_toInt (by omega)]
    omega

set_option maxHeartbeats 4000000 in
set_option maxRecDepth 100000 in
theorem s_isIn {D : zD} {z0 nx : Nat} {L : zL} {V : zV} {v l h : Int64} : Sp D z0 1 0 0 mX12_isIn [.long v, .long l, .long h] L V nx (zi (zb (l.toInt ≤ v.toInt ∧ v.toInt ≤ h.toInt)) L V nx) := by
  refine Sp.of 0 (by decide) rfl rfl (Nat.le_of_ble_eq_true rfl) ?_
  refine z_lload_n dX12_isIn_0 rfl ?_
  refine z_lload_n dX12_isIn_1 rfl ?_
  refine z_lcmp dX12_isIn_2 ?_
  refine z_if_lt (tgt := 17) dX12_isIn_3 (by decide) (fun c_3 => ?_) (fun c_3 => ?_)
  · have c1 := Int64.lt_iff_toInt_lt.mp ((lg_cmp_lt _ _).mp c_3)
    have hF : ¬ (l.toInt ≤ v.toInt ∧ v.toInt ≤ h.toInt) := fun q => absurd q.1 (by omega)
    refine z_iconst (v := nI 0) dX12_isIn_17 rfl ?_
    refine z_zreturn dX12_isIn_18 (Nat.le_of_ble_eq_true rfl) (Nat.le_of_ble_eq_true rfl) rfl (by first | exact Or.inl rfl | exact Or.inr rfl | exact zb_01 _ | assumption) ?_
    exact zi_r (by first | exact (zb_t hY).symm | exact (zb_f hF).symm)
  · have c1 : ¬ v.toInt < l.toInt := fun q => c_3 ((lg_cmp_lt _ _).mpr (Int64.lt_iff_toInt_lt.mpr q))
    refine z_lload_n dX12_isIn_6 rfl ?_
    refine z_lload dX12_isIn_7 rfl ?_
    refine z_lcmp dX12_isIn_9 ?_
    refine z_if_gt (tgt := 17) dX12_isIn_10 (by decide) (fun c_10 => ?_) (fun c_10 => ?_)
    · have c2 := Int64.lt_iff_toInt_lt.mp ((lg_cmp_gt _ _).mp c_10)
      have hF : ¬ (l.toInt ≤ v.toInt ∧ v.toInt ≤ h.toInt) := fun q => absurd q.2 (by omega)
      refine z_iconst (v := nI 0) dX12_isIn_17 rfl ?_
      refine z_zreturn dX12_isIn_18 (Nat.le_of_ble_eq_true rfl) (Nat.le_of_ble_eq_true rfl) rfl (by first | exact Or.inl rfl | exact Or.inr rfl | exact zb_01 _ | assumption) ?_
      exact zi_r (by first | exact (zb_t hY).symm | exact (zb_f hF).symm)
    · have c2 : ¬ h.toInt < v.toInt := fun q => c_10 ((lg_cmp_gt _ _).mpr (Int64.lt_iff_toInt_lt.mpr q))
      have hY : l.toInt ≤ v.toInt ∧ v.toInt ≤ h.toInt := ⟨by omega, by omega⟩
      refine z_iconst (v := nI 1) dX12_isIn_13 rfl ?_
      refine z_goto (tgt := 18) dX12_isIn_14 (by decide) ?_
      refine z_zreturn dX12_isIn_18 (Nat.le_of_ble_eq_true rfl) (Nat.le_of_ble_eq_true rfl) rfl (by first | exact Or.inl rfl | exact Or.inr rfl | exact zb_01 _ | assumption) ?_
      exact zi_r (by first | exact (zb_t hY).symm | exact (zb_f hF).symm)

set_option maxHeartbeats 4000000 in
set_option maxRecDepth 100000 in
theorem s_mT {D : zD} {z0 nx : Nat} {L : zL} {V : zV} {x : Int32} : Sp D z0 2 0 0 mX12_isTransaction [.int x] L V nx (zi (zb (rng 4 x)) L V nx) := by
  refine Sp.of 0 (by decide) rfl rfl (Nat.le_of_ble_eq_true rfl) ?_
  refine z_iload_n dX12_isTransaction_0 rfl ?_
  refine z_i2l dX12_isTransaction_1 ?_
  refine z_lconst dX12_isTransaction_2 rfl ?_
  refine z_ldc2 dX12_isTransaction_3 qX12_84 ?_
  refine z_callS3i dX12_isTransaction_6 kX12_isIn lX12_86 (s_isIn (v := x.toInt64)) (Nat.le_of_ble_eq_true rfl) (Nat.le_of_ble_eq_true rfl) ⟨Nat.le_of_ble_eq_true rfl, Nat.le_of_ble_eq_true rfl⟩ ?_
  refine z_zreturn dX12_isTransaction_9 (Nat.le_of_ble_eq_true rfl) (Nat.le_of_ble_eq_true rfl) rfl (by first | exact Or.inl rfl | exact Or.inr rfl | exact zb_01 _ | assumption) ?_
  exact zi_r (zb_iff (by rw [Int32.toInt_toInt64]; exact rng_i (n := 3) (by decide)))

set_option maxHeartbeats 4000000 in
set_option maxRecDepth 100000 in
theorem s_mRow {D : zD} {z0 nx : Nat} {L : zL} {V : zV} {x : Int32} : Sp D z0 2 0 0 mX12_isRow [.int x] L V nx (zi (zb (rng 48 x)) L V nx) := by
  refine Sp.of 0 (by decide) rfl rfl (Nat.le_of_ble_eq_true rfl) ?_
  refine z_iload_n dX12_isRow_0 rfl ?_
  refine z_i2l dX12_isRow_1 ?_
  refine z_lconst dX12_isRow_2 rfl ?_
  refine z_ldc2 dX12_isRow_3 qX12_90 ?_
  refine z_callS3i dX12_isRow_6 kX12_isIn lX12_86 (s_isIn (v := x.toInt64)) (Nat.le_of_ble_eq_true rfl) (Nat.le_of_ble_eq_true rfl) ⟨Nat.le_of_ble_eq_true rfl, Nat.le_of_ble_eq_true rfl⟩ ?_
  refine z_zreturn dX12_isRow_9 (Nat.le_of_ble_eq_true rfl) (Nat.le_of_ble_eq_true rfl) rfl (by first | exact Or.inl rfl | exact Or.inr rfl | exact zb_01 _ | assumption) ?_
  exact zi_r (zb_iff (by rw [Int32.toInt_toInt64]; exact rng_i (n := 47) (by decide)))

set_option maxHeartbeats 4000000 in
set_option maxRecDepth 100000 in
theorem s_mIx {D : zD} {z0 nx : Nat} {L : zL} {V : zV} {x : Int32} : Sp D z0 2 0 0 mX12_isIndex [.int x] L V nx (zi (zb (rng 2 x)) L V nx) := by
  refine Sp.of 0 (by decide) rfl rfl (Nat.le_of_ble_eq_true rfl) ?_
  refine z_iload_n dX12_isIndex_0 rfl ?_
  refine z_i2l dX12_isIndex_1 ?_
  refine z_lconst dX12_isIndex_2 rfl ?_
  refine z_lconst dX12_isIndex_3 rfl ?_
  refine z_callS3i dX12_isIndex_4 kX12_isIn lX12_86 (s_isIn (v := x.toInt64)) (Nat.le_of_ble_eq_true rfl) (Nat.le_of_ble_eq_true rfl) ⟨Nat.le_of_ble_eq_true rfl, Nat.le_of_ble_eq_true rfl⟩ ?_
  refine z_zreturn dX12_isIndex_7 (Nat.le_of_ble_eq_true rfl) (Nat.le_of_ble_eq_true rfl) rfl (by first | exact Or.inl rfl | exact Or.inr rfl | exact zb_01 _ | assumption) ?_
  exact zi_r (zb_iff (by rw [Int32.toInt_toInt64]; exact rng_i (n := 1) (by decide)))

set_option maxHeartbeats 4000000 in
set_option maxRecDepth 100000 in
theorem s_mVal {D : zD} {z0 nx : Nat} {L : zL} {V : zV} {x : Int32} : Sp D z0 2 0 0 mX12_isValue [.int x] L V nx (zi (zb (rng 100 x)) L V nx) := by
  refine Sp.of 0 (by decide) rfl rfl (Nat.le_of_ble_eq_true rfl) ?_
  refine z_iload_n dX12_isValue_0 rfl ?_
  refine z_i2l dX12_isValue_1 ?_
  refine z_lconst dX12_isValue_2 rfl ?_
  refine z_ldc2 dX12_isValue_3 qX12_92 ?_
  refine z_callS3i dX12_isValue_6 kX12_isIn lX12_86 (s_isIn (v := x.toInt64)) (Nat.le_of_ble_eq_true rfl) (Nat.le_of_ble_eq_true rfl) ⟨Nat.le_of_ble_eq_true rfl, Nat.le_of_ble_eq_true rfl⟩ ?_
  refine z_zreturn dX12_isValue_9 (Nat.le_of_ble_eq_true rfl) (Nat.le_of_ble_eq_true rfl) rfl (by first | exact Or.inl rfl | exact Or.inr rfl | exact zb_01 _ | assumption) ?_
  exact zi_r (zb_iff (by rw [Int32.toInt_toInt64]; exact rng_i (n := 99) (by decide)))

set_option maxHeartbeats 4000000 in
set_option maxRecDepth 100000 in
theorem s_ofIx {D : zD} {z0 nx : Nat} {L : zL} {V : zV} {m i k : Nat} {x : Int32} (hm : sM L m) (hi : i < 2) (hk : k < 1600) (hx : V (m + 1) (2140 + 1600 * i + k) = x) : Sp D z0 1 0 0 mX12_ofIndex [.ref m, .int (nI i), .int (nI k)] L V nx (zi x L V nx) := by
  have hm0 := hm
  obtain ⟨a0, a1, a2, a3, a4, a5, a6, a7, a8, a9, a10, a11, a12, a13, a14, a15⟩ := hm
  refine Sp.of 0 (by decide) rfl rfl (Nat.le_of_ble_eq_true rfl) ?_
  refine z_aload_n dX12_ofIndex_0 rfl ?_
  refine z_getR dX12_ofIndex_1 fX12_13 (by first | assumption | exact And.left (by assumption)) rfl ?_
  refine z_sipush (v := nI 2140) dX12_ofIndex_4 rfl ?_
  refine z_sipush (v := nI 1600) dX12_ofIndex_7 rfl ?_
  refine z_iload_n dX12_ofIndex_10 rfl ?_
  refine z_mulN dX12_ofIndex_11 ?_
  refine z_addN dX12_ofIndex_12 ?_
  refine z_iload_n dX12_ofIndex_13 rfl ?_
  refine z_addN dX12_ofIndex_14 ?_
  refine z_ialdN dX12_ofIndex_15 (by first | assumption | exact And.left (by assumption)) (by omega) (by decide) hx ?_
  refine z_ireturn dX12_ofIndex_16 (Nat.le_of_ble_eq_true rfl) (Nat.le_of_ble_eq_true rfl) rfl ?_
  exact zi_r rfl

set_option maxHeartbeats 4000000 in
set_option maxRecDepth 100000 in
theorem s_lays {D : zD} {z0 nx : Nat} {L : zL} {V : zV} {m i k : Nat} {x : Int32} (hm : sM L m) (hi : i < 2) (hk : k < 1600) : Sp D z0 1 0 0 mX12_laysIndex [.ref m, .int (nI i), .int (nI k), .int x] L V nx (zq none L nx (fun V' => V' = zup V (m + 1) (2140 + 1600 * i + k) x)) := by
  have hm0 := hm
  obtain ⟨a0, a1, a2, a3, a4, a5, a6, a7, a8, a9, a10, a11, a12, a13, a14, a15⟩ := hm
  refine Sp.of 0 (by decide) rfl rfl (Nat.le_of_ble_eq_true rfl) ?_
  refine z_aload_n dX12_laysIndex_0 rfl ?_
  refine z_getR dX12_laysIndex_1 fX12_13 (by first | assumption | exact And.left (by assumption)) rfl ?_
  refine z_sipush (v := nI 2140) dX12_laysIndex_4 rfl ?_
  refine z_sipush (v := nI 1600) dX12_laysIndex_7 rfl ?_
  refine z_iload_n dX12_laysIndex_10 rfl ?_
  refine z_mulN dX12_laysIndex_11 ?_
  refine z_addN dX12_laysIndex_12 ?_
  refine z_iload_n dX12_laysIndex_13 rfl ?_
  refine z_addN dX12_laysIndex_14 ?_
  refine z_iload_n dX12_laysIndex_15 rfl ?_
  refine z_iastN dX12_laysIndex_16 (by first | assumption | exact And.left (by assumption)) (by omega) (by decide) ?_
  refine z_return dX12_laysIndex_17 (Nat.le_of_ble_eq_true rfl) (Nat.le_of_ble_eq_true rfl) rfl ?_
  exact ⟨rfl, rfl, rfl, rfl⟩

set_option maxHeartbeats 4000000 in
set_option maxRecDepth 100000 in
theorem s_ofTr {D : zD} {z0 nx : Nat} {L : zL} {V : zV} {m t k : Nat} {x : Int32} (hm : sM L m) (hi : t < 4) (hk : k < 43) (hx : V (m + 1) (1968 + 43 * t + k) = x) : Sp D z0 1 0 0 mX12_ofTransaction [.ref m, .int (nI t), .int (nI k)] L V nx (zi x L V nx) := by
  have hm0 := hm
  obtain ⟨a0, a1, a2, a3, a4, a5, a6, a7, a8, a9, a10, a11, a12, a13, a14, a15⟩ := hm
  refine Sp.of 0 (by decide) rfl rfl (Nat.le_of_ble_eq_true rfl) ?_
  refine z_aload_n dX12_ofTransaction_0 rfl ?_
  refine z_getR dX12_ofTransaction_1 fX12_13 (by first | assumption | exact And.left (by assumption)) rfl ?_
  refine z_sipush (v := nI 1968) dX12_ofTransaction_4 rfl ?_
  refine z_bipush (v := nI 43) dX12_ofTransaction_7 rfl ?_
  refine z_iload_n dX12_ofTransaction_9 rfl ?_
  refine z_mulN dX12_ofTransaction_10 ?_
  refine z_addN dX12_ofTransaction_11 ?_
  refine z_iload_n dX12_ofTransaction_12 rfl ?_
  refine z_addN dX12_ofTransaction_13 ?_
  refine z_ialdN dX12_ofTransaction_14 (by first | assumption | exact And.left (by assumption)) (by omega) (by decide) hx ?_
  refine z_ireturn dX12_ofTransaction_15 (Nat.le_of_ble_eq_true rfl) (Nat.le_of_ble_eq_true rfl) rfl ?_
  exact zi_r rfl

set_option maxHeartbeats 4000000 in
set_option maxRecDepth 100000 in
theorem s_mOpen {D : zD} {z0 nx : Nat} {L : zL} {V : zV} {m t : Nat} {x : Tr} (hm : sM L m) (ht : t < 4) (hx : MT (V (m + 1)) (1968 + 43 * t) x) : Sp D z0 2 0 0 mX12_isOpen [.ref m, .int (nI t)] L V nx (zi (zb (x.1 = true)) L V nx) := by
  have hm0 := hm
  refine Sp.of 0 (by decide) rfl rfl (Nat.le_of_ble_eq_true rfl) ?_
  refine z_aload_n dX12_isOpen_0 rfl ?_
  refine z_iload_n dX12_isOpen_1 rfl ?_
  refine z_iconst (v := nI 0) dX12_isOpen_2 rfl ?_
  refine z_callV2i dX12_isOpen_3 kX12_ofTransaction lX12_94 (by first | assumption | exact And.left (by assumption)) rfl (s_ofTr hm0 ht (by omega) hx.1) (Nat.le_of_ble_eq_true rfl) (Nat.le_of_ble_eq_true rfl) ⟨Nat.le_of_ble_eq_true rfl, Nat.le_of_ble_eq_true rfl⟩ ?_
  refine z_iconst (v := nI 1) dX12_isOpen_6 rfl ?_
  refine z_icmp_ne (tgt := 14) dX12_isOpen_7 (by decide) (fun c_7 => ?_) (fun c_7 => ?_)
  · refine z_iconst (v := nI 0) dX12_isOpen_14 rfl ?_
    refine z_zreturn dX12_isOpen_15 (Nat.le_of_ble_eq_true rfl) (Nat.le_of_ble_eq_true rfl) rfl (by first | exact Or.inl rfl | exact Or.inr rfl | exact zb_01 _ | assumption) ?_
    exact zi_r (by first | exact c_7.symm | (rw [zb_f (fun q => c_7 (zb_t q))] <;> rfl))
  · refine z_iconst (v := nI 1) dX12_isOpen_10 rfl ?_
    refine z_goto (tgt := 15) dX12_isOpen_11 (by decide) ?_
    refine z_zreturn dX12_isOpen_15 (Nat.le_of_ble_eq_true rfl) (Nat.le_of_ble_eq_true rfl) rfl (by first | exact Or.inl rfl | exact Or.inr rfl | exact zb_01 _ | assumption) ?_
    exact zi_r (by first | exact c_7.symm | (rw [zb_f (fun q => c_7 (zb_t q))] <;> rfl))

set_option maxHeartbeats 4000000 in
set_option maxRecDepth 100000 in
theorem s_mLatest {D : zD} {z0 nx : Nat} {L : zL} {V : zV} {m r : Nat} {l : List (Nat × Option Nat)} (hm : sM L m) (hr : r < 48) (hx : MVr (V (m + 1)) r l) : Sp D z0 1 0 0 mX12_latest [.ref m, .int (nI r)] L V nx (zi (nI (40 * r + 5 * (l.length - 1))) L V nx) := by
  have hm0 := hm
  obtain ⟨a0, a1, a2, a3, a4, a5, a6, a7, a8, a9, a10, a11, a12, a13, a14, a15⟩ := hm
  obtain ⟨x1, x2, x3, x4⟩ := hx
  refine Sp.of 0 (by decide) rfl rfl (Nat.le_of_ble_eq_true rfl) ?_
  refine z_bipush (v := nI 40) dX12_latest_0 rfl ?_
  refine z_iload_n dX12_latest_2 rfl ?_
  refine z_mulN dX12_latest_3 ?_
  refine z_iconst (v := nI 5) dX12_latest_4 rfl ?_
  refine z_aload_n dX12_latest_5 rfl ?_
  refine z_getR dX12_latest_6 fX12_13 (by first | assumption | exact And.left (by assumption)) rfl ?_
  refine z_sipush (v := nI 1920) dX12_latest_9 rfl ?_
  refine z_iload_n dX12_latest_12 rfl ?_
  refine z_addN dX12_latest_13 ?_
  refine z_ialdN dX12_latest_14 (by first | assumption | exact And.left (by assumption)) (by omega) (by decide) x1 ?_
  refine z_iconst (v := nI 1) dX12_latest_15 rfl ?_
  refine z_subN dX12_latest_16 (by omega) ?_
  refine z_mulN dX12_latest_17 ?_
  refine z_addN dX12_latest_18 ?_
  refine z_ireturn dX12_latest_19 (Nat.le_of_ble_eq_true rfl) (Nat.le_of_ble_eq_true rfl) rfl ?_
  exact zi_r rfl

/-- the place of the version seen, of the first j + 1 -/
def vpl (l : List (Nat × Option Nat)) (s : Nat) : Nat → Nat
  | 0 => 0
  | j + 1 => if (vk l (j + 1)).1 ≤ s then j + 1 else vpl l s j
theorem vpl_le (l : List (Nat × Option Nat)) (s : Nat) : ∀ j, vpl l s j ≤ j
  | 0 => Nat.le_refl _
  | j + 1 => by
    have := vpl_le l s j
    unfold vpl
    split <;> omega

set_option maxHeartbeats 4000000 in
set_option maxRecDepth 100000 in
theorem lp_verAt {D : zD} {z0 nx : Nat} {L : zL} {V : zV} {m r sn : Nat} {l : List (Nat × Option Nat)} (hm : sM L m) (hr : r < 48) (hx : MVr (V (m + 1)) r l) (hsn : sn < 1000000) : ∀ (fu : Nat) (j : Nat), l.length - j = fu → 1 ≤ j ∧ j ≤ l.length → Z D z0 1 0 0 mX12_versionAt 0 0 8 [some (.ref m), some (.int (nI r)), some (.int (nI sn)), some (.int (nI (40 * r + 5 * vpl l sn (j - 1)))), some (.int (nI j))] [] L V nx (zi (nI (40 * r + 5 * vpl l sn (l.length - 1))) L V nx) := by
  intro fu
  induction fu using Nat.strongRecOn with
  | ind fu ih =>
    intro j h_fu h_0
    have hm0 := hm
    obtain ⟨a0, a1, a2, a3, a4, a5, a6, a7, a8, a9, a10, a11, a12, a13, a14, a15⟩ := hm
    obtain ⟨x1, x2, x3, x4⟩ := hx
    obtain ⟨j1, j2⟩ := h_0
    have hvl := vpl_le l sn (j - 1)
    refine z_iload dX12_versionAt_8 rfl ?_
    refine z_aload_n dX12_versionAt_10 rfl ?_
    refine z_getR dX12_versionAt_11 fX12_13 (by first | assumption | exact And.left (by assumption)) rfl ?_
    refine z_sipush (v := nI 1920) dX12_versionAt_14 rfl ?_
    refine z_iload_n dX12_versionAt_17 rfl ?_
    refine z_addN dX12_versionAt_18 ?_
    refine z_ialdN dX12_versionAt_19 (by first | assumption | exact And.left (by assumption)) (by omega) (by decide) x1 ?_
    refine z_icmp_geN (tgt := 57) dX12_versionAt_20 (by decide) (by omega) (by omega) (fun c_20 => ?_) (fun c_20 => ?_)
    · refine z_iload_n dX12_versionAt_57 rfl ?_
      refine z_ireturn dX12_versionAt_58 (Nat.le_of_ble_eq_true rfl) (Nat.le_of_ble_eq_true rfl) rfl ?_
      exact zi_r (by rw [show j - 1 = l.length - 1 by omega])
    · refine z_aload_n dX12_versionAt_23 rfl ?_
      refine z_getR dX12_versionAt_24 fX12_13 (by first | assumption | exact And.left (by assumption)) rfl ?_
      refine z_bipush (v := nI 40) dX12_versionAt_27 rfl ?_
      refine z_iload_n dX12_versionAt_29 rfl ?_
      refine z_mulN dX12_versionAt_30 ?_
      refine z_iconst (v := nI 5) dX12_versionAt_31 rfl ?_
      refine z_iload dX12_versionAt_32 rfl ?_
      refine z_mulN dX12_versionAt_34 ?_
      refine z_addN dX12_versionAt_35 ?_
      refine z_ialdN dX12_versionAt_36 (by first | assumption | exact And.left (by assumption)) (by omega) (by decide) (x4 j (by omega)).1 ?_
      have b1 := (x4 j (by omega)).2.1
      refine z_iload_n dX12_versionAt_37 rfl ?_
      refine z_icmp_gtN (tgt := 51) dX12_versionAt_38 (by decide) (by omega) (by omega) (fun c_38 => ?_) (fun c_38 => ?_)
      · have eN : vpl l sn (j + 1 - 1) = vpl l sn (j - 1) := by
          rw [show j + 1 - 1 = (j - 1) + 1 by omega, vpl, show j - 1 + 1 = j by omega, if_neg (by omega)]
        refine z_incN dX12_versionAt_51 rfl rfl ?_
        refine z_goto (tgt := 8) dX12_versionAt_54 (by decide) ?_
        have hz := ih _ (by omega) (j + 1) rfl (by omega)
        rw [eN] at hz
        exact hz
      · have eN : vpl l sn (j + 1 - 1) = j := by
          rw [show j + 1 - 1 = (j - 1) + 1 by omega, vpl, show j - 1 + 1 = j by omega, if_pos (by omega)]
        refine z_bipush (v := nI 40) dX12_versionAt_41 rfl ?_
        refine z_iload_n dX12_versionAt_43 rfl ?_
        refine z_mulN dX12_versionAt_44 ?_
        refine z_iconst (v := nI 5) dX12_versionAt_45 rfl ?_
        refine z_iload dX12_versionAt_46 rfl ?_
        refine z_mulN dX12_versionAt_48 ?_
        refine z_addN dX12_versionAt_49 ?_
        refine z_istore_n dX12_versionAt_50 (Nat.le_of_ble_eq_true rfl) rfl ?_
        refine z_incN dX12_versionAt_51 rfl rfl ?_
        refine z_goto (tgt := 8) dX12_versionAt_54 (by decide) ?_
        have hz := ih _ (by omega) (j + 1) rfl (by omega)
        rw [eN] at hz
        exact hz

set_option maxHeartbeats 4000000 in
set_option maxRecDepth 100000 in
theorem s_mVer {D : zD} {z0 nx : Nat} {L : zL} {V : zV} {m r sn : Nat} {l : List (Nat × Option Nat)} (hm : sM L m) (hr : r < 48) (hx : MVr (V (m + 1)) r l) (hsn : sn < 1000000) : Sp D z0 1 0 0 mX12_versionAt [.ref m, .int (nI r), .int (nI sn)] L V nx (zi (nI (40 * r + 5 * vpl l sn (l.length - 1))) L V nx) := by
  have hx2 := hx.2.1
  refine Sp.of 2 (by decide) rfl rfl (Nat.le_of_ble_eq_true rfl) ?_
  refine z_bipush (v := nI 40) dX12_versionAt_0 rfl ?_
  refine z_iload_n dX12_versionAt_2 rfl ?_
  refine z_mulN dX12_versionAt_3 ?_
  refine z_istore_n dX12_versionAt_4 (Nat.le_of_ble_eq_true rfl) rfl ?_
  refine z_iconst (v := nI 1) dX12_versionAt_5 rfl ?_
  refine z_istore dX12_versionAt_6 (Nat.le_of_ble_eq_true rfl) rfl ?_
  have hz := lp_verAt (D := D) (z0 := z0) (nx := nx) hm hr hx hsn _ 1 rfl (by omega)
  exact hz

def cpz (V : zV) (a b f t n : Nat) : zV := zset V b (fun j => if t ≤ j ∧ j < t + n then V a (f + (j - t)) else V b j)
theorem cpz_0 (V : zV) (a b f t : Nat) : cpz V a b f t 0 = V := by
  unfold cpz
  rw [show (fun j => if t ≤ j ∧ j < t + 0 then V a (f + (j - t)) else V b j) = V b from funext fun j => if_neg (by omega)]
  exact zset_self V b
theorem cpz_s (V : zV) (a b f t i : Nat) : zup (cpz V a b f t i) b (t + i) (V a (f + i)) = cpz V a b f t (i + 1) := by
  funext q j
  simp only [cpz, zset, zup]
  by_cases e : q = b
  · subst e
    simp only [true_and, if_true]
    by_cases e2 : j = t + i
    · subst e2
      rw [if_pos rfl, if_pos (by omega), show f + (t + i - t) = f + i by omega]
    · rw [if_neg e2]
      by_cases e3 : t ≤ j ∧ j < t + i
      · rw [if_pos e3, if_pos (by omega)]
      · rw [if_neg e3, if_neg (by omega)]
  · simp [e]
theorem cpz_rd {V : zV} {a b f t i : Nat} (h : a ≠ b ∨ t ≤ f ∨ f + i < t) : cpz V a b f t i a (f + i) = V a (f + i) := by
  unfold cpz zset
  by_cases e : a = b
  · subst e
    rw [if_pos rfl, if_neg (by omega)]
  · rw [if_neg e]

set_option maxHeartbeats 4000000 in
set_option maxRecDepth 100000 in
theorem lp_cp {D : zD} {z0 nx : Nat} {L : zL} {V : zV} {a b f t n na nb : Nat} (ha : L a = some (.inl (0, na))) (hb : L b = some (.inl (0, nb))) (h1 : f + n ≤ na) (h2 : t + n ≤ nb) (h3 : na < 50000 ∧ nb < 50000) (h4 : a ≠ b ∨ t ≤ f ∨ f + n ≤ t) : ∀ (fu : Nat) (i : Nat), n - i = fu → i ≤ n → Z D z0 1 0 0 mX12_copies 0 0 3 [some (.ref a), some (.int (nI f)), some (.ref b), some (.int (nI t)), some (.int (nI n)), some (.int (nI i))] [] L (cpz V a b f t i) nx (zq none L nx (fun V' => V' = cpz V a b f t n)) := by
  intro fu
  induction fu using Nat.strongRecOn with
  | ind fu ih =>
    intro i h_fu h_0
    obtain ⟨h5, h6⟩ := h3
    refine z_iload dX12_copies_3 rfl ?_
    refine z_iload dX12_copies_5 rfl ?_
    refine z_icmp_geN (tgt := 28) dX12_copies_7 (by decide) (by omega) (by omega) (fun c_7 => ?_) (fun c_7 => ?_)
    · refine z_return dX12_copies_28 (Nat.le_of_ble_eq_true rfl) (Nat.le_of_ble_eq_true rfl) rfl ?_
      exact ⟨rfl, rfl, rfl, by rw [show i = n by omega]⟩
    · refine z_aload_n dX12_copies_10 rfl ?_
      refine z_iload_n dX12_copies_11 rfl ?_
      refine z_iload dX12_copies_12 rfl ?_
      refine z_addN dX12_copies_14 ?_
      refine z_aload_n dX12_copies_15 rfl ?_
      refine z_iload_n dX12_copies_16 rfl ?_
      refine z_iload dX12_copies_17 rfl ?_
      refine z_addN dX12_copies_19 ?_
      refine z_ialdN dX12_copies_20 ha (by omega) (by omega) (cpz_rd (by omega)) ?_
      refine z_iastN dX12_copies_21 hb (by omega) (by omega) ?_
      rw [cpz_s]
      refine z_incN dX12_copies_22 rfl rfl ?_
      refine z_goto (tgt := 3) dX12_copies_25 (by decide) ?_
      exact ih _ (by omega) (i + 1) rfl (by omega)

set_option maxHeartbeats 4000000 in
set_option maxRecDepth 100000 in
theorem s_cp {D : zD} {z0 nx : Nat} {L : zL} {V : zV} {a b f t n na nb : Nat} (ha : L a = some (.inl (0, na))) (hb : L b = some (.inl (0, nb))) (h1 : f + n ≤ na) (h2 : t + n ≤ nb) (h3 : na < 50000 ∧ nb < 50000) (h4 : a ≠ b ∨ t ≤ f ∨ f + n ≤ t) : Sp D z0 1 0 0 mX12_copies [.ref a, .int (nI f), .ref b, .int (nI t), .int (nI n)] L V nx (zq none L nx (fun V' => V' = cpz V a b f t n)) := by
  refine Sp.of 1 (by decide) rfl rfl (Nat.le_of_ble_eq_true rfl) ?_
  refine z_iconst (v := nI 0) dX12_copies_0 rfl ?_
  refine z_istore dX12_copies_1 (Nat.le_of_ble_eq_true rfl) rfl ?_
  have hz := lp_cp (D := D) (z0 := z0) (nx := nx) (V := V) ha hb h1 h2 h3 h4 _ 0 rfl (by omega)
  rw [cpz_0] at hz
  exact hz

