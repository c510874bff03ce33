/-! counting, the first one; Condition, Order -/
noncomputable def cn (p : Nat → Prop) : Nat → Nat
  | 0 => 0
  | n + 1 => cn p n + @ite Nat (p n) (Classical.propDecidable _) 1 0
theorem cn_y {p : Nat → Prop} {n : Nat} (h : p n) : cn p (n + 1) = cn p n + 1 := by rw [cn, if_pos h]
theorem cn_n {p : Nat → Prop} {n : Nat} (h : ¬ p n) : cn p (n + 1) = cn p n := by rw [cn, if_neg h]; rfl
theorem cn_le (p : Nat → Prop) : ∀ n, cn p n ≤ n
  | 0 => Nat.le_refl 0
  | n + 1 => by
    have := cn_le p n
    by_cases h : p n
    · rw [cn_y h]; omega
    · rw [cn_n h]; omega
theorem cn_cg {p q : Nat → Prop} : ∀ {n : Nat}, (∀ k, k < n → (p k ↔ q k)) → cn p n = cn q n
  | 0, _ => rfl
  | n + 1, h => by
    have ih := cn_cg (p := p) (q := q) (n := n) (fun k hk => h k (by omega))
    by_cases c : p n
    · rw [cn_y c, cn_y ((h n (by omega)).mp c), ih]
    · rw [cn_n c, cn_n (fun e => c ((h n (by omega)).mpr e)), ih]
theorem cn_mono (p : Nat → Prop) : ∀ {m n : Nat}, m ≤ n → cn p m ≤ cn p n := by
  intro m n h
  induction n with
  | zero => have : m = 0 := by omega
            subst this; exact Nat.le_refl _
  | succ n ih =>
    by_cases e : m = n + 1
    · subst e; exact Nat.le_refl _
    · have h1 := ih (by omega)
      by_cases c : p n
      · rw [cn_y c]; omega
      · rw [cn_n c]; omega
noncomputable def fs (p : Nat → Prop) : Nat → Nat
  | 0 => 0
  | n + 1 => if fs p n < n then fs p n else @ite Nat (p n) (Classical.propDecidable _) n (n + 1)
theorem fs_le (p : Nat → Prop) : ∀ n, fs p n ≤ n
  | 0 => Nat.le_refl 0
  | n + 1 => by
    have := fs_le p n
    unfold fs
    split
    · omega
    · split
      · omega
      · omega
theorem fs_eq {p : Nat → Prop} : ∀ {n i : Nat}, (∀ k, k < i → ¬ p k) → i ≤ n → (i < n → p i) → fs p n = i
  | 0, i, _, h2, _ => by have : i = 0 := by omega
                         subst this; rfl
  | n + 1, i, h1, h2, h3 => by
    unfold fs
    by_cases e : i = n + 1
    · subst e
      have := fs_eq (p := p) (n := n) (i := n) (fun k hk => h1 k (by omega)) (Nat.le_refl n) (fun h => absurd h (by omega))
      rw [this, if_neg (by omega), if_neg (h1 n (by omega))]
    · by_cases e2 : i = n
      · subst e2
        have := fs_eq (p := p) (n := i) (i := i) h1 (Nat.le_refl i) (fun h => absurd h (by omega))
        rw [this, if_neg (by omega), if_pos (h3 (by omega))]
      · have := fs_eq (p := p) (n := n) (i := i) h1 (by omega) (fun _ => h3 (by omega))
        rw [this, if_pos (by omega)]
theorem fs_no {p : Nat → Prop} : ∀ {n k : Nat}, k < fs p n → ¬ p k
  | 0, k, h => absurd h (by simp [fs])
  | n + 1, k, h => by
    have ih := fs_no (p := p) (n := n) (k := k)
    have hl := fs_le p n
    unfold fs at h
    split at h
    · exact ih h
    · split at h
      · exact ih (by omega)
      · rename_i h2
        by_cases e : k = n
        · subst e; exact h2
        · exact ih (by omega)
theorem fs_yes {p : Nat → Prop} : ∀ {n : Nat}, fs p n < n → p (fs p n)
  | 0, h => absurd h (by omega)
  | n + 1, h => by
    have ih := fs_yes (p := p) (n := n)
    have hl := fs_le p n
    unfold fs at h ⊢
    split at h
    · rename_i h1; rw [if_pos h1]; exact ih h1
    · rename_i h1
      rw [if_neg h1]
      split at h
      · rename_i h2; rw [if_pos h2]; exact h2
      · omega
theorem fs_cg {p q : Nat → Prop} {n : Nat} (h : ∀ k, k < n → (p k ↔ q k)) : fs p n = fs q n :=
  fs_eq (fun k hk => by have := fs_le q n; exact fun c => fs_no hk ((h k (by omega)).mp c)) (fs_le q n) (fun c => (h _ c).mpr (fs_yes c))
/-- a column of a packed row -/
def pt (p k : Nat) : Nat := if k = 0 then p / 10000 else if k = 1 then p / 100 % 100 else p % 100
theorem pt_lt {p : Nat} (k : Nat) (h : p < 1000000) : pt p k < 100 := by
  unfold pt
  split
  · omega
  · split <;> omega
def tu (b : Bool) (x : Nat) : Nat := if b then 99 - x else x
theorem tu_lt {x : Nat} (b : Bool) (h : x < 100) : tu b x < 100 := by cases b <;> simp [tu] <;> omega
def ft (o x n : Nat) : Prop := match o with
  | 0 => x = n
  | 1 => ¬ x = n
  | 2 => x < n
  | _ => n < x
def sCo (L : zL) (a : Nat) : Prop := L a = some (.inr (.inr (0, [none, none, none])))
def CO (V : zV) (a c o n : Nat) : Prop := V a 0 = nI c ∧ V a 1 = nI o ∧ V a 2 = nI n ∧ c < 3 ∧ o < 4 ∧ n < 100
theorem CO.eq {V V' : zV} {a c o n lo hi : Nat} (h : CO V a c o n) (he : zEq V V' lo hi) (hd : a + 1 ≤ lo ∨ hi ≤ a) : CO V' a c o n := by
  unfold CO at h ⊢
  rw [he a (by omega)]
  exact h
def sOr (L : zL) (a : Nat) : Prop := L a = some (.inr (.inr (4, [some (.ref (a + 1)), some (.ref (a + 2)), none]))) ∧ L (a + 1) = some (.inl (0, 3)) ∧ L (a + 2) = some (.inl (1, 3))
def OR (V : zV) (a : Nat) (o : List (Nat × Bool)) : Prop := V a 2 = nI o.length ∧ o.length ≤ 3 ∧ (∀ k, k < o.length → V (a + 1) k = nI (o.getD k (0, false)).1 ∧ V (a + 2) k = zb ((o.getD k (0, false)).2 = true)) ∧ (∀ k, k < o.length → (o.getD k (0, false)).1 < 3) ∧ ∀ k, k < 3 → V (a + 2) k = 0 ∨ V (a + 2) k = 1
theorem OR.eq {V V' : zV} {a lo hi : Nat} {o : List (Nat × Bool)} (h : OR V a o) (he : zEq V V' lo hi) (hd : a + 3 ≤ lo ∨ hi ≤ a) : OR V' a o := by
  unfold OR at h ⊢
  rw [he a (by omega), he (a + 1) (by omega), he (a + 2) (by omega)]
  exact h
/-- what the k-th column of an order gives -/
def rs (o : List (Nat × Bool)) (p k : Nat) : Nat := if k < o.length then tu (o.getD k (0, false)).2 (pt p (o.getD k (0, false)).1) else 0
/-- the rank by the first k columns -/
def rk (o : List (Nat × Bool)) (p : Nat) : Nat → Nat
  | 0 => 0
  | k + 1 => rk o p k * 100 + rs o p k
theorem rs_lt (o : List (Nat × Bool)) {p : Nat} (h : p < 1000000) (k : Nat) : rs o p k < 100 := by
  unfold rs
  split
  · exact tu_lt _ (pt_lt _ h)
  · omega
theorem rk_3 (o : List (Nat × Bool)) {p : Nat} (h : p < 1000000) : rk o p 1 < 100 ∧ rk o p 2 < 10000 ∧ rk o p 3 < 1000000 := by
  have h0 := rs_lt o h 0
  have h1 := rs_lt o h 1
  have h2 := rs_lt o h 2
  have e1 : rk o p 1 = rk o p 0 * 100 + rs o p 0 := rfl
  have e2 : rk o p 2 = rk o p 1 * 100 + rs o p 1 := rfl
  have e3 : rk o p 3 = rk o p 2 * 100 + rs o p 2 := rfl
  have e0 : rk o p 0 = 0 := rfl
  omega

set_option maxHeartbeats 4000000 in
set_option maxRecDepth 100000 in
theorem s_partOf {D : zD} {z0 nx : Nat} {L : zL} {V : zV} {p k : Nat} (h1 : p < 1000000) (h2 : k < 3) : Sp D z0 1 0 0 mX11_partOf [.int (nI p), .int (nI k)] L V nx (zi (nI (pt p k)) L V nx) := by
  refine Sp.of 0 (by decide) rfl rfl (Nat.le_of_ble_eq_true rfl) ?_
  refine z_iload_n dX11_partOf_0 rfl ?_
  refine z_if_neN (tgt := 10) dX11_partOf_1 (by decide) (by omega) (fun c_1 => ?_) (fun c_1 => ?_)
  · refine z_iload_n dX11_partOf_10 rfl ?_
    refine z_iconst (v := nI 1) dX11_partOf_11 rfl ?_
    refine z_icmp_neN (tgt := 25) dX11_partOf_12 (by decide) (by omega) (by omega) (fun c_12 => ?_) (fun c_12 => ?_)
    · refine z_iload_n dX11_partOf_25 rfl ?_
      refine z_bipush (v := nI 100) dX11_partOf_26 rfl ?_
      refine z_remN dX11_partOf_28 (by omega) (by omega) (by omega) ?_
      refine z_ireturn dX11_partOf_29 (Nat.le_of_ble_eq_true rfl) (Nat.le_of_ble_eq_true rfl) rfl ?_
      exact zi_r (by rw [pt, if_neg (by omega)]; first | rw [if_pos (by omega)] | rw [if_neg (by omega)])
    · refine z_iload_n dX11_partOf_15 rfl ?_
      refine z_bipush (v := nI 100) dX11_partOf_16 rfl ?_
      refine z_divN dX11_partOf_18 (by omega) (by omega) (by omega) ?_
      refine z_bipush (v := nI 100) dX11_partOf_19 rfl ?_
      refine z_remN dX11_partOf_21 (by omega) (by omega) (by omega) ?_
      refine z_goto (tgt := 29) dX11_partOf_22 (by decide) ?_
      refine z_ireturn dX11_partOf_29 (Nat.le_of_ble_eq_true rfl) (Nat.le_of_ble_eq_true rfl) rfl ?_
      exact zi_r (by rw [pt, if_neg (by omega)]; first | rw [if_pos (by omega)] | rw [if_neg (by omega)])
  · refine z_iload_n dX11_partOf_4 rfl ?_
    refine z_sipush (v := nI 10000) dX11_partOf_5 rfl ?_
    refine z_divN dX11_partOf_8 (by omega) (by omega) (by omega) ?_
    refine z_ireturn dX11_partOf_9 (Nat.le_of_ble_eq_true rfl) (Nat.le_of_ble_eq_true rfl) rfl ?_
    exact zi_r (by rw [pt, if_pos (by omega)])

set_option maxHeartbeats 4000000 in
set_option maxRecDepth 100000 in
theorem s_COtell {D : zD} {z0 nx : Nat} {L : zL} {V : zV} {a : Nat} {c o n : Nat} (hs : sCo L a) (h1 : c < 3) (h2 : o < 4) (h3 : n < 100) : Sp D z0 1 0 0 mX0_tell [.ref a, .int (nI c), .int (nI o), .int (nI n)] L V nx (zq none L nx (fun V' => zEq V V' a (a + 1) ∧ CO V' a c o n)) := by
  unfold sCo at hs
  refine Sp.of 0 (by decide) rfl rfl (Nat.le_of_ble_eq_true rfl) ?_
  refine z_aload_n dX0_tell_0 rfl ?_
  refine z_iload_n dX0_tell_1 rfl ?_
  refine z_putI dX0_tell_2 fX0_9 (by first | assumption | exact And.left (by assumption)) rfl ?_
  refine z_aload_n dX0_tell_5 rfl ?_
  refine z_iload_n dX0_tell_6 rfl ?_
  refine z_putI dX0_tell_7 fX0_15 (by first | assumption | exact And.left (by assumption)) rfl ?_
  refine z_aload_n dX0_tell_10 rfl ?_
  refine z_iload_n dX0_tell_11 rfl ?_
  refine z_putI dX0_tell_12 fX0_18 (by first | assumption | exact And.left (by assumption)) rfl ?_
  refine z_return dX0_tell_15 (Nat.le_of_ble_eq_true rfl) (Nat.le_of_ble_eq_true rfl) rfl ?_
  exact ⟨rfl, rfl, rfl, ((zEq.rf.up (by omega) (by omega)).up (by omega) (by omega)).up (by omega) (by omega), by rw [zup_k (by omega), zup_k (by omega), zup_s], by rw [zup_k (by omega), zup_s], zup_s _ _ _ _, h1, h2, h3⟩

set_option maxHeartbeats 4000000 in
set_option maxRecDepth 100000 in
theorem s_COcopy {D : zD} {z0 nx : Nat} {L : zL} {V : zV} {a b : Nat} {c o n : Nat} (hs : sCo L a) (hs2 : sCo L b) (h : CO V b c o n) : Sp D z0 2 0 0 mX0_copyFrom [.ref a, .ref b] L V nx (zq none L nx (fun V' => zEq V V' a (a + 1) ∧ CO V' a c o n)) := by
  have hs0 := hs
  unfold sCo at hs hs2
  obtain ⟨g1, g2, g3, g4, g5, g6⟩ := h
  refine Sp.of 0 (by decide) rfl rfl (Nat.le_of_ble_eq_true rfl) ?_
  refine z_aload_n dX0_copyFrom_0 rfl ?_
  refine z_aload_n dX0_copyFrom_1 rfl ?_
  refine z_getIe dX0_copyFrom_2 fX0_9 (by first | assumption | exact And.left (by assumption)) rfl (by first | assumption | exact zup_s _ _ _ _ | rfl) ?_
  refine z_aload_n dX0_copyFrom_5 rfl ?_
  refine z_getIe dX0_copyFrom_6 fX0_15 (by first | assumption | exact And.left (by assumption)) rfl (by first | assumption | exact zup_s _ _ _ _ | rfl) ?_
  refine z_aload_n dX0_copyFrom_9 rfl ?_
  refine z_getIe dX0_copyFrom_10 fX0_18 (by first | assumption | exact And.left (by assumption)) rfl (by first | assumption | exact zup_s _ _ _ _ | rfl) ?_
  refine z_callV3w dX0_copyFrom_13 kX0_tell lX0_21 (by first | assumption | exact And.left (by assumption)) rfl (s_COtell (by assumption) (by omega) (by omega) (by omega)) (Nat.le_of_ble_eq_true rfl) (Nat.le_of_ble_eq_true rfl) ⟨Nat.le_of_ble_eq_true rfl, Nat.le_of_ble_eq_true rfl⟩ ?_
  intro V1 hV1
  refine z_return dX0_copyFrom_16 (Nat.le_of_ble_eq_true rfl) (Nat.le_of_ble_eq_true rfl) rfl ?_
  exact ⟨rfl, rfl, rfl, hV1⟩

set_option maxHeartbeats 4000000 in
set_option maxRecDepth 100000 in
theorem s_isAs {D : zD} {z0 nx : Nat} {L : zL} {V : zV} {a b : Nat} {c o n c2 o2 n2 : Nat} (hs : sCo L a) (hs2 : sCo L b) (h : CO V a c o n) (h2 : CO V b c2 o2 n2) : Sp D z0 1 0 0 mX0_isAs [.ref a, .ref b] L V nx (zi (zb (c = c2 ∧ o = o2 ∧ n = n2)) L V nx) := by
  unfold sCo at hs hs2
  obtain ⟨g1, g2, g3, g4, g5, g6⟩ := h
  obtain ⟨k1, k2, k3, k4, k5, k6⟩ := h2
  refine Sp.of 0 (by decide) rfl rfl (Nat.le_of_ble_eq_true rfl) ?_
  refine z_aload_n dX0_isAs_0 rfl ?_
  refine z_getIe dX0_isAs_1 fX0_9 (by first | assumption | exact And.left (by assumption)) rfl (by first | assumption | exact zup_s _ _ _ _ | rfl) ?_
  refine z_aload_n dX0_isAs_4 rfl ?_
  refine z_getIe dX0_isAs_5 fX0_9 (by first | assumption | exact And.left (by assumption)) rfl (by first | assumption | exact zup_s _ _ _ _ | rfl) ?_
  refine z_icmp_neN (tgt := 37) dX0_isAs_8 (by decide) (by omega) (by omega) (fun c_8 => ?_) (fun c_8 => ?_)
  · refine z_iconst (v := nI 0) dX0_isAs_37 rfl ?_
    refine z_zreturn dX0_isAs_38 (Nat.le_of_ble_eq_true rfl) (Nat.le_of_ble_eq_true rfl) rfl (by first | exact Or.inl rfl | exact Or.inr rfl | exact zb_01 _ | assumption) ?_
    exact zi_r (by first | exact (zb_t (by omega)).symm | exact (zb_f (by omega)).symm)
  · refine z_aload_n dX0_isAs_11 rfl ?_
    refine z_getIe dX0_isAs_12 fX0_15 (by first | assumption | exact And.left (by assumption)) rfl (by first | assumption | exact zup_s _ _ _ _ | rfl) ?_
    refine z_aload_n dX0_isAs_15 rfl ?_
    refine z_getIe dX0_isAs_16 fX0_15 (by first | assumption | exact And.left (by assumption)) rfl (by first | assumption | exact zup_s _ _ _ _ | rfl) ?_
    refine z_icmp_neN (tgt := 37) dX0_isAs_19 (by decide) (by omega) (by omega) (fun c_19 => ?_) (fun c_19 => ?_)
    · refine z_iconst (v := nI 0) dX0_isAs_37 rfl ?_
      refine z_zreturn dX0_isAs_38 (Nat.le_of_ble_eq_true rfl) (Nat.le_of_ble_eq_true rfl) rfl (by first | exact Or.inl rfl | exact Or.inr rfl | exact zb_01 _ | assumption) ?_
      exact zi_r (by first | exact (zb_t (by omega)).symm | exact (zb_f (by omega)).symm)
    · refine z_aload_n dX0_isAs_22 rfl ?_
      refine z_getIe dX0_isAs_23 fX0_18 (by first | assumption | exact And.left (by assumption)) rfl (by first | assumption | exact zup_s _ _ _ _ | rfl) ?_
      refine z_aload_n dX0_isAs_26 rfl ?_
      refine z_getIe dX0_isAs_27 fX0_18 (by first | assumption | exact And.left (by assumption)) rfl (by first | assumption | exact zup_s _ _ _ _ | rfl) ?_
      refine z_icmp_neN (tgt := 37) dX0_isAs_30 (by decide) (by omega) (by omega) (fun c_30 => ?_) (fun c_30 => ?_)
      · refine z_iconst (v := nI 0) dX0_isAs_37 rfl ?_
        refine z_zreturn dX0_isAs_38 (Nat.le_of_ble_eq_true rfl) (Nat.le_of_ble_eq_true rfl) rfl (by first | exact Or.inl rfl | exact Or.inr rfl | exact zb_01 _ | assumption) ?_
        exact zi_r (by first | exact (zb_t (by omega)).symm | exact (zb_f (by omega)).symm)
      · refine z_iconst (v := nI 1) dX0_isAs_33 rfl ?_
        refine z_goto (tgt := 38) dX0_isAs_34 (by decide) ?_
        refine z_zreturn dX0_isAs_38 (Nat.le_of_ble_eq_true rfl) (Nat.le_of_ble_eq_true rfl) rfl (by first | exact Or.inl rfl | exact Or.inr rfl | exact zb_01 _ | assumption) ?_
        exact zi_r (by first | exact (zb_t (by omega)).symm | exact (zb_f (by omega)).symm)

set_option maxHeartbeats 4000000 in
set_option maxRecDepth 100000 in
theorem s_fits {D : zD} {z0 nx : Nat} {L : zL} {V : zV} {a c o n x : Nat} (hs : sCo L a) (h : CO V a c o n) (hx : x < 2147483648) : Sp D z0 1 0 0 mX0_fits [.ref a, .int (nI x)] L V nx (zi (zb (ft o x n)) L V nx) := by
  unfold sCo at hs
  obtain ⟨g1, g2, g3, g4, g5, g6⟩ := h
  refine Sp.of 0 (by decide) rfl rfl (Nat.le_of_ble_eq_true rfl) ?_
  rcases (show o = 0 ∨ o = 1 ∨ o = 2 ∨ o = 3 by omega) with rfl | rfl | rfl | rfl
  · refine z_aload_n dX0_fits_0 rfl ?_
    refine z_getIe dX0_fits_1 fX0_15 (by first | assumption | exact And.left (by assumption)) rfl (by first | assumption | exact zup_s _ _ _ _ | rfl) ?_
    refine z_tableIn (tgt := 32) dX0_fits_4 (by decide) (by decide) rfl (by decide) ?_
    refine z_iload_n dX0_fits_32 rfl ?_
    refine z_aload_n dX0_fits_33 rfl ?_
    refine z_getIe dX0_fits_34 fX0_18 (by first | assumption | exact And.left (by assumption)) rfl (by first | assumption | exact zup_s _ _ _ _ | rfl) ?_
    refine z_icmp_neN (tgt := 44) dX0_fits_37 (by decide) (by omega) (by omega) (fun c_37 => ?_) (fun c_37 => ?_)
    · refine z_iconst (v := nI 0) dX0_fits_44 rfl ?_
      refine z_zreturn dX0_fits_45 (Nat.le_of_ble_eq_true rfl) (Nat.le_of_ble_eq_true rfl) rfl (by first | exact Or.inl rfl | exact Or.inr rfl | exact zb_01 _ | assumption) ?_
      exact zi_r (by first | exact (zb_t (by first | assumption | omega)).symm | exact (zb_f (by intro q; simp only [ft] at q; omega)).symm)
    · refine z_iconst (v := nI 1) dX0_fits_40 rfl ?_
      refine z_goto (tgt := 45) dX0_fits_41 (by decide) ?_
      refine z_zreturn dX0_fits_45 (Nat.le_of_ble_eq_true rfl) (Nat.le_of_ble_eq_true rfl) rfl (by first | exact Or.inl rfl | exact Or.inr rfl | exact zb_01 _ | assumption) ?_
      exact zi_r (by first | exact (zb_t (by first | assumption | omega)).symm | exact (zb_f (by intro q; simp only [ft] at q; omega)).symm)
  · refine z_aload_n dX0_fits_0 rfl ?_
    refine z_getIe dX0_fits_1 fX0_15 (by first | assumption | exact And.left (by assumption)) rfl (by first | assumption | exact zup_s _ _ _ _ | rfl) ?_
    refine z_tableIn (tgt := 46) dX0_fits_4 (by decide) (by decide) rfl (by decide) ?_
    refine z_iload_n dX0_fits_46 rfl ?_
    refine z_aload_n dX0_fits_47 rfl ?_
    refine z_getIe dX0_fits_48 fX0_18 (by first | assumption | exact And.left (by assumption)) rfl (by first | assumption | exact zup_s _ _ _ _ | rfl) ?_
    refine z_icmp_eqN (tgt := 58) dX0_fits_51 (by decide) (by omega) (by omega) (fun c_51 => ?_) (fun c_51 => ?_)
    · refine z_iconst (v := nI 0) dX0_fits_58 rfl ?_
      refine z_zreturn dX0_fits_59 (Nat.le_of_ble_eq_true rfl) (Nat.le_of_ble_eq_true rfl) rfl (by first | exact Or.inl rfl | exact Or.inr rfl | exact zb_01 _ | assumption) ?_
      exact zi_r (by first | exact (zb_t (by first | assumption | omega)).symm | exact (zb_f (by intro q; simp only [ft] at q; omega)).symm)
    · refine z_iconst (v := nI 1) dX0_fits_54 rfl ?_
      refine z_goto (tgt := 59) dX0_fits_55 (by decide) ?_
      refine z_zreturn dX0_fits_59 (Nat.le_of_ble_eq_true rfl) (Nat.le_of_ble_eq_true rfl) rfl (by first | exact Or.inl rfl | exact Or.inr rfl | exact zb_01 _ | assumption) ?_
      exact zi_r (by first | exact (zb_t (by first | assumption | omega)).symm | exact (zb_f (by intro q; simp only [ft] at q; omega)).symm)
  · refine z_aload_n dX0_fits_0 rfl ?_
    refine z_getIe dX0_fits_1 fX0_15 (by first | assumption | exact And.left (by assumption)) rfl (by first | assumption | exact zup_s _ _ _ _ | rfl) ?_
    refine z_tableIn (tgt := 60) dX0_fits_4 (by decide) (by decide) rfl (by decide) ?_
    refine z_iload_n dX0_fits_60 rfl ?_
    refine z_aload_n dX0_fits_61 rfl ?_
    refine z_getIe dX0_fits_62 fX0_18 (by first | assumption | exact And.left (by assumption)) rfl (by first | assumption | exact zup_s _ _ _ _ | rfl) ?_
    refine z_icmp_geN (tgt := 72) dX0_fits_65 (by decide) (by omega) (by omega) (fun c_65 => ?_) (fun c_65 => ?_)
    · refine z_iconst (v := nI 0) dX0_fits_72 rfl ?_
      refine z_zreturn dX0_fits_73 (Nat.le_of_ble_eq_true rfl) (Nat.le_of_ble_eq_true rfl) rfl (by first | exact Or.inl rfl | exact Or.inr rfl | exact zb_01 _ | assumption) ?_
      exact zi_r (by first | exact (zb_t (by first | assumption | omega)).symm | exact (zb_f (by intro q; simp only [ft] at q; omega)).symm)
    · refine z_iconst (v := nI 1) dX0_fits_68 rfl ?_
      refine z_goto (tgt := 73) dX0_fits_69 (by decide) ?_
      refine z_zreturn dX0_fits_73 (Nat.le_of_ble_eq_true rfl) (Nat.le_of_ble_eq_true rfl) rfl (by first | exact Or.inl rfl | exact Or.inr rfl | exact zb_01 _ | assumption) ?_
      exact zi_r (by first | exact (zb_t (by first | assumption | omega)).symm | exact (zb_f (by intro q; simp only [ft] at q; omega)).symm)
  · refine z_aload_n dX0_fits_0 rfl ?_
    refine z_getIe dX0_fits_1 fX0_15 (by first | assumption | exact And.left (by assumption)) rfl (by first | assumption | exact zup_s _ _ _ _ | rfl) ?_
    refine z_tableOut (tgt := 74) dX0_fits_4 (by decide) (by decide) ?_
    refine z_iload_n dX0_fits_74 rfl ?_
    refine z_aload_n dX0_fits_75 rfl ?_
    refine z_getIe dX0_fits_76 fX0_18 (by first | assumption | exact And.left (by assumption)) rfl (by first | assumption | exact zup_s _ _ _ _ | rfl) ?_
    refine z_icmp_leN (tgt := 86) dX0_fits_79 (by decide) (by omega) (by omega) (fun c_79 => ?_) (fun c_79 => ?_)
    · refine z_iconst (v := nI 0) dX0_fits_86 rfl ?_
      refine z_zreturn dX0_fits_87 (Nat.le_of_ble_eq_true rfl) (Nat.le_of_ble_eq_true rfl) rfl (by first | exact Or.inl rfl | exact Or.inr rfl | exact zb_01 _ | assumption) ?_
      exact zi_r (by first | exact (zb_t (by first | assumption | omega)).symm | exact (zb_f (by intro q; simp only [ft] at q; omega)).symm)
    · refine z_iconst (v := nI 1) dX0_fits_82 rfl ?_
      refine z_goto (tgt := 87) dX0_fits_83 (by decide) ?_
      refine z_zreturn dX0_fits_87 (Nat.le_of_ble_eq_true rfl) (Nat.le_of_ble_eq_true rfl) rfl (by first | exact Or.inl rfl | exact Or.inr rfl | exact zb_01 _ | assumption) ?_
      exact zi_r (by first | exact (zb_t (by first | assumption | omega)).symm | exact (zb_f (by intro q; simp only [ft] at q; omega)).symm)

set_option maxHeartbeats 4000000 in
set_option maxRecDepth 100000 in
theorem s_holdsFor {D : zD} {z0 nx : Nat} {L : zL} {V : zV} {a c o n p : Nat} (hs : sCo L a) (h : CO V a c o n) (hp : p < 1000000) : Sp D z0 2 0 0 mX0_holdsFor [.ref a, .int (nI p)] L V nx (zi (zb (ft o (pt p c) n)) L V nx) := by
  have hs0 := hs
  have h0 := h
  unfold sCo at hs
  obtain ⟨g1, g2, g3, g4, g5, g6⟩ := h
  have hq := pt_lt c hp
  refine Sp.of 0 (by decide) rfl rfl (Nat.le_of_ble_eq_true rfl) ?_
  refine z_aload_n dX0_holdsFor_0 rfl ?_
  refine z_iload_n dX0_holdsFor_1 rfl ?_
  refine z_aload_n dX0_holdsFor_2 rfl ?_
  refine z_getIe dX0_holdsFor_3 fX0_9 (by first | assumption | exact And.left (by assumption)) rfl (by first | assumption | exact zup_s _ _ _ _ | rfl) ?_
  refine z_callSN2i dX0_holdsFor_6 kX11_partOf lX0_25 (s_partOf (by omega) (by omega)) (Nat.le_of_ble_eq_true rfl) (Nat.le_of_ble_eq_true rfl) ⟨Nat.le_of_ble_eq_true rfl, Nat.le_of_ble_eq_true rfl⟩ ?_
  refine z_callV1i dX0_holdsFor_9 kX0_fits lX0_29 (by first | assumption | exact And.left (by assumption)) rfl (s_fits (by assumption) (by assumption) (by omega)) (Nat.le_of_ble_eq_true rfl) (Nat.le_of_ble_eq_true rfl) ⟨Nat.le_of_ble_eq_true rfl, Nat.le_of_ble_eq_true rfl⟩ ?_
  refine z_zreturn dX0_holdsFor_12 (Nat.le_of_ble_eq_true rfl) (Nat.le_of_ble_eq_true rfl) rfl (by first | exact Or.inl rfl | exact Or.inr rfl | exact zb_01 _ | assumption) ?_
  exact zi_r rfl

set_option maxHeartbeats 4000000 in
set_option maxRecDepth 100000 in
theorem s_turned {D : zD} {z0 nx : Nat} {L : zL} {V : zV} {a x k : Nat} {b : Bool} (hs : sOr L a) (hk : k < 3) (hb : V (a + 2) k = zb (b = true)) (hx : x < 100) : Sp D z0 1 0 0 mX4_turned [.ref a, .int (nI x), .int (nI k)] L V nx (zi (nI (tu b x)) L V nx) := by
  obtain ⟨h1, h2, h3⟩ := hs
  refine Sp.of 0 (by decide) rfl rfl (Nat.le_of_ble_eq_true rfl) ?_
  refine z_aload_n dX4_turned_0 rfl ?_
  refine z_getR dX4_turned_1 fX4_15 (by first | assumption | exact And.left (by assumption)) rfl ?_
  refine z_iload_n dX4_turned_4 rfl ?_
  refine z_zaldN dX4_turned_5 (by first | assumption | exact And.left (by assumption)) (by omega) (by decide) (by first | assumption | exact zup_s _ _ _ _ | rfl) ?_
  refine z_if_eqB (tgt := 16) dX4_turned_6 (by decide) (fun c_6 => ?_) (fun c_6 => ?_)
  · refine z_iload_n dX4_turned_16 rfl ?_
    refine z_ireturn dX4_turned_17 (Nat.le_of_ble_eq_true rfl) (Nat.le_of_ble_eq_true rfl) rfl ?_
    exact zi_r (by cases b <;> simp_all [tu])
  · refine z_bipush (v := nI 99) dX4_turned_9 rfl ?_
    refine z_iload_n dX4_turned_11 rfl ?_
    refine z_subN dX4_turned_12 (by omega) ?_
    refine z_goto (tgt := 17) dX4_turned_13 (by decide) ?_
    refine z_ireturn dX4_turned_17 (Nat.le_of_ble_eq_true rfl) (Nat.le_of_ble_eq_true rfl) rfl ?_
    exact zi_r (by cases b <;> simp_all [tu])

set_option maxHeartbeats 4000000 in
set_option maxRecDepth 100000 in
theorem s_keyPart {D : zD} {z0 nx : Nat} {L : zL} {V : zV} {a r k : Nat} {o : List (Nat × Bool)} (hs : sOr L a) (h : OR V a o) (hk : k < o.length) (hr : r < 1000000) : Sp D z0 2 0 0 mX4_keyPart [.ref a, .int (nI r), .int (nI k)] L V nx (zi (nI (tu (o.getD k (0, false)).2 (pt r k))) L V nx) := by
  have hs0 := hs
  obtain ⟨h1, h2, h3⟩ := hs
  obtain ⟨g1, g2, g3, g4, g5⟩ := h
  have hq := pt_lt k hr
  have hb := (g3 k hk).2
  refine Sp.of 0 (by decide) rfl rfl (Nat.le_of_ble_eq_true rfl) ?_
  refine z_aload_n dX4_keyPart_0 rfl ?_
  refine z_iload_n dX4_keyPart_1 rfl ?_
  refine z_iload_n dX4_keyPart_2 rfl ?_
  refine z_callSN2i dX4_keyPart_3 kX11_partOf lX4_23 (s_partOf (by omega) (by omega)) (Nat.le_of_ble_eq_true rfl) (Nat.le_of_ble_eq_true rfl) ⟨Nat.le_of_ble_eq_true rfl, Nat.le_of_ble_eq_true rfl⟩ ?_
  refine z_iload_n dX4_keyPart_6 rfl ?_
  refine z_callV2i dX4_keyPart_7 kX4_turned lX4_27 (by first | assumption | exact And.left (by assumption)) rfl (s_turned (by assumption) (by omega) (by assumption) (by omega)) (Nat.le_of_ble_eq_true rfl) (Nat.le_of_ble_eq_true rfl) ⟨Nat.le_of_ble_eq_true rfl, Nat.le_of_ble_eq_true rfl⟩ ?_
  refine z_ireturn dX4_keyPart_10 (Nat.le_of_ble_eq_true rfl) (Nat.le_of_ble_eq_true rfl) rfl ?_
  exact zi_r rfl

set_option maxHeartbeats 4000000 in
set_option maxRecDepth 100000 in
theorem lp_rankOf {D : zD} {z0 nx : Nat} {L : zL} {V : zV} {a p : Nat} {o : List (Nat × Bool)} (hs : sOr L a) (h : OR V a o) (hp : p < 1000000) : ∀ (fu : Nat) (i : Nat), 3 - i = fu → i ≤ 3 → Z D z0 2 0 0 mX4_rankOf 0 0 4 [some (.ref a), some (.int (nI p)), some (.int (nI (rk o p i))), some (.int (nI i)), none] [] L V nx (zi (nI (rk o p 3)) L V nx) := by
  intro fu
  induction fu using Nat.strongRecOn with
  | ind fu ih =>
    intro i h_fu h_0
    have hs0 := hs
    obtain ⟨h1, h2, h3⟩ := hs
    obtain ⟨g1, g2, g3, g4, g5⟩ := h
    refine z_iload_n dX4_rankOf_4 rfl ?_
    refine z_iconst (v := nI 3) dX4_rankOf_5 rfl ?_
    refine z_icmp_geN (tgt := 52) dX4_rankOf_6 (by decide) (by omega) (by omega) (fun c_6 => ?_) (fun c_6 => ?_)
    · refine z_iload_n dX4_rankOf_52 rfl ?_
      refine z_ireturn dX4_rankOf_53 (Nat.le_of_ble_eq_true rfl) (Nat.le_of_ble_eq_true rfl) rfl ?_
      exact zi_r (by rw [show i = 3 by omega])
    · refine z_iload_n dX4_rankOf_9 rfl ?_
      refine z_aload_n dX4_rankOf_10 rfl ?_
      refine z_getIe dX4_rankOf_11 fX4_19 (by first | assumption | exact And.left (by assumption)) rfl (by first | assumption | exact zup_s _ _ _ _ | rfl) ?_
      refine z_icmp_geN (tgt := 35) dX4_rankOf_14 (by decide) (by omega) (by omega) (fun c_14 => ?_) (fun c_14 => ?_)
      · have e_i : rk o p (i + 1) = rk o p i * 100 + 0 := by rw [rk, rs, if_neg (by omega)]
        refine z_iconst (v := nI 0) dX4_rankOf_35 rfl ?_
        refine z_istore dX4_rankOf_36 (Nat.le_of_ble_eq_true rfl) rfl ?_
        refine z_iload_n dX4_rankOf_38 rfl ?_
        refine z_bipush (v := nI 100) dX4_rankOf_39 rfl ?_
        refine z_mulN dX4_rankOf_41 ?_
        refine z_iload dX4_rankOf_42 rfl ?_
        refine z_addN dX4_rankOf_44 ?_
        refine z_istore_n dX4_rankOf_45 (Nat.le_of_ble_eq_true rfl) rfl ?_
        refine z_incN dX4_rankOf_46 rfl rfl ?_
        refine z_goto (tgt := 4) dX4_rankOf_49 (by decide) ?_
        refine z_fg 4 ?_
        rw [← e_i]
        exact ih _ (by omega) (i + 1) rfl (by omega)
      · refine z_aload_n dX4_rankOf_17 rfl ?_
        refine z_iload_n dX4_rankOf_18 rfl ?_
        refine z_aload_n dX4_rankOf_19 rfl ?_
        refine z_getR dX4_rankOf_20 fX4_9 (by first | assumption | exact And.left (by assumption)) rfl ?_
        refine z_iload_n dX4_rankOf_23 rfl ?_
        refine z_ialdN dX4_rankOf_24 (by first | assumption | exact And.left (by assumption)) (by omega) (by decide) ((g3 i (by omega)).1) ?_
        have hc := g4 i (by omega)
        have hq := pt_lt (o.getD i (0, false)).1 hp
        have hb := (g3 i (by omega)).2
        refine z_callSN2i dX4_rankOf_25 kX11_partOf lX4_23 (s_partOf hp (by omega)) (Nat.le_of_ble_eq_true rfl) (Nat.le_of_ble_eq_true rfl) ⟨Nat.le_of_ble_eq_true rfl, Nat.le_of_ble_eq_true rfl⟩ ?_
        refine z_iload_n dX4_rankOf_28 rfl ?_
        refine z_callV2i dX4_rankOf_29 kX4_turned lX4_27 (by first | assumption | exact And.left (by assumption)) rfl (s_turned (by assumption) (by omega) (by assumption) (by omega)) (Nat.le_of_ble_eq_true rfl) (Nat.le_of_ble_eq_true rfl) ⟨Nat.le_of_ble_eq_true rfl, Nat.le_of_ble_eq_true rfl⟩ ?_
        have e_i : rk o p (i + 1) = rk o p i * 100 + tu (o.getD i (0, false)).2 (pt p (o.getD i (0, false)).1) := by rw [rk, rs, if_pos (by omega)]
        refine z_goto (tgt := 36) dX4_rankOf_32 (by decide) ?_
        refine z_istore dX4_rankOf_36 (Nat.le_of_ble_eq_true rfl) rfl ?_
        refine z_iload_n dX4_rankOf_38 rfl ?_
        refine z_bipush (v := nI 100) dX4_rankOf_39 rfl ?_
        refine z_mulN dX4_rankOf_41 ?_
        refine z_iload dX4_rankOf_42 rfl ?_
        refine z_addN dX4_rankOf_44 ?_
        refine z_istore_n dX4_rankOf_45 (Nat.le_of_ble_eq_true rfl) rfl ?_
        refine z_incN dX4_rankOf_46 rfl rfl ?_
        refine z_goto (tgt := 4) dX4_rankOf_49 (by decide) ?_
        refine z_fg 4 ?_
        rw [← e_i]
        exact ih _ (by omega) (i + 1) rfl (by omega)

set_option maxHeartbeats 4000000 in
set_option maxRecDepth 100000 in
theorem s_rankOf {D : zD} {z0 nx : Nat} {L : zL} {V : zV} {a p : Nat} {o : List (Nat × Bool)} (hs : sOr L a) (h : OR V a o) (hp : p < 1000000) : Sp D z0 2 0 0 mX4_rankOf [.ref a, .int (nI p)] L V nx (zi (nI (rk o p 3)) L V nx) := by
  refine Sp.of 3 (by decide) rfl rfl (Nat.le_of_ble_eq_true rfl) ?_
  refine z_iconst (v := nI 0) dX4_rankOf_0 rfl ?_
  refine z_istore_n dX4_rankOf_1 (Nat.le_of_ble_eq_true rfl) rfl ?_
  refine z_iconst (v := nI 0) dX4_rankOf_2 rfl ?_
  refine z_istore_n dX4_rankOf_3 (Nat.le_of_ble_eq_true rfl) rfl ?_
  exact lp_rankOf hs h hp _ 0 rfl (by omega)

theorem OR_clear {V : zV} {a : Nat} (h : ∀ k, k < 3 → V (a + 2) k = 0 ∨ V (a + 2) k = 1) : OR (zup V a 2 (nI 0)) a [] := ⟨zup_s _ _ _ _, by simp, fun k hk => absurd hk (by simp), fun k hk => absurd hk (by simp), by rw [zup_a (by omega)]; exact h⟩
theorem OR_app {V : zV} {a c : Nat} {b : Bool} {o : List (Nat × Bool)} (h : OR V a o) (hl : o.length < 3) (hc : c < 3) : OR (zup (zup (zup V (a + 1) o.length (nI c)) (a + 2) o.length (zb (b = true))) a 2 (nI (o.length + 1))) a (o ++ [(c, b)]) := by
  obtain ⟨g1, g2, g3, g4, g5⟩ := h
  have hg : ∀ k, k < o.length + 1 → (o ++ [(c, b)]).getD k (0, false) = if k < o.length then o.getD k (0, false) else (c, b) := by
    intro k hk
    simp only [List.getD_eq_getElem?_getD]
    split
    · rename_i q; rw [List.getElem?_append_left q]
    · rename_i q; rw [List.getElem?_append_right (by omega), show k - o.length = 0 by omega]; rfl
  refine ⟨by rw [zup_s]; simp, by simp; omega, fun k hk => ?_, fun k hk => ?_, fun k hk => ?_⟩
  · simp at hk
    rw [hg k hk]
    split
    · rename_i q
      have e : ¬ k = o.length := by omega
      simp only [zup]
      simp [e]
      simpa using g3 k q
    · rename_i q
      have e : k = o.length := by omega
      subst e
      simp [zup]
  · simp at hk
    rw [hg k hk]
    split
    · rename_i q; exact g4 k q
    · exact hc
  · rw [zup_a (by omega)]
    by_cases e : k = o.length
    · subst e; rw [zup_s]; exact zb_01 _
    · rw [zup_k e, zup_a (by omega)]; exact g5 k hk

set_option maxHeartbeats 4000000 in
set_option maxRecDepth 100000 in
theorem s_ORclear {D : zD} {z0 nx : Nat} {L : zL} {V : zV} {a : Nat} (hs : sOr L a) (h : ∀ k, k < 3 → V (a + 2) k = 0 ∨ V (a + 2) k = 1) : Sp D z0 1 0 0 mX4_clearAll [.ref a] L V nx (zq none L nx (fun V' => zEq V V' a (a + 3) ∧ OR V' a [])) := by
  obtain ⟨h1, h2, h3⟩ := hs
  refine Sp.of 0 (by decide) rfl rfl (Nat.le_of_ble_eq_true rfl) ?_
  refine z_aload_n dX4_clearAll_0 rfl ?_
  refine z_iconst (v := nI 0) dX4_clearAll_1 rfl ?_
  refine z_putI dX4_clearAll_2 fX4_19 (by first | assumption | exact And.left (by assumption)) rfl ?_
  refine z_return dX4_clearAll_5 (Nat.le_of_ble_eq_true rfl) (Nat.le_of_ble_eq_true rfl) rfl ?_
  exact ⟨rfl, rfl, rfl, zEq.rf.up (by omega) (by omega), OR_clear h⟩

set_option maxHeartbeats 4000000 in
set_option maxRecDepth 100000 in
theorem s_ORapp {D : zD} {z0 nx : Nat} {L : zL} {V : zV} {a c : Nat} {b : Bool} {o : List (Nat × Bool)} (hs : sOr L a) (h : OR V a o) (hl : o.length < 3) (hc : c < 3) : Sp D z0 1 0 0 mX4_append [.ref a, .int (nI c), .int (zb (b = true))] L V nx (zq none L nx (fun V' => zEq V V' a (a + 3) ∧ OR V' a (o ++ [(c, b)]))) := by
  have h0 := h
  obtain ⟨h1, h2, h3⟩ := hs
  obtain ⟨g1, g2, g3, g4, g5⟩ := h
  refine Sp.of 0 (by decide) rfl rfl (Nat.le_of_ble_eq_true rfl) ?_
  refine z_aload_n dX4_append_0 rfl ?_
  refine z_getIe dX4_append_1 fX4_19 (by first | assumption | exact And.left (by assumption)) rfl (by first | assumption | exact zup_s _ _ _ _ | rfl) ?_
  refine z_iconst (v := nI 3) dX4_append_4 rfl ?_
  refine z_icmp_geN (tgt := 38) dX4_append_5 (by decide) (by omega) (by omega) (fun c_5 => ?_) (fun c_5 => ?_)
  · exact absurd c_5 (by omega)
  · refine z_aload_n dX4_append_8 rfl ?_
    refine z_getR dX4_append_9 fX4_9 (by first | assumption | exact And.left (by assumption)) rfl ?_
    refine z_aload_n dX4_append_12 rfl ?_
    refine z_getIe dX4_append_13 fX4_19 (by first | assumption | exact And.left (by assumption)) rfl g1 ?_
    refine z_iload_n dX4_append_16 rfl ?_
    refine z_iastN dX4_append_17 (by first | assumption | exact And.left (by assumption)) (by omega) (by decide) ?_
    refine z_aload_n dX4_append_18 rfl ?_
    refine z_getR dX4_append_19 fX4_15 (by first | assumption | exact And.left (by assumption)) rfl ?_
    refine z_aload_n dX4_append_22 rfl ?_
    refine z_getIe dX4_append_23 fX4_19 (by first | assumption | exact And.left (by assumption)) rfl ((congrFun (zup_a (by omega)) _).trans g1) ?_
    refine z_iload_n dX4_append_26 rfl ?_
    refine z_zastN dX4_append_27 (by first | assumption | exact And.left (by assumption)) (by omega) (by decide) (by first | exact Or.inl rfl | exact Or.inr rfl | exact zb_01 _ | assumption) ?_
    refine z_aload_n dX4_append_28 rfl ?_
    refine z_dup dX4_append_29 rfl ?_
    refine z_getIe dX4_append_30 fX4_19 (by first | assumption | exact And.left (by assumption)) rfl ((congrFun ((zup_a (by omega)).trans (zup_a (by omega))) _).trans g1) ?_
    refine z_iconst (v := nI 1) dX4_append_33 rfl ?_
    refine z_addN dX4_append_34 ?_
    refine z_putI dX4_append_35 fX4_19 (by first | assumption | exact And.left (by assumption)) rfl ?_
    refine z_return dX4_append_38 (Nat.le_of_ble_eq_true rfl) (Nat.le_of_ble_eq_true rfl) rfl ?_
    exact ⟨rfl, rfl, rfl, ((zEq.rf.up (by omega) (by omega)).up (by omega) (by omega)).up (by omega) (by omega), OR_app h0 hl hc⟩

/-- the place of a column; below 0 if it is none of them -/
noncomputable def po (o : List (Nat × Bool)) (c : Nat) : Nat := fs (fun k => (o.getD k (0, false)).1 = c) o.length

set_option maxHeartbeats 4000000 in
set_option maxRecDepth 100000 in
theorem lp_placeOf {D : zD} {z0 nx : Nat} {L : zL} {V : zV} {a c : Nat} {o : List (Nat × Bool)} (hs : sOr L a) (h : OR V a o) (hc : c < 2147483648) : ∀ (fu : Nat) (i : Nat), o.length - i = fu → i ≤ o.length → (∀ k, k < i → ¬ (o.getD k (0, false)).1 = c) → Z D z0 1 0 0 mX4_placeOf 0 0 2 [some (.ref a), some (.int (nI c)), some (.int (nI i))] [] L V nx (zi (if po o c < o.length then nI (po o c) else -1) L V nx) := by
  intro fu
  induction fu using Nat.strongRecOn with
  | ind fu ih =>
    intro i h_fu h_0 h_1
    obtain ⟨h1, h2, h3⟩ := hs
    obtain ⟨g1, g2, g3, g4, g5⟩ := h
    refine z_iload_n dX4_placeOf_2 rfl ?_
    refine z_aload_n dX4_placeOf_3 rfl ?_
    refine z_getIe dX4_placeOf_4 fX4_19 (by first | assumption | exact And.left (by assumption)) rfl (by first | assumption | exact zup_s _ _ _ _ | rfl) ?_
    refine z_icmp_geN (tgt := 28) dX4_placeOf_7 (by decide) (by omega) (by omega) (fun c_7 => ?_) (fun c_7 => ?_)
    · refine z_iconst (v := (-1)) dX4_placeOf_28 rfl ?_
      refine z_ireturn dX4_placeOf_29 (Nat.le_of_ble_eq_true rfl) (Nat.le_of_ble_eq_true rfl) rfl ?_
      have e : po o c = o.length := fs_eq (fun k hk => h_1 k (by omega)) (by omega) (fun q => absurd q (by omega))
      exact zi_r (by rw [e, if_neg (by omega)])
    · refine z_aload_n dX4_placeOf_10 rfl ?_
      refine z_getR dX4_placeOf_11 fX4_9 (by first | assumption | exact And.left (by assumption)) rfl ?_
      refine z_iload_n dX4_placeOf_14 rfl ?_
      refine z_ialdN dX4_placeOf_15 (by first | assumption | exact And.left (by assumption)) (by omega) (by decide) ((g3 i (by omega)).1) ?_
      refine z_iload_n dX4_placeOf_16 rfl ?_
      have hb1 := g4 i (by omega)
      refine z_icmp_neN (tgt := 22) dX4_placeOf_17 (by decide) (by omega) (by omega) (fun c_17 => ?_) (fun c_17 => ?_)
      · refine z_incN dX4_placeOf_22 rfl rfl ?_
        refine z_goto (tgt := 2) dX4_placeOf_25 (by decide) ?_
        exact ih _ (by omega) (i + 1) rfl (by omega) (lt_s h_1 c_17)
      · refine z_iload_n dX4_placeOf_20 rfl ?_
        refine z_ireturn dX4_placeOf_21 (Nat.le_of_ble_eq_true rfl) (Nat.le_of_ble_eq_true rfl) rfl ?_
        have e : po o c = i := fs_eq h_1 (by omega) (fun _ => c_17)
        exact zi_r (by rw [e, if_pos (by omega)])

set_option maxHeartbeats 4000000 in
set_option maxRecDepth 100000 in
theorem s_placeOf {D : zD} {z0 nx : Nat} {L : zL} {V : zV} {a c : Nat} {o : List (Nat × Bool)} (hs : sOr L a) (h : OR V a o) (hc : c < 2147483648) : Sp D z0 1 0 0 mX4_placeOf [.ref a, .int (nI c)] L V nx (zi (if po o c < o.length then nI (po o c) else -1) L V nx) := by
  refine Sp.of 1 (by decide) rfl rfl (Nat.le_of_ble_eq_true rfl) ?_
  refine z_iconst (v := nI 0) dX4_placeOf_0 rfl ?_
  refine z_istore_n dX4_placeOf_1 (Nat.le_of_ble_eq_true rfl) rfl ?_
  exact lp_placeOf hs h hc _ 0 rfl (by omega) (fun k hk => absurd hk (by omega))

