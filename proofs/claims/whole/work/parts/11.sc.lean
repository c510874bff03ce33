/-! SortedCodes: a list of codes, rising; where one has its place, it comes, it goes -/
def sSC (L : zL) (a : Nat) : Prop := L a = some (.inr (.inr (6, [some (.ref (a + 1)), none]))) ∧ L (a + 1) = some (.inl (0, 48))
/-- what it holds -/
def SC (V : zV) (a : Nat) (l : List Nat) : Prop := V a 1 = nI l.length ∧ (∀ k, k < l.length → V (a + 1) k = nI (l.getD k 0)) ∧ l.length ≤ 48 ∧ ∀ c ∈ l, c < 2147483648
theorem SC.cg {V V' : zV} {a : Nat} {l : List Nat} (h : SC V a l) (h1 : V' a = V a) (h2 : V' (a + 1) = V (a + 1)) : SC V' a l := by
  unfold SC at h ⊢
  rw [h1, h2]
  exact h
theorem SC.eq {V V' : zV} {a lo hi : Nat} {l : List Nat} (h : SC V a l) (he : zEq V V' lo hi) (hd : a + 2 ≤ lo ∨ hi ≤ a) : SC V' a l := h.cg (he _ (by omega)) (he _ (by omega))
theorem SC.lt {V : zV} {a k : Nat} {l : List Nat} (h : SC V a l) (hk : k < l.length) : l.getD k 0 < 2147483648 := by
  rw [List.getD_eq_getElem?_getD, List.getElem?_eq_getElem hk]
  exact h.2.2.2 _ (List.getElem_mem hk)
def pl (x : Nat) : List Nat → Nat
  | [] => 0
  | c :: cs => if c < x then pl x cs + 1 else 0
theorem pl_le (x : Nat) : ∀ l : List Nat, pl x l ≤ l.length
  | [] => Nat.le_refl 0
  | c :: cs => by
    have := pl_le x cs
    unfold pl
    split
    · simp; omega
    · simp
theorem pl_eq (x : Nat) : ∀ (l : List Nat) (i : Nat), (∀ k, k < i → l.getD k 0 < x) → i ≤ l.length → (i < l.length → ¬ l.getD i 0 < x) → pl x l = i
  | [], i, _, h2, _ => by simp at h2; subst h2; rfl
  | c :: cs, 0, _, _, h3 => by
    have := h3 (by simp)
    simp at this
    unfold pl
    rw [if_neg (by omega)]
  | c :: cs, i + 1, h1, h2, h3 => by
    have h0 := h1 0 (by omega)
    simp at h0
    unfold pl
    rw [if_pos h0, pl_eq x cs i (fun k hk => by have := h1 (k + 1) (by omega); simpa using this) (by simpa using h2) (fun h => by have := h3 (by simpa using h); simpa using this)]
def inc (x : Nat) (l : List Nat) : List Nat := if 48 ≤ l.length ∨ (pl x l < l.length ∧ l.getD (pl x l) 0 = x) then l else l.take (pl x l) ++ x :: l.drop (pl x l)
def exc (x : Nat) (l : List Nat) : List Nat := if pl x l < l.length ∧ l.getD (pl x l) 0 = x then l.eraseIdx (pl x l) else l

set_option maxHeartbeats 4000000 in
set_option maxRecDepth 100000 in
theorem lp_placeFor {D : zD} {z0 nx : Nat} {L : zL} {V : zV} {a xc : Nat} {l : List Nat} (hs : sSC L a) (hl : SC V a l) (hx : xc < 2147483648) : ∀ (fu : Nat) (i : Nat), l.length - i = fu → i ≤ l.length → (∀ k, k < i → l.getD k 0 < xc) → Z D z0 1 0 0 mX6_placeFor 0 0 2 [some (.ref a), some (.int (nI xc)), some (.int (nI i))] [] L V nx (zi (nI (pl xc l)) L V nx) := by
  intro fu
  induction fu using Nat.strongRecOn with
  | ind fu ih =>
    intro i h_fu h_0 h_1
    obtain ⟨h1, h2⟩ := hs
    have hn := hl.1
    have hn48 := hl.2.2.1
    refine z_iload_n dX6_placeFor_2 rfl ?_
    refine z_aload_n dX6_placeFor_3 rfl ?_
    refine z_getIe dX6_placeFor_4 fX6_15 (by assumption) rfl (by first | assumption | exact zup_s _ _ _ _ | rfl) ?_
    refine z_icmp_geN (tgt := 28) dX6_placeFor_7 (by decide) (by omega) (by omega) (fun c_7 => ?_) (fun c_7 => ?_)
    · refine z_aload_n dX6_placeFor_28 rfl ?_
      refine z_getIe dX6_placeFor_29 fX6_15 (by assumption) rfl (by first | assumption | exact zup_s _ _ _ _ | rfl) ?_
      refine z_ireturn dX6_placeFor_32 (Nat.le_of_ble_eq_true rfl) (Nat.le_of_ble_eq_true rfl) rfl ?_
      exact zi_r (by rw [pl_eq xc l l.length (fun k hk => h_1 k (by omega)) (by omega) (fun h => by omega)])
    · refine z_aload_n dX6_placeFor_10 rfl ?_
      refine z_getR dX6_placeFor_11 fX6_9 (by assumption) rfl ?_
      refine z_iload_n dX6_placeFor_14 rfl ?_
      refine z_ialdN dX6_placeFor_15 (by assumption) (by omega) (by decide) (hl.2.1 i (by omega)) ?_
      refine z_iload_n dX6_placeFor_16 rfl ?_
      have hb1 := hl.lt (k := i) (by omega)
      refine z_icmp_ltN (tgt := 22) dX6_placeFor_17 (by decide) (by omega) (by omega) (fun c_17 => ?_) (fun c_17 => ?_)
      · refine z_incN dX6_placeFor_22 rfl rfl ?_
        refine z_goto (tgt := 2) dX6_placeFor_25 (by decide) ?_
        exact ih _ (by omega) (i + 1) rfl (by omega) (lt_s h_1 c_17)
      · refine z_iload_n dX6_placeFor_20 rfl ?_
        refine z_ireturn dX6_placeFor_21 (Nat.le_of_ble_eq_true rfl) (Nat.le_of_ble_eq_true rfl) rfl ?_
        exact zi_r (by rw [pl_eq xc l i h_1 (by omega) (fun _ => by omega)])

set_option maxHeartbeats 4000000 in
set_option maxRecDepth 100000 in
theorem s_placeFor {D : zD} {z0 nx : Nat} {L : zL} {V : zV} {a xc : Nat} {l : List Nat} (hs : sSC L a) (hl : SC V a l) (hx : xc < 2147483648) : Sp D z0 1 0 0 mX6_placeFor [.ref a, .int (nI xc)] L V nx (zi (nI (pl xc l)) L V nx) := by
  refine Sp.of 1 (by decide) rfl rfl (Nat.le_of_ble_eq_true rfl) ?_
  refine z_iconst (v := nI 0) dX6_placeFor_0 rfl ?_
  refine z_istore_n dX6_placeFor_1 (Nat.le_of_ble_eq_true rfl) rfl ?_
  exact lp_placeFor hs hl hx _ 0 rfl (by omega) (fun k hk => absurd hk (by omega))

