/-! Tape: bytes, and the reading of them -/
def sTp (L : zL) (a : Nat) : Prop := L a = some (.inr (.inr (8, [some (.ref (a + 1)), none, none, none, none, none]))) ∧ L (a + 1) = some (.inl (0, 100))
def bt (b : List Nat) (k : Nat) : Nat := b.getD k 0
/-- a tape of which bytes are read: its text, the place -/
def TA (V : zV) (a : Nat) (b : List Nat) (p : Nat) (fl fk fp : Int32) : Prop := (V a 1 = fl ∧ V a 2 = nI b.length ∧ V a 3 = nI p ∧ V a 4 = fk ∧ V a 5 = fp) ∧ p ≤ b.length ∧ b.length ≤ 100 ∧ ∀ k, k < b.length → V (a + 1) k = nI (bt b k) ∧ bt b k < 256
/-- a tape with bytes on it -/
def TP (V : zV) (a : Nat) (b : List Nat) (fk fp : Int32) : Prop := (V a 1 = nI b.length ∧ V a 4 = fk ∧ V a 5 = fp) ∧ b.length ≤ 100 ∧ ∀ k, k < b.length → V (a + 1) k = nI (bt b k) ∧ bt b k < 256
theorem TA.eq {V V' : zV} {a lo hi p : Nat} {b : List Nat} {fl fk fp : Int32} (h : TA V a b p fl fk fp) (he : zEq V V' lo hi) (hd : a + 2 ≤ lo ∨ hi ≤ a) : TA V' a b p fl fk fp := by
  unfold TA at h ⊢
  rw [he a (by omega), he (a + 1) (by omega)]
  exact h
theorem TP.eq {V V' : zV} {a lo hi : Nat} {b : List Nat} {fk fp : Int32} (h : TP V a b fk fp) (he : zEq V V' lo hi) (hd : a + 2 ≤ lo ∨ hi ≤ a) : TP V' a b fk fp := by
  unfold TP at h ⊢
  rw [he a (by omega), he (a + 1) (by omega)]
  exact h
theorem TA_up {V : zV} {a p p' : Nat} {b : List Nat} {fl fk fp : Int32} (h : TA V a b p fl fk fp) (hp : p' ≤ b.length) : TA (zup V a 3 (nI p')) a b p' fl fk fp := by
  obtain ⟨⟨h1, h2, h3, h4, h5⟩, h6, h7, h8⟩ := h
  exact ⟨⟨by simp [zup]; exact h1, by simp [zup]; exact h2, by simp [zup], by simp [zup]; exact h4, by simp [zup]; exact h5⟩, hp, h7, fun k hk => by rw [zup_a (by omega)]; exact h8 k hk⟩
/-- how many bytes from a place on are so -/
noncomputable def run (q : Nat → Prop) (b : List Nat) (p : Nat) : Nat := fs (fun j => ¬ q (bt b (p + j))) (b.length - p)
theorem run_eq {q : Nat → Prop} {b : List Nat} {p i : Nat} (h1 : ∀ j, j < i → q (bt b (p + j))) (h2 : i ≤ b.length - p) (h3 : i < b.length - p → ¬ q (bt b (p + i))) : run q b p = i := fs_eq (fun j hj c => c (h1 j hj)) h2 h3
theorem run_le (q : Nat → Prop) (b : List Nat) (p : Nat) : run q b p ≤ b.length - p := fs_le _ _
theorem run_y {q : Nat → Prop} {b : List Nat} {p j : Nat} (h : j < run q b p) : q (bt b (p + j)) := Classical.byContradiction (fs_no h)
def isB (x : Nat) : Prop := x = 32
def isL (x : Nat) : Prop := 97 ≤ x ∧ x ≤ 122
def isD (x : Nat) : Prop := 48 ≤ x ∧ x ≤ 57
noncomputable def sk (b : List Nat) (p : Nat) : Nat := p + run isB b p
theorem sk_le {b : List Nat} {p : Nat} (h : p ≤ b.length) : sk b p ≤ b.length := by
  have := run_le isB b p
  unfold sk
  omega
/-- a word stands here -/
def isW (b : List Nat) (p i : Nat) : Prop := run isL b p = zln i ∧ ∀ k, k < zln i → bt b (p + k) = zch i k
/-- a column stands here -/
noncomputable def clm (b : List Nat) (p : Nat) : Option Nat := @ite _ (run isL b p = 1 ∧ bt b p < 100) (Classical.propDecidable _) (some (bt b p - 97)) none
noncomputable def oph (b : List Nat) (p : Nat) : Option Nat := if p < b.length then (if bt b p = 61 then some 0 else if bt b p = 33 then some 1 else if bt b p = 60 then some 2 else if bt b p = 62 then some 3 else none) else none
/-- a byte or none -/
def byI (b : List Nat) (p : Nat) : Int32 := if p < b.length then nI (bt b p) else -1

set_option maxHeartbeats 4000000 in
set_option maxRecDepth 100000 in
theorem lp_sk {D : zD} {z0 nx : Nat} {L : zL} {V : zV} {a p : Nat} {b : List Nat} {fl fk fp : Int32} (hs : sTp L a) : ∀ (fu : Nat) (j : Nat) (V1 : zV), b.length - (p + j) = fu → zEq V V1 a (a + 1) → TA V1 a b (p + j) fl fk fp → (∀ i, i < j → isB (bt b (p + i))) → Z D z0 1 0 0 mX8_skipBlanks 0 0 5 [some (.ref a), some (.int (nI (p + j)))] [] L V1 nx (zq none L nx (fun V' => zEq V V' a (a + 1) ∧ TA V' a b (sk b p) fl fk fp)) := by
  intro fu
  induction fu using Nat.strongRecOn with
  | ind fu ih =>
    intro j V1 h_fu h_0 h_1 h_2
    have hs0 := hs
    have h0 := h_1
    obtain ⟨h1, h2⟩ := hs
    obtain ⟨⟨g1, g2, g3, g4, g5⟩, gp, gl, gb⟩ := h_1
    refine z_iload_n dX8_skipBlanks_5 rfl ?_
    refine z_aload_n dX8_skipBlanks_6 rfl ?_
    refine z_getIe dX8_skipBlanks_7 fX8_96 (by first | assumption | exact And.left (by assumption)) rfl (by first | assumption | exact zup_s _ _ _ _ | rfl) ?_
    refine z_icmp_geN (tgt := 37) dX8_skipBlanks_10 (by decide) (by omega) (by omega) (fun c_10 => ?_) (fun c_10 => ?_)
    · refine z_return dX8_skipBlanks_37 (Nat.le_of_ble_eq_true rfl) (Nat.le_of_ble_eq_true rfl) rfl ?_
      have e : sk b p = p + j := by
        unfold sk
        rw [run_eq (q := isB) (i := j) h_2 (by omega) (fun hh => by unfold isB; omega)]
      exact ⟨rfl, rfl, rfl, h_0, by rw [e]; exact h0⟩
    · refine z_aload_n dX8_skipBlanks_13 rfl ?_
      refine z_getR dX8_skipBlanks_14 fX8_9 (by first | assumption | exact And.left (by assumption)) rfl ?_
      refine z_iload_n dX8_skipBlanks_17 rfl ?_
      refine z_ialdN dX8_skipBlanks_18 (by first | assumption | exact And.left (by assumption)) (by omega) (by decide) (gb (p + j) (by omega)).1 ?_
      have hb := (gb (p + j) (by omega)).2
      refine z_bipush (v := nI 32) dX8_skipBlanks_19 rfl ?_
      refine z_icmp_neN (tgt := 37) dX8_skipBlanks_21 (by decide) (by omega) (by omega) (fun c_21 => ?_) (fun c_21 => ?_)
      · refine z_return dX8_skipBlanks_37 (Nat.le_of_ble_eq_true rfl) (Nat.le_of_ble_eq_true rfl) rfl ?_
        have e : sk b p = p + j := by
          unfold sk
          rw [run_eq (q := isB) (i := j) h_2 (by omega) (fun hh => by unfold isB; omega)]
        exact ⟨rfl, rfl, rfl, h_0, by rw [e]; exact h0⟩
      · refine z_aload_n dX8_skipBlanks_24 rfl ?_
        refine z_iload_n dX8_skipBlanks_25 rfl ?_
        refine z_iconst (v := nI 1) dX8_skipBlanks_26 rfl ?_
        refine z_addN dX8_skipBlanks_27 ?_
        refine z_putI dX8_skipBlanks_28 fX8_99 (by first | assumption | exact And.left (by assumption)) rfl ?_
        refine z_incN dX8_skipBlanks_31 rfl rfl ?_
        refine z_goto (tgt := 5) dX8_skipBlanks_34 (by decide) ?_
        exact ih _ (by omega) (j + 1) _ rfl (h_0.up (by omega) (by omega)) (TA_up h0 (by omega)) (lt_s h_2 c_21)

set_option maxHeartbeats 4000000 in
set_option maxRecDepth 100000 in
theorem s_sk {D : zD} {z0 nx : Nat} {L : zL} {V : zV} {a p : Nat} {b : List Nat} {fl fk fp : Int32} (hs : sTp L a) (h : TA V a b p fl fk fp) : Sp D z0 1 0 0 mX8_skipBlanks [.ref a] L V nx (zq none L nx (fun V' => zEq V V' a (a + 1) ∧ TA V' a b (sk b p) fl fk fp)) := by
  have hs0 := hs
  have h0 := h
  obtain ⟨h1, h2⟩ := hs
  obtain ⟨⟨g1, g2, g3, g4, g5⟩, gp, gl, gb⟩ := h
  refine Sp.of 1 (by decide) rfl rfl (Nat.le_of_ble_eq_true rfl) ?_
  refine z_aload_n dX8_skipBlanks_0 rfl ?_
  refine z_getIe dX8_skipBlanks_1 fX8_99 (by first | assumption | exact And.left (by assumption)) rfl (by first | assumption | exact zup_s _ _ _ _ | rfl) ?_
  refine z_istore_n dX8_skipBlanks_4 (Nat.le_of_ble_eq_true rfl) rfl ?_
  exact lp_sk hs0 _ 0 V rfl zEq.rf h0 (fun i hi => absurd hi (by omega))

set_option maxHeartbeats 4000000 in
set_option maxRecDepth 100000 in
theorem s_goTo {D : zD} {z0 nx : Nat} {L : zL} {V : zV} {a p k : Nat} {b : List Nat} {fl fk fp : Int32} (hs : sTp L a) (h : TA V a b p fl fk fp) (hk : k ≤ b.length) : Sp D z0 2 0 0 mX8_goTo [.ref a, .int (nI k)] L V nx (zq none L nx (fun V' => zEq V V' a (a + 1) ∧ TA V' a b (sk b k) fl fk fp)) := by
  have hs0 := hs
  have h0 := h
  obtain ⟨h1, h2⟩ := hs
  obtain ⟨⟨g1, g2, g3, g4, g5⟩, gp, gl, gb⟩ := h
  refine Sp.of 0 (by decide) rfl rfl (Nat.le_of_ble_eq_true rfl) ?_
  refine z_aload_n dX8_goTo_0 rfl ?_
  refine z_iload_n dX8_goTo_1 rfl ?_
  refine z_putI dX8_goTo_2 fX8_99 (by first | assumption | exact And.left (by assumption)) rfl ?_
  refine z_aload_n dX8_goTo_5 rfl ?_
  refine z_callV0w dX8_goTo_6 kX8_skipBlanks lX8_105 (by first | assumption | exact And.left (by assumption)) rfl (s_sk hs0 (TA_up h0 hk)) (Nat.le_of_ble_eq_true rfl) (Nat.le_of_ble_eq_true rfl) ⟨Nat.le_of_ble_eq_true rfl, Nat.le_of_ble_eq_true rfl⟩ ?_
  intro V1 hV1
  refine z_return dX8_goTo_9 (Nat.le_of_ble_eq_true rfl) (Nat.le_of_ble_eq_true rfl) rfl ?_
  exact ⟨rfl, rfl, rfl, (zEq.rf.up (by omega) (by omega)).trans hV1.1, hV1.2⟩

set_option maxHeartbeats 4000000 in
set_option maxRecDepth 100000 in
theorem s_byI {D : zD} {z0 nx : Nat} {L : zL} {V : zV} {a p k : Nat} {b : List Nat} {fl fk fp : Int32} (hs : sTp L a) (h : TA V a b p fl fk fp) (hk : k < 1000) : Sp D z0 1 0 0 mX8_byteAt [.ref a, .int (nI k)] L V nx (zi (byI b k) L V nx) := by
  have hs0 := hs
  have h0 := h
  obtain ⟨h1, h2⟩ := hs
  obtain ⟨⟨g1, g2, g3, g4, g5⟩, gp, gl, gb⟩ := h
  refine Sp.of 0 (by decide) rfl rfl (Nat.le_of_ble_eq_true rfl) ?_
  refine z_iload_n dX8_byteAt_0 rfl ?_
  refine z_if_ltN (tgt := 21) dX8_byteAt_1 (by decide) (by omega) ?_
  refine z_iload_n dX8_byteAt_4 rfl ?_
  refine z_aload_n dX8_byteAt_5 rfl ?_
  refine z_getIe dX8_byteAt_6 fX8_96 (by first | assumption | exact And.left (by assumption)) rfl (by first | assumption | exact zup_s _ _ _ _ | rfl) ?_
  refine z_icmp_geN (tgt := 21) dX8_byteAt_9 (by decide) (by omega) (by omega) (fun c_9 => ?_) (fun c_9 => ?_)
  · refine z_iconst (v := (-1)) dX8_byteAt_21 rfl ?_
    refine z_ireturn dX8_byteAt_22 (Nat.le_of_ble_eq_true rfl) (Nat.le_of_ble_eq_true rfl) rfl ?_
    exact zi_r (by first | rw [byI, if_pos (by omega)] | (rw [byI, if_neg (by omega)] <;> rfl))
  · refine z_aload_n dX8_byteAt_12 rfl ?_
    refine z_getR dX8_byteAt_13 fX8_9 (by first | assumption | exact And.left (by assumption)) rfl ?_
    refine z_iload_n dX8_byteAt_16 rfl ?_
    refine z_ialdN dX8_byteAt_17 (by first | assumption | exact And.left (by assumption)) (by omega) (by decide) (gb k (by omega)).1 ?_
    refine z_goto (tgt := 22) dX8_byteAt_18 (by decide) ?_
    refine z_ireturn dX8_byteAt_22 (Nat.le_of_ble_eq_true rfl) (Nat.le_of_ble_eq_true rfl) rfl ?_
    exact zi_r (by first | rw [byI, if_pos (by omega)] | (rw [byI, if_neg (by omega)] <;> rfl))

set_option maxHeartbeats 4000000 in
set_option maxRecDepth 100000 in
theorem lp_lets {D : zD} {z0 nx : Nat} {L : zL} {V : zV} {a p : Nat} {b : List Nat} {fl fk fp : Int32} (hs : sTp L a) (h : TA V a b p fl fk fp) : ∀ (fu : Nat) (j : Nat), b.length - (p + j) = fu → p + j ≤ b.length → (∀ i, i < j → isL (bt b (p + i))) → Z D z0 1 0 0 mX8_lettersHere 0 0 7 [some (.ref a), some (.int (nI j)), some (.int (nI (p + j)))] [] L V nx (zi (nI (run isL b p)) L V nx) := by
  intro fu
  induction fu using Nat.strongRecOn with
  | ind fu ih =>
    intro j h_fu h_0 h_1
    have hs0 := hs
    have h0 := h
    obtain ⟨h1, h2⟩ := hs
    obtain ⟨⟨g1, g2, g3, g4, g5⟩, gp, gl, gb⟩ := h
    refine z_iload_n dX8_lettersHere_7 rfl ?_
    refine z_aload_n dX8_lettersHere_8 rfl ?_
    refine z_getIe dX8_lettersHere_9 fX8_96 (by first | assumption | exact And.left (by assumption)) rfl (by first | assumption | exact zup_s _ _ _ _ | rfl) ?_
    refine z_icmp_geN (tgt := 46) dX8_lettersHere_12 (by decide) (by omega) (by omega) (fun c_12 => ?_) (fun c_12 => ?_)
    · refine z_iload_n dX8_lettersHere_46 rfl ?_
      refine z_ireturn dX8_lettersHere_47 (Nat.le_of_ble_eq_true rfl) (Nat.le_of_ble_eq_true rfl) rfl ?_
      exact zi_r (by rw [run_eq (q := isL) (i := j) h_1 (by omega) (fun hh => by unfold isL; omega)])
    · refine z_aload_n dX8_lettersHere_15 rfl ?_
      refine z_getR dX8_lettersHere_16 fX8_9 (by first | assumption | exact And.left (by assumption)) rfl ?_
      refine z_iload_n dX8_lettersHere_19 rfl ?_
      refine z_ialdN dX8_lettersHere_20 (by first | assumption | exact And.left (by assumption)) (by omega) (by decide) (gb (p + j) (by omega)).1 ?_
      have hb := (gb (p + j) (by omega)).2
      refine z_bipush (v := nI 97) dX8_lettersHere_21 rfl ?_
      refine z_icmp_ltN (tgt := 46) dX8_lettersHere_23 (by decide) (by omega) (by omega) (fun c_23 => ?_) (fun c_23 => ?_)
      · refine z_iload_n dX8_lettersHere_46 rfl ?_
        refine z_ireturn dX8_lettersHere_47 (Nat.le_of_ble_eq_true rfl) (Nat.le_of_ble_eq_true rfl) rfl ?_
        exact zi_r (by rw [run_eq (q := isL) (i := j) h_1 (by omega) (fun hh => by unfold isL; omega)])
      · refine z_aload_n dX8_lettersHere_26 rfl ?_
        refine z_getR dX8_lettersHere_27 fX8_9 (by first | assumption | exact And.left (by assumption)) rfl ?_
        refine z_iload_n dX8_lettersHere_30 rfl ?_
        refine z_ialdN dX8_lettersHere_31 (by first | assumption | exact And.left (by assumption)) (by omega) (by decide) (gb (p + j) (by omega)).1 ?_
        refine z_bipush (v := nI 122) dX8_lettersHere_32 rfl ?_
        refine z_icmp_gtN (tgt := 46) dX8_lettersHere_34 (by decide) (by omega) (by omega) (fun c_34 => ?_) (fun c_34 => ?_)
        · refine z_iload_n dX8_lettersHere_46 rfl ?_
          refine z_ireturn dX8_lettersHere_47 (Nat.le_of_ble_eq_true rfl) (Nat.le_of_ble_eq_true rfl) rfl ?_
          exact zi_r (by rw [run_eq (q := isL) (i := j) h_1 (by omega) (fun hh => by unfold isL; omega)])
        · refine z_incN dX8_lettersHere_37 rfl rfl ?_
          refine z_incN dX8_lettersHere_40 rfl rfl ?_
          refine z_goto (tgt := 7) dX8_lettersHere_43 (by decide) ?_
          exact ih _ (by omega) (j + 1) rfl (by omega) (lt_s h_1 (by unfold isL; omega))

set_option maxHeartbeats 4000000 in
set_option maxRecDepth 100000 in
theorem s_lets {D : zD} {z0 nx : Nat} {L : zL} {V : zV} {a p : Nat} {b : List Nat} {fl fk fp : Int32} (hs : sTp L a) (h : TA V a b p fl fk fp) : Sp D z0 1 0 0 mX8_lettersHere [.ref a] L V nx (zi (nI (run isL b p)) L V nx) := by
  have hs0 := hs
  have h0 := h
  obtain ⟨h1, h2⟩ := hs
  obtain ⟨⟨g1, g2, g3, g4, g5⟩, gp, gl, gb⟩ := h
  refine Sp.of 2 (by decide) rfl rfl (Nat.le_of_ble_eq_true rfl) ?_
  refine z_iconst (v := nI 0) dX8_lettersHere_0 rfl ?_
  refine z_istore_n dX8_lettersHere_1 (Nat.le_of_ble_eq_true rfl) rfl ?_
  refine z_aload_n dX8_lettersHere_2 rfl ?_
  refine z_getIe dX8_lettersHere_3 fX8_99 (by first | assumption | exact And.left (by assumption)) rfl (by first | assumption | exact zup_s _ _ _ _ | rfl) ?_
  refine z_istore_n dX8_lettersHere_6 (Nat.le_of_ble_eq_true rfl) rfl ?_
  exact lp_lets hs0 h0 _ 0 rfl (by omega) (fun i hi => absurd hi (by omega))

set_option maxHeartbeats 4000000 in
set_option maxRecDepth 100000 in
theorem lp_digs {D : zD} {z0 nx : Nat} {L : zL} {V : zV} {a p : Nat} {b : List Nat} {fl fk fp : Int32} (hs : sTp L a) (h : TA V a b p fl fk fp) : ∀ (fu : Nat) (j : Nat), b.length - (p + j) = fu → p + j ≤ b.length → (∀ i, i < j → isD (bt b (p + i))) → Z D z0 1 0 0 mX8_digitsHere 0 0 7 [some (.ref a), some (.int (nI j)), some (.int (nI (p + j)))] [] L V nx (zi (nI (run isD b p)) L V nx) := by
  intro fu
  induction fu using Nat.strongRecOn with
  | ind fu ih =>
    intro j h_fu h_0 h_1
    have hs0 := hs
    have h0 := h
    obtain ⟨h1, h2⟩ := hs
    obtain ⟨⟨g1, g2, g3, g4, g5⟩, gp, gl, gb⟩ := h
    refine z_iload_n dX8_digitsHere_7 rfl ?_
    refine z_aload_n dX8_digitsHere_8 rfl ?_
    refine z_getIe dX8_digitsHere_9 fX8_96 (by first | assumption | exact And.left (by assumption)) rfl (by first | assumption | exact zup_s _ _ _ _ | rfl) ?_
    refine z_icmp_geN (tgt := 46) dX8_digitsHere_12 (by decide) (by omega) (by omega) (fun c_12 => ?_) (fun c_12 => ?_)
    · refine z_iload_n dX8_digitsHere_46 rfl ?_
      refine z_ireturn dX8_digitsHere_47 (Nat.le_of_ble_eq_true rfl) (Nat.le_of_ble_eq_true rfl) rfl ?_
      exact zi_r (by rw [run_eq (q := isD) (i := j) h_1 (by omega) (fun hh => by unfold isD; omega)])
    · refine z_aload_n dX8_digitsHere_15 rfl ?_
      refine z_getR dX8_digitsHere_16 fX8_9 (by first | assumption | exact And.left (by assumption)) rfl ?_
      refine z_iload_n dX8_digitsHere_19 rfl ?_
      refine z_ialdN dX8_digitsHere_20 (by first | assumption | exact And.left (by assumption)) (by omega) (by decide) (gb (p + j) (by omega)).1 ?_
      have hb := (gb (p + j) (by omega)).2
      refine z_bipush (v := nI 48) dX8_digitsHere_21 rfl ?_
      refine z_icmp_ltN (tgt := 46) dX8_digitsHere_23 (by decide) (by omega) (by omega) (fun c_23 => ?_) (fun c_23 => ?_)
      · refine z_iload_n dX8_digitsHere_46 rfl ?_
        refine z_ireturn dX8_digitsHere_47 (Nat.le_of_ble_eq_true rfl) (Nat.le_of_ble_eq_true rfl) rfl ?_
        exact zi_r (by rw [run_eq (q := isD) (i := j) h_1 (by omega) (fun hh => by unfold isD; omega)])
      · refine z_aload_n dX8_digitsHere_26 rfl ?_
        refine z_getR dX8_digitsHere_27 fX8_9 (by first | assumption | exact And.left (by assumption)) rfl ?_
        refine z_iload_n dX8_digitsHere_30 rfl ?_
        refine z_ialdN dX8_digitsHere_31 (by first | assumption | exact And.left (by assumption)) (by omega) (by decide) (gb (p + j) (by omega)).1 ?_
        refine z_bipush (v := nI 57) dX8_digitsHere_32 rfl ?_
        refine z_icmp_gtN (tgt := 46) dX8_digitsHere_34 (by decide) (by omega) (by omega) (fun c_34 => ?_) (fun c_34 => ?_)
        · refine z_iload_n dX8_digitsHere_46 rfl ?_
          refine z_ireturn dX8_digitsHere_47 (Nat.le_of_ble_eq_true rfl) (Nat.le_of_ble_eq_true rfl) rfl ?_
          exact zi_r (by rw [run_eq (q := isD) (i := j) h_1 (by omega) (fun hh => by unfold isD; omega)])
        · refine z_incN dX8_digitsHere_37 rfl rfl ?_
          refine z_incN dX8_digitsHere_40 rfl rfl ?_
          refine z_goto (tgt := 7) dX8_digitsHere_43 (by decide) ?_
          exact ih _ (by omega) (j + 1) rfl (by omega) (lt_s h_1 (by unfold isD; omega))

set_option maxHeartbeats 4000000 in
set_option maxRecDepth 100000 in
theorem s_digs {D : zD} {z0 nx : Nat} {L : zL} {V : zV} {a p : Nat} {b : List Nat} {fl fk fp : Int32} (hs : sTp L a) (h : TA V a b p fl fk fp) : Sp D z0 1 0 0 mX8_digitsHere [.ref a] L V nx (zi (nI (run isD b p)) L V nx) := by
  have hs0 := hs
  have h0 := h
  obtain ⟨h1, h2⟩ := hs
  obtain ⟨⟨g1, g2, g3, g4, g5⟩, gp, gl, gb⟩ := h
  refine Sp.of 2 (by decide) rfl rfl (Nat.le_of_ble_eq_true rfl) ?_
  refine z_iconst (v := nI 0) dX8_digitsHere_0 rfl ?_
  refine z_istore_n dX8_digitsHere_1 (Nat.le_of_ble_eq_true rfl) rfl ?_
  refine z_aload_n dX8_digitsHere_2 rfl ?_
  refine z_getIe dX8_digitsHere_3 fX8_99 (by first | assumption | exact And.left (by assumption)) rfl (by first | assumption | exact zup_s _ _ _ _ | rfl) ?_
  refine z_istore_n dX8_digitsHere_6 (Nat.le_of_ble_eq_true rfl) rfl ?_
  exact lp_digs hs0 h0 _ 0 rfl (by omega) (fun i hi => absurd hi (by omega))

set_option maxHeartbeats 4000000 in
set_option maxRecDepth 100000 in
theorem lp_word {D : zD} {z0 nx : Nat} {L : zL} {V : zV} {a p i : Nat} {b : List Nat} {fl fk fp : Int32} (hs : sTp L a) (h : TA V a b p fl fk fp) (hi : i < 7) (hr : run isL b p = zln i) : ∀ (fu : Nat) (k : Nat), zln i - k = fu → k ≤ zln i → (∀ j, j < k → bt b (p + j) = zch i j) → Z D z0 5 0 0 mX8_takeWord 0 0 15 [some (.ref a), some (.ref (D.2 (100 + i))), some (.int (nI k))] [] L V nx (zq (some (.int (zb (isW b p i)))) L nx (fun V' => zEq V V' a (a + 1) ∧ TA V' a b (@ite _ (isW b p i) (Classical.propDecidable _) (sk b (p + zln i)) p) fl fk fp)) := by
  intro fu
  induction fu using Nat.strongRecOn with
  | ind fu ih =>
    intro k h_fu h_0 h_1
    have hs0 := hs
    have h0 := h
    obtain ⟨h1, h2⟩ := hs
    obtain ⟨⟨g1, g2, g3, g4, g5⟩, gp, gl, gb⟩ := h
    have hz := zln_lt i hi
    have hrl := run_le isL b p
    refine z_iload_n dX8_takeWord_15 rfl ?_
    refine z_aload_n dX8_takeWord_16 rfl ?_
    refine z_callVs0 dX8_takeWord_17 hi kJ0_length_8abf5 lX8_154 rfl (s_strlen hi) (Nat.le_of_ble_eq_true rfl) (Nat.le_of_ble_eq_true rfl) ⟨Nat.le_of_ble_eq_true rfl, Nat.le_of_ble_eq_true rfl⟩ ?_
    refine z_icmp_geN (tgt := 49) dX8_takeWord_20 (by decide) (by omega) (by omega) (fun c_20 => ?_) (fun c_20 => ?_)
    · refine z_aload_n dX8_takeWord_49 rfl ?_
      refine z_aload_n dX8_takeWord_50 rfl ?_
      refine z_getIe dX8_takeWord_51 fX8_99 (by first | assumption | exact And.left (by assumption)) rfl (by first | assumption | exact zup_s _ _ _ _ | rfl) ?_
      refine z_aload_n dX8_takeWord_54 rfl ?_
      refine z_callVs0 dX8_takeWord_55 hi kJ0_length_8abf5 lX8_154 rfl (s_strlen hi) (Nat.le_of_ble_eq_true rfl) (Nat.le_of_ble_eq_true rfl) ⟨Nat.le_of_ble_eq_true rfl, Nat.le_of_ble_eq_true rfl⟩ ?_
      refine z_addN dX8_takeWord_58 ?_
      refine z_callV1w dX8_takeWord_59 kX8_goTo lX8_114 (by first | assumption | exact And.left (by assumption)) rfl (s_goTo hs0 h0 (by omega)) (Nat.le_of_ble_eq_true rfl) (Nat.le_of_ble_eq_true rfl) ⟨Nat.le_of_ble_eq_true rfl, Nat.le_of_ble_eq_true rfl⟩ ?_
      intro V1 hV1
      refine z_iconst (v := nI 1) dX8_takeWord_62 rfl ?_
      refine z_zreturn dX8_takeWord_63 (Nat.le_of_ble_eq_true rfl) (Nat.le_of_ble_eq_true rfl) rfl (by first | exact Or.inl rfl | exact Or.inr rfl | exact zb_01 _ | assumption) ?_
      have hy : isW b p i := ⟨hr, fun j hj => h_1 j (by omega)⟩
      exact ⟨by rw [zb_t hy] <;> rfl, rfl, rfl, hV1.1, by rw [if_pos hy]; exact hV1.2⟩
    · refine z_aload_n dX8_takeWord_23 rfl ?_
      refine z_aload_n dX8_takeWord_24 rfl ?_
      refine z_getIe dX8_takeWord_25 fX8_99 (by first | assumption | exact And.left (by assumption)) rfl (by first | assumption | exact zup_s _ _ _ _ | rfl) ?_
      refine z_iload_n dX8_takeWord_28 rfl ?_
      refine z_addN dX8_takeWord_29 ?_
      refine z_callV1i dX8_takeWord_30 kX8_byteAt lX8_142 (by first | assumption | exact And.left (by assumption)) rfl (s_byI hs0 h0 (by omega)) (Nat.le_of_ble_eq_true rfl) (Nat.le_of_ble_eq_true rfl) ⟨Nat.le_of_ble_eq_true rfl, Nat.le_of_ble_eq_true rfl⟩ ?_
      rw [show byI b (p + k) = nI (bt b (p + k)) from if_pos (by omega)]
      have hb := (gb (p + k) (by omega)).2
      have hc := zch_lt i hi k (by omega)
      refine z_aload_n dX8_takeWord_33 rfl ?_
      refine z_iload_n dX8_takeWord_34 rfl ?_
      refine z_callVs1 dX8_takeWord_35 hi kJ0_charAt_5068e lX8_158 rfl (s_charAt hi (by omega)) (Nat.le_of_ble_eq_true rfl) (Nat.le_of_ble_eq_true rfl) ⟨Nat.le_of_ble_eq_true rfl, Nat.le_of_ble_eq_true rfl⟩ ?_
      refine z_icmp_eqN (tgt := 43) dX8_takeWord_38 (by decide) (by omega) (by omega) (fun c_38 => ?_) (fun c_38 => ?_)
      · refine z_incN dX8_takeWord_43 rfl rfl ?_
        refine z_goto (tgt := 15) dX8_takeWord_46 (by decide) ?_
        exact ih _ (by omega) (k + 1) rfl (by omega) (lt_s h_1 c_38)
      · refine z_iconst (v := nI 0) dX8_takeWord_41 rfl ?_
        refine z_zreturn dX8_takeWord_42 (Nat.le_of_ble_eq_true rfl) (Nat.le_of_ble_eq_true rfl) rfl (by first | exact Or.inl rfl | exact Or.inr rfl | exact zb_01 _ | assumption) ?_
        have hn : ¬ isW b p i := fun q => c_38 (q.2 k (by omega))
        exact ⟨by rw [zb_f hn] <;> rfl, rfl, rfl, zEq.rf, by rw [if_neg hn]; exact h0⟩

set_option maxHeartbeats 4000000 in
set_option maxRecDepth 100000 in
theorem s_word {D : zD} {z0 nx : Nat} {L : zL} {V : zV} {a p i : Nat} {b : List Nat} {fl fk fp : Int32} (hs : sTp L a) (h : TA V a b p fl fk fp) (hi : i < 7) : Sp D z0 5 0 0 mX8_takeWord [.ref a, .ref (D.2 (100 + i))] L V nx (zq (some (.int (zb (isW b p i)))) L nx (fun V' => zEq V V' a (a + 1) ∧ TA V' a b (@ite _ (isW b p i) (Classical.propDecidable _) (sk b (p + zln i)) p) fl fk fp)) := by
  have hs0 := hs
  have h0 := h
  obtain ⟨h1, h2⟩ := hs
  obtain ⟨⟨g1, g2, g3, g4, g5⟩, gp, gl, gb⟩ := h
  have hz := zln_lt i hi
  have hrl := run_le isL b p
  refine Sp.of 1 (by decide) rfl rfl (Nat.le_of_ble_eq_true rfl) ?_
  refine z_aload_n dX8_takeWord_0 rfl ?_
  refine z_callV0i dX8_takeWord_1 kX8_lettersHere lX8_151 (by first | assumption | exact And.left (by assumption)) rfl (s_lets hs0 h0) (Nat.le_of_ble_eq_true rfl) (Nat.le_of_ble_eq_true rfl) ⟨Nat.le_of_ble_eq_true rfl, Nat.le_of_ble_eq_true rfl⟩ ?_
  refine z_aload_n dX8_takeWord_4 rfl ?_
  refine z_callVs0 dX8_takeWord_5 hi kJ0_length_8abf5 lX8_154 rfl (s_strlen hi) (Nat.le_of_ble_eq_true rfl) (Nat.le_of_ble_eq_true rfl) ⟨Nat.le_of_ble_eq_true rfl, Nat.le_of_ble_eq_true rfl⟩ ?_
  refine z_icmp_eqN (tgt := 13) dX8_takeWord_8 (by decide) (by omega) (by omega) (fun c_8 => ?_) (fun c_8 => ?_)
  · refine z_iconst (v := nI 0) dX8_takeWord_13 rfl ?_
    refine z_istore_n dX8_takeWord_14 (Nat.le_of_ble_eq_true rfl) rfl ?_
    exact lp_word hs0 h0 hi c_8 _ 0 rfl (by omega) (fun j hj => absurd hj (by omega))
  · refine z_iconst (v := nI 0) dX8_takeWord_11 rfl ?_
    refine z_zreturn dX8_takeWord_12 (Nat.le_of_ble_eq_true rfl) (Nat.le_of_ble_eq_true rfl) rfl (by first | exact Or.inl rfl | exact Or.inr rfl | exact zb_01 _ | assumption) ?_
    have hn : ¬ isW b p i := fun q => c_8 q.1
    exact ⟨by rw [zb_f hn] <;> rfl, rfl, rfl, zEq.rf, by rw [if_neg hn]; exact h0⟩

set_option maxHeartbeats 4000000 in
set_option maxRecDepth 100000 in
theorem s_signA {D : zD} {z0 nx : Nat} {L : zL} {V : zV} {a p sg : Nat} {b : List Nat} {fl fk fp : Int32} (hs : sTp L a) (h : TA V a b p fl fk fp) (hg : sg < 256) (hp : p < b.length) : Sp D z0 3 0 0 mX8_takeSign [.ref a, .int (nI sg)] L V nx (zq (some (.int (zb (p < b.length ∧ bt b p = sg)))) L nx (fun V' => zEq V V' a (a + 1) ∧ TA V' a b (@ite _ (p < b.length ∧ bt b p = sg) (Classical.propDecidable _) (sk b (p + 1)) p) fl fk fp)) := by
  have hs0 := hs
  have h0 := h
  obtain ⟨h1, h2⟩ := hs
  obtain ⟨⟨g1, g2, g3, g4, g5⟩, gp, gl, gb⟩ := h
  have hby := s_byI (D := D) (z0 := z0) (nx := nx) hs0 h0 (k := p) (by omega)
  unfold byI at hby
  rw [if_pos hp] at hby
  have hb := (gb p hp).2
  refine Sp.of 0 (by decide) rfl rfl (Nat.le_of_ble_eq_true rfl) ?_
  refine z_aload_n dX8_takeSign_0 rfl ?_
  refine z_aload_n dX8_takeSign_1 rfl ?_
  refine z_getIe dX8_takeSign_2 fX8_99 (by first | assumption | exact And.left (by assumption)) rfl (by first | assumption | exact zup_s _ _ _ _ | rfl) ?_
  refine z_callV1i dX8_takeSign_5 kX8_byteAt lX8_142 (by first | assumption | exact And.left (by assumption)) rfl hby (Nat.le_of_ble_eq_true rfl) (Nat.le_of_ble_eq_true rfl) ⟨Nat.le_of_ble_eq_true rfl, Nat.le_of_ble_eq_true rfl⟩ ?_
  refine z_iload_n dX8_takeSign_8 rfl ?_
  refine z_icmp_eqN (tgt := 14) dX8_takeSign_9 (by decide) (by omega) (by omega) (fun c_9 => ?_) (fun c_9 => ?_)
  · refine z_aload_n dX8_takeSign_14 rfl ?_
    refine z_aload_n dX8_takeSign_15 rfl ?_
    refine z_getIe dX8_takeSign_16 fX8_99 (by first | assumption | exact And.left (by assumption)) rfl (by first | assumption | exact zup_s _ _ _ _ | rfl) ?_
    refine z_iconst (v := nI 1) dX8_takeSign_19 rfl ?_
    refine z_addN dX8_takeSign_20 ?_
    refine z_callV1w dX8_takeSign_21 kX8_goTo lX8_114 (by first | assumption | exact And.left (by assumption)) rfl (s_goTo hs0 h0 (by omega)) (Nat.le_of_ble_eq_true rfl) (Nat.le_of_ble_eq_true rfl) ⟨Nat.le_of_ble_eq_true rfl, Nat.le_of_ble_eq_true rfl⟩ ?_
    intro V1 hV1
    refine z_iconst (v := nI 1) dX8_takeSign_24 rfl ?_
    refine z_zreturn dX8_takeSign_25 (Nat.le_of_ble_eq_true rfl) (Nat.le_of_ble_eq_true rfl) rfl (by first | exact Or.inl rfl | exact Or.inr rfl | exact zb_01 _ | assumption) ?_
    have hy : p < b.length ∧ bt b p = sg := ⟨hp, c_9⟩
    exact ⟨by rw [zb_t hy] <;> rfl, rfl, rfl, hV1.1, by rw [if_pos hy]; exact hV1.2⟩
  · refine z_iconst (v := nI 0) dX8_takeSign_12 rfl ?_
    refine z_zreturn dX8_takeSign_13 (Nat.le_of_ble_eq_true rfl) (Nat.le_of_ble_eq_true rfl) rfl (by first | exact Or.inl rfl | exact Or.inr rfl | exact zb_01 _ | assumption) ?_
    have hn : ¬ (p < b.length ∧ bt b p = sg) := fun q => by omega
    exact ⟨by rw [zb_f hn] <;> rfl, rfl, rfl, zEq.rf, by rw [if_neg hn]; exact h0⟩

set_option maxHeartbeats 4000000 in
set_option maxRecDepth 100000 in
theorem s_signB {D : zD} {z0 nx : Nat} {L : zL} {V : zV} {a p sg : Nat} {b : List Nat} {fl fk fp : Int32} (hs : sTp L a) (h : TA V a b p fl fk fp) (hg : sg < 256) (hp : ¬ p < b.length) : Sp D z0 3 0 0 mX8_takeSign [.ref a, .int (nI sg)] L V nx (zq (some (.int (zb (p < b.length ∧ bt b p = sg)))) L nx (fun V' => zEq V V' a (a + 1) ∧ TA V' a b (@ite _ (p < b.length ∧ bt b p = sg) (Classical.propDecidable _) (sk b (p + 1)) p) fl fk fp)) := by
  have hs0 := hs
  have h0 := h
  obtain ⟨h1, h2⟩ := hs
  obtain ⟨⟨g1, g2, g3, g4, g5⟩, gp, gl, gb⟩ := h
  have hby := s_byI (D := D) (z0 := z0) (nx := nx) hs0 h0 (k := p) (by omega)
  unfold byI at hby
  rw [if_neg hp] at hby
  refine Sp.of 0 (by decide) rfl rfl (Nat.le_of_ble_eq_true rfl) ?_
  refine z_aload_n dX8_takeSign_0 rfl ?_
  refine z_aload_n dX8_takeSign_1 rfl ?_
  refine z_getIe dX8_takeSign_2 fX8_99 (by first | assumption | exact And.left (by assumption)) rfl (by first | assumption | exact zup_s _ _ _ _ | rfl) ?_
  refine z_callV1i dX8_takeSign_5 kX8_byteAt lX8_142 (by first | assumption | exact And.left (by assumption)) rfl hby (Nat.le_of_ble_eq_true rfl) (Nat.le_of_ble_eq_true rfl) ⟨Nat.le_of_ble_eq_true rfl, Nat.le_of_ble_eq_true rfl⟩ ?_
  refine z_iload_n dX8_takeSign_8 rfl ?_
  refine z_icmp_eq (tgt := 14) dX8_takeSign_9 (by decide) (fun c_9 => ?_) (fun c_9 => ?_)
  · exact absurd c_9.symm (nI_ne_m1 (by omega))
  · refine z_iconst (v := nI 0) dX8_takeSign_12 rfl ?_
    refine z_zreturn dX8_takeSign_13 (Nat.le_of_ble_eq_true rfl) (Nat.le_of_ble_eq_true rfl) rfl (by first | exact Or.inl rfl | exact Or.inr rfl | exact zb_01 _ | assumption) ?_
    have hn : ¬ (p < b.length ∧ bt b p = sg) := fun q => by omega
    exact ⟨by rw [zb_f hn] <;> rfl, rfl, rfl, zEq.rf, by rw [if_neg hn]; exact h0⟩

theorem s_sign {D : zD} {z0 nx : Nat} {L : zL} {V : zV} {a p sg : Nat} {b : List Nat} {fl fk fp : Int32} (hs : sTp L a) (h : TA V a b p fl fk fp) (hg : sg < 256) : Sp D z0 3 0 0 mX8_takeSign [.ref a, .int (nI sg)] L V nx (zq (some (.int (zb (p < b.length ∧ bt b p = sg)))) L nx (fun V' => zEq V V' a (a + 1) ∧ TA V' a b (@ite _ (p < b.length ∧ bt b p = sg) (Classical.propDecidable _) (sk b (p + 1)) p) fl fk fp)) := by
  by_cases hp : p < b.length
  · exact s_signA hs h hg hp
  · exact s_signB hs h hg hp

set_option maxHeartbeats 4000000 in
set_option maxRecDepth 100000 in
theorem s_clmA {D : zD} {z0 nx : Nat} {L : zL} {V : zV} {a p : Nat} {b : List Nat} {fl fk fp : Int32} (hs : sTp L a) (h : TA V a b p fl fk fp) (hp : isL (bt b p) ∧ p < b.length) : Sp D z0 2 0 0 mX8_columnHere [.ref a] L V nx (zi (vv (clm b p)) L V nx) := by
  have hs0 := hs
  have h0 := h
  obtain ⟨h1, h2⟩ := hs
  obtain ⟨⟨g1, g2, g3, g4, g5⟩, gp, gl, gb⟩ := h
  have hby := s_byI (D := D) (z0 := z0) (nx := nx) hs0 h0 (k := p) (by omega)
  unfold byI at hby
  have hrl := run_le isL b p
  rw [if_pos hp.2] at hby
  have hb := (gb p hp.2).2
  have hl1 : 97 ≤ bt b p := hp.1.1
  refine Sp.of 1 (by decide) rfl rfl (Nat.le_of_ble_eq_true rfl) ?_
  refine z_aload_n dX8_columnHere_0 rfl ?_
  refine z_aload_n dX8_columnHere_1 rfl ?_
  refine z_getIe dX8_columnHere_2 fX8_99 (by first | assumption | exact And.left (by assumption)) rfl (by first | assumption | exact zup_s _ _ _ _ | rfl) ?_
  refine z_callV1i dX8_columnHere_5 kX8_byteAt lX8_142 (by first | assumption | exact And.left (by assumption)) rfl hby (Nat.le_of_ble_eq_true rfl) (Nat.le_of_ble_eq_true rfl) ⟨Nat.le_of_ble_eq_true rfl, Nat.le_of_ble_eq_true rfl⟩ ?_
  refine z_bipush (v := nI 97) dX8_columnHere_8 rfl ?_
  refine z_subN dX8_columnHere_10 (by omega) ?_
  refine z_istore_n dX8_columnHere_11 (Nat.le_of_ble_eq_true rfl) rfl ?_
  refine z_aload_n dX8_columnHere_12 rfl ?_
  refine z_callV0i dX8_columnHere_13 kX8_lettersHere lX8_151 (by first | assumption | exact And.left (by assumption)) rfl (s_lets hs0 h0) (Nat.le_of_ble_eq_true rfl) (Nat.le_of_ble_eq_true rfl) ⟨Nat.le_of_ble_eq_true rfl, Nat.le_of_ble_eq_true rfl⟩ ?_
  refine z_iconst (v := nI 1) dX8_columnHere_16 rfl ?_
  refine z_icmp_neN (tgt := 29) dX8_columnHere_17 (by decide) (by omega) (by omega) (fun c_17 => ?_) (fun c_17 => ?_)
  · refine z_iconst (v := (-1)) dX8_columnHere_29 rfl ?_
    refine z_ireturn dX8_columnHere_30 (Nat.le_of_ble_eq_true rfl) (Nat.le_of_ble_eq_true rfl) rfl ?_
    exact zi_r (by first | (rw [clm, if_pos ⟨c_17, by omega⟩] <;> rfl) | (rw [clm, if_neg (fun q => by omega)] <;> rfl))
  · refine z_iload_n dX8_columnHere_20 rfl ?_
    refine z_iconst (v := nI 3) dX8_columnHere_21 rfl ?_
    refine z_icmp_geN (tgt := 29) dX8_columnHere_22 (by decide) (by omega) (by omega) (fun c_22 => ?_) (fun c_22 => ?_)
    · refine z_iconst (v := (-1)) dX8_columnHere_29 rfl ?_
      refine z_ireturn dX8_columnHere_30 (Nat.le_of_ble_eq_true rfl) (Nat.le_of_ble_eq_true rfl) rfl ?_
      exact zi_r (by first | (rw [clm, if_pos ⟨c_17, by omega⟩] <;> rfl) | (rw [clm, if_neg (fun q => by omega)] <;> rfl))
    · refine z_iload_n dX8_columnHere_25 rfl ?_
      refine z_goto (tgt := 30) dX8_columnHere_26 (by decide) ?_
      refine z_ireturn dX8_columnHere_30 (Nat.le_of_ble_eq_true rfl) (Nat.le_of_ble_eq_true rfl) rfl ?_
      exact zi_r (by first | (rw [clm, if_pos ⟨c_17, by omega⟩] <;> rfl) | (rw [clm, if_neg (fun q => by omega)] <;> rfl))

set_option maxHeartbeats 4000000 in
set_option maxRecDepth 100000 in
theorem s_clmB {D : zD} {z0 nx : Nat} {L : zL} {V : zV} {a p : Nat} {b : List Nat} {fl fk fp : Int32} (hs : sTp L a) (h : TA V a b p fl fk fp) (hp : ¬ (isL (bt b p) ∧ p < b.length)) : Sp D z0 2 0 0 mX8_columnHere [.ref a] L V nx (zi (vv (clm b p)) L V nx) := by
  have hs0 := hs
  have h0 := h
  obtain ⟨h1, h2⟩ := hs
  obtain ⟨⟨g1, g2, g3, g4, g5⟩, gp, gl, gb⟩ := h
  have hby := s_byI (D := D) (z0 := z0) (nx := nx) hs0 h0 (k := p) (by omega)
  unfold byI at hby
  have hrl := run_le isL b p
  have hr0 : run isL b p = 0 := run_eq (i := 0) (fun j hj => absurd hj (by omega)) (by omega) (fun q c => hp ⟨c, by omega⟩)
  refine Sp.of 1 (by decide) rfl rfl (Nat.le_of_ble_eq_true rfl) ?_
  refine z_aload_n dX8_columnHere_0 rfl ?_
  refine z_aload_n dX8_columnHere_1 rfl ?_
  refine z_getIe dX8_columnHere_2 fX8_99 (by first | assumption | exact And.left (by assumption)) rfl (by first | assumption | exact zup_s _ _ _ _ | rfl) ?_
  refine z_callV1i dX8_columnHere_5 kX8_byteAt lX8_142 (by first | assumption | exact And.left (by assumption)) rfl (s_byI hs0 h0 (k := p) (by omega)) (Nat.le_of_ble_eq_true rfl) (Nat.le_of_ble_eq_true rfl) ⟨Nat.le_of_ble_eq_true rfl, Nat.le_of_ble_eq_true rfl⟩ ?_
  refine z_bipush (v := nI 97) dX8_columnHere_8 rfl ?_
  refine z_isub dX8_columnHere_10 ?_
  refine z_istore_n dX8_columnHere_11 (Nat.le_of_ble_eq_true rfl) rfl ?_
  refine z_aload_n dX8_columnHere_12 rfl ?_
  refine z_callV0i dX8_columnHere_13 kX8_lettersHere lX8_151 (by first | assumption | exact And.left (by assumption)) rfl (s_lets hs0 h0) (Nat.le_of_ble_eq_true rfl) (Nat.le_of_ble_eq_true rfl) ⟨Nat.le_of_ble_eq_true rfl, Nat.le_of_ble_eq_true rfl⟩ ?_
  refine z_iconst (v := nI 1) dX8_columnHere_16 rfl ?_
  refine z_icmp_neN (tgt := 29) dX8_columnHere_17 (by decide) (by omega) (by omega) (fun c_17 => ?_) (fun c_17 => ?_)
  · refine z_iconst (v := (-1)) dX8_columnHere_29 rfl ?_
    refine z_ireturn dX8_columnHere_30 (Nat.le_of_ble_eq_true rfl) (Nat.le_of_ble_eq_true rfl) rfl ?_
    exact zi_r (by first | (rw [clm, if_pos ⟨c_17, by omega⟩] <;> rfl) | (rw [clm, if_neg (fun q => by omega)] <;> rfl))
  · exact absurd c_17 (by omega)

theorem s_clm {D : zD} {z0 nx : Nat} {L : zL} {V : zV} {a p : Nat} {b : List Nat} {fl fk fp : Int32} (hs : sTp L a) (h : TA V a b p fl fk fp) : Sp D z0 2 0 0 mX8_columnHere [.ref a] L V nx (zi (vv (clm b p)) L V nx) := by
  by_cases hp : isL (bt b p) ∧ p < b.length
  · exact s_clmA hs h hp
  · exact s_clmB hs h hp
theorem clm_some {b : List Nat} {p c : Nat} (h : clm b p = some c) : c < 3 ∧ p < b.length := by
  unfold clm at h
  split at h
  · rename_i q
    cases h
    have := run_le isL b p
    omega
  · cases h

theorem vv_lt {q : Option Nat} {n : Nat} (h : q = some n) : vv q = nI n := by rw [h] <;> rfl

set_option maxHeartbeats 4000000 in
set_option maxRecDepth 100000 in
theorem s_oph {D : zD} {z0 nx : Nat} {L : zL} {V : zV} {a p : Nat} {b : List Nat} {fl fk fp : Int32} (hs : sTp L a) (h : TA V a b p fl fk fp) : Sp D z0 2 0 0 mX8_opHere [.ref a] L V nx (zi (vv (oph b p)) L V nx) := by
  have hs0 := hs
  have h0 := h
  obtain ⟨h1, h2⟩ := hs
  obtain ⟨⟨g1, g2, g3, g4, g5⟩, gp, gl, gb⟩ := h
  have hby := s_byI (D := D) (z0 := z0) (nx := nx) hs0 h0 (k := p) (by omega)
  unfold byI at hby
  refine Sp.of 0 (by decide) rfl rfl (Nat.le_of_ble_eq_true rfl) ?_
  by_cases hp : p < b.length
  · rw [if_pos hp] at hby
    have hb := (gb p hp).2
    by_cases hc : bt b p = 61
    · have he : oph b p = some 0 := by rw [oph, if_pos hp]; simp [hc]
      rw [hc] at hby
      refine z_aload_n dX8_opHere_0 rfl ?_
      refine z_aload_n dX8_opHere_1 rfl ?_
      refine z_getIe dX8_opHere_2 fX8_99 (by first | assumption | exact And.left (by assumption)) rfl (by first | assumption | exact zup_s _ _ _ _ | rfl) ?_
      refine z_callV1i dX8_opHere_5 kX8_byteAt lX8_142 (by first | assumption | exact And.left (by assumption)) rfl hby (Nat.le_of_ble_eq_true rfl) (Nat.le_of_ble_eq_true rfl) ⟨Nat.le_of_ble_eq_true rfl, Nat.le_of_ble_eq_true rfl⟩ ?_
      refine z_lookup (off := 44) (tgt := 52) dX8_opHere_8 (by decide) (by decide) (by decide) ?_
      refine z_iconst (v := nI 0) dX8_opHere_52 rfl ?_
      refine z_ireturn dX8_opHere_53 (Nat.le_of_ble_eq_true rfl) (Nat.le_of_ble_eq_true rfl) rfl ?_
      exact zi_r (by rw [he] <;> rfl)
    by_cases hc2 : bt b p = 33
    · have he : oph b p = some 1 := by rw [oph, if_pos hp]; simp [hc2]
      rw [hc2] at hby
      refine z_aload_n dX8_opHere_0 rfl ?_
      refine z_aload_n dX8_opHere_1 rfl ?_
      refine z_getIe dX8_opHere_2 fX8_99 (by first | assumption | exact And.left (by assumption)) rfl (by first | assumption | exact zup_s _ _ _ _ | rfl) ?_
      refine z_callV1i dX8_opHere_5 kX8_byteAt lX8_142 (by first | assumption | exact And.left (by assumption)) rfl hby (Nat.le_of_ble_eq_true rfl) (Nat.le_of_ble_eq_true rfl) ⟨Nat.le_of_ble_eq_true rfl, Nat.le_of_ble_eq_true rfl⟩ ?_
      refine z_lookup (off := 46) (tgt := 54) dX8_opHere_8 (by decide) (by decide) (by decide) ?_
      refine z_iconst (v := nI 1) dX8_opHere_54 rfl ?_
      refine z_ireturn dX8_opHere_55 (Nat.le_of_ble_eq_true rfl) (Nat.le_of_ble_eq_true rfl) rfl ?_
      exact zi_r (by rw [he] <;> rfl)
    by_cases hc3 : bt b p = 60
    · have he : oph b p = some 2 := by rw [oph, if_pos hp]; simp [hc3]
      rw [hc3] at hby
      refine z_aload_n dX8_opHere_0 rfl ?_
      refine z_aload_n dX8_opHere_1 rfl ?_
      refine z_getIe dX8_opHere_2 fX8_99 (by first | assumption | exact And.left (by assumption)) rfl (by first | assumption | exact zup_s _ _ _ _ | rfl) ?_
      refine z_callV1i dX8_opHere_5 kX8_byteAt lX8_142 (by first | assumption | exact And.left (by assumption)) rfl hby (Nat.le_of_ble_eq_true rfl) (Nat.le_of_ble_eq_true rfl) ⟨Nat.le_of_ble_eq_true rfl, Nat.le_of_ble_eq_true rfl⟩ ?_
      refine z_lookup (off := 48) (tgt := 56) dX8_opHere_8 (by decide) (by decide) (by decide) ?_
      refine z_iconst (v := nI 2) dX8_opHere_56 rfl ?_
      refine z_ireturn dX8_opHere_57 (Nat.le_of_ble_eq_true rfl) (Nat.le_of_ble_eq_true rfl) rfl ?_
      exact zi_r (by rw [he] <;> rfl)
    by_cases hc4 : bt b p = 62
    · have he : oph b p = some 3 := by rw [oph, if_pos hp]; simp [hc4]
      rw [hc4] at hby
      refine z_aload_n dX8_opHere_0 rfl ?_
      refine z_aload_n dX8_opHere_1 rfl ?_
      refine z_getIe dX8_opHere_2 fX8_99 (by first | assumption | exact And.left (by assumption)) rfl (by first | assumption | exact zup_s _ _ _ _ | rfl) ?_
      refine z_callV1i dX8_opHere_5 kX8_byteAt lX8_142 (by first | assumption | exact And.left (by assumption)) rfl hby (Nat.le_of_ble_eq_true rfl) (Nat.le_of_ble_eq_true rfl) ⟨Nat.le_of_ble_eq_true rfl, Nat.le_of_ble_eq_true rfl⟩ ?_
      refine z_lookup (off := 50) (tgt := 58) dX8_opHere_8 (by decide) (by decide) (by decide) ?_
      refine z_iconst (v := nI 3) dX8_opHere_58 rfl ?_
      refine z_ireturn dX8_opHere_59 (Nat.le_of_ble_eq_true rfl) (Nat.le_of_ble_eq_true rfl) rfl ?_
      exact zi_r (by rw [he] <;> rfl)
    have he : oph b p = none := by rw [oph, if_pos hp, if_neg hc, if_neg hc2, if_neg hc3, if_neg hc4]
    have hoff : Op.lookupswitch.offset [(33, 46), (60, 48), (61, 44), (62, 50)] 52 (nI (bt b p)).toInt = 52 := by
      rw [nI_toInt (by omega)]
      have e1 : ¬ ((bt b p : Nat) : Int) = 33 := by omega
      have e2 : ¬ ((bt b p : Nat) : Int) = 60 := by omega
      have e3 : ¬ ((bt b p : Nat) : Int) = 61 := by omega
      have e4 : ¬ ((bt b p : Nat) : Int) = 62 := by omega
      simp [Op.lookupswitch.offset, e1, e2, e3, e4]
      omega
    refine z_aload_n dX8_opHere_0 rfl ?_
    refine z_aload_n dX8_opHere_1 rfl ?_
    refine z_getIe dX8_opHere_2 fX8_99 (by first | assumption | exact And.left (by assumption)) rfl (by first | assumption | exact zup_s _ _ _ _ | rfl) ?_
    refine z_callV1i dX8_opHere_5 kX8_byteAt lX8_142 (by first | assumption | exact And.left (by assumption)) rfl hby (Nat.le_of_ble_eq_true rfl) (Nat.le_of_ble_eq_true rfl) ⟨Nat.le_of_ble_eq_true rfl, Nat.le_of_ble_eq_true rfl⟩ ?_
    refine z_lookup (off := 52) (tgt := 60) dX8_opHere_8 (by decide) hoff (by decide) ?_
    refine z_iconst (v := (-1)) dX8_opHere_60 rfl ?_
    refine z_ireturn dX8_opHere_61 (Nat.le_of_ble_eq_true rfl) (Nat.le_of_ble_eq_true rfl) rfl ?_
    exact zi_r (by rw [he] <;> rfl)
  · rw [if_neg hp] at hby
    have he : oph b p = none := by rw [oph, if_neg hp]
    refine z_aload_n dX8_opHere_0 rfl ?_
    refine z_aload_n dX8_opHere_1 rfl ?_
    refine z_getIe dX8_opHere_2 fX8_99 (by first | assumption | exact And.left (by assumption)) rfl (by first | assumption | exact zup_s _ _ _ _ | rfl) ?_
    refine z_callV1i dX8_opHere_5 kX8_byteAt lX8_142 (by first | assumption | exact And.left (by assumption)) rfl hby (Nat.le_of_ble_eq_true rfl) (Nat.le_of_ble_eq_true rfl) ⟨Nat.le_of_ble_eq_true rfl, Nat.le_of_ble_eq_true rfl⟩ ?_
    refine z_lookup (off := 52) (tgt := 60) dX8_opHere_8 (by decide) (by decide) (by decide) ?_
    refine z_iconst (v := (-1)) dX8_opHere_60 rfl ?_
    refine z_ireturn dX8_opHere_61 (Nat.le_of_ble_eq_true rfl) (Nat.le_of_ble_eq_true rfl) rfl ?_
    exact zi_r (by rw [he] <;> rfl)

set_option maxHeartbeats 4000000 in
set_option maxRecDepth 100000 in
theorem s_refuse {D : zD} {z0 nx : Nat} {L : zL} {V : zV} {a p k : Nat} {b : List Nat} {fl fk fp : Int32} (hs : sTp L a) (h : TA V a b p fl fk fp) : Sp D z0 1 0 0 mX8_refuse [.ref a, .int (nI k)] L V nx (zq (some (.int (nI 0))) L nx (fun V' => zEq V V' a (a + 1) ∧ TA V' a b p fl (nI k) (nI p))) := by
  have hs0 := hs
  have h0 := h
  obtain ⟨h1, h2⟩ := hs
  obtain ⟨⟨g1, g2, g3, g4, g5⟩, gp, gl, gb⟩ := h
  refine Sp.of 0 (by decide) rfl rfl (Nat.le_of_ble_eq_true rfl) ?_
  refine z_aload_n dX8_refuse_0 rfl ?_
  refine z_iload_n dX8_refuse_1 rfl ?_
  refine z_putI dX8_refuse_2 fX8_102 (by first | assumption | exact And.left (by assumption)) rfl ?_
  refine z_aload_n dX8_refuse_5 rfl ?_
  refine z_aload_n dX8_refuse_6 rfl ?_
  refine z_getIe dX8_refuse_7 fX8_99 (by first | assumption | exact And.left (by assumption)) rfl ((zup_k (by omega)).trans g3) ?_
  refine z_putI dX8_refuse_10 fX8_15 (by first | assumption | exact And.left (by assumption)) rfl ?_
  refine z_iconst (v := nI 0) dX8_refuse_13 rfl ?_
  refine z_zreturn dX8_refuse_14 (Nat.le_of_ble_eq_true rfl) (Nat.le_of_ble_eq_true rfl) rfl (by first | exact Or.inl rfl | exact Or.inr rfl | exact zb_01 _ | assumption) ?_
  exact ⟨rfl, rfl, rfl, (zEq.rf.up (by omega) (by omega)).up (by omega) (by omega), ⟨by simp [zup]; exact g1, by simp [zup]; exact g2, by simp [zup]; exact g3, by simp [zup], by simp [zup]⟩, gp, gl, fun k hk => by rw [zup_a (by omega), zup_a (by omega)]; exact gb k hk⟩

set_option maxHeartbeats 4000000 in
set_option maxRecDepth 100000 in
theorem s_atEnd {D : zD} {z0 nx : Nat} {L : zL} {V : zV} {a p : Nat} {b : List Nat} {fl fk fp : Int32} (hs : sTp L a) (h : TA V a b p fl fk fp) : Sp D z0 1 0 0 mX8_isAtEnd [.ref a] L V nx (zi (zb (b.length ≤ p)) L V nx) := by
  have hs0 := hs
  have h0 := h
  obtain ⟨h1, h2⟩ := hs
  obtain ⟨⟨g1, g2, g3, g4, g5⟩, gp, gl, gb⟩ := h
  refine Sp.of 0 (by decide) rfl rfl (Nat.le_of_ble_eq_true rfl) ?_
  refine z_aload_n dX8_isAtEnd_0 rfl ?_
  refine z_getIe dX8_isAtEnd_1 fX8_99 (by first | assumption | exact And.left (by assumption)) rfl (by first | assumption | exact zup_s _ _ _ _ | rfl) ?_
  refine z_aload_n dX8_isAtEnd_4 rfl ?_
  refine z_getIe dX8_isAtEnd_5 fX8_96 (by first | assumption | exact And.left (by assumption)) rfl (by first | assumption | exact zup_s _ _ _ _ | rfl) ?_
  refine z_icmp_ltN (tgt := 15) dX8_isAtEnd_8 (by decide) (by omega) (by omega) (fun c_8 => ?_) (fun c_8 => ?_)
  · refine z_iconst (v := nI 0) dX8_isAtEnd_15 rfl ?_
    refine z_zreturn dX8_isAtEnd_16 (Nat.le_of_ble_eq_true rfl) (Nat.le_of_ble_eq_true rfl) rfl (by first | exact Or.inl rfl | exact Or.inr rfl | exact zb_01 _ | assumption) ?_
    exact zi_r (by first | exact (zb_t (by omega)).symm | exact (zb_f (by omega)).symm)
  · refine z_iconst (v := nI 1) dX8_isAtEnd_11 rfl ?_
    refine z_goto (tgt := 16) dX8_isAtEnd_12 (by decide) ?_
    refine z_zreturn dX8_isAtEnd_16 (Nat.le_of_ble_eq_true rfl) (Nat.le_of_ble_eq_true rfl) rfl (by first | exact Or.inl rfl | exact Or.inr rfl | exact zb_01 _ | assumption) ?_
    exact zi_r (by first | exact (zb_t (by omega)).symm | exact (zb_f (by omega)).symm)

theorem bt_take {b : List Nat} {n k : Nat} (h : k < n) : bt (b.take n) k = bt b k := by
  unfold bt
  rw [List.getD_eq_getElem?_getD, List.getD_eq_getElem?_getD, List.getElem?_take_of_lt h]
theorem min_n {n k : Nat} (h : n ≤ k) (hk : k < 1000) : (if nI k < nI n then nI k else nI n) = nI n := if_neg (nI_nlt h (by omega))
theorem max_n {n : Nat} (h : n < 1000) : (if nI 0 < nI n then nI n else nI 0) = nI n := by
  by_cases e : n = 0
  · subst e; rfl
  · exact if_pos (nI_lt (by omega) (by omega))

set_option maxHeartbeats 4000000 in
set_option maxRecDepth 100000 in
theorem s_open {D : zD} {z0 nx : Nat} {L : zL} {V : zV} {a n : Nat} {b : List Nat} {fk fp : Int32} (hs : sTp L a) (h : TP V a b fk fp) (hn : n ≤ b.length) : Sp D z0 2 0 0 mX8_open [.ref a, .int (nI n)] L V nx (zq none L nx (fun V' => zEq V V' a (a + 1) ∧ TA V' a (b.take n) (sk (b.take n) 0) (nI 0) (nI 0) (-1))) := by
  have hs0 := hs
  obtain ⟨h1, h2⟩ := hs
  obtain ⟨⟨g1, g4, g5⟩, gl, gb⟩ := h
  have hlt : (b.take n).length = n := by simp; omega
  refine Sp.of 0 (by decide) rfl rfl (Nat.le_of_ble_eq_true rfl) ?_
  refine z_aload_n dX8_open_0 rfl ?_
  refine z_iconst (v := nI 0) dX8_open_1 rfl ?_
  refine z_iload_n dX8_open_2 rfl ?_
  refine z_aload_n dX8_open_3 rfl ?_
  refine z_getIe dX8_open_4 fX8_19 (by first | assumption | exact And.left (by assumption)) rfl (by first | assumption | exact zup_s _ _ _ _ | rfl) ?_
  refine z_min dX8_open_7 lX8_87 w_min_s w_math w_min_c (Nat.le_of_ble_eq_true rfl) (Nat.le_of_ble_eq_true rfl) ⟨Nat.le_of_ble_eq_true rfl, Nat.le_of_ble_eq_true rfl⟩ ?_
  rw [min_n hn (by omega)]
  refine z_max dX8_open_10 lX8_93 w_max_s w_math w_max_c (Nat.le_of_ble_eq_true rfl) (Nat.le_of_ble_eq_true rfl) ⟨Nat.le_of_ble_eq_true rfl, Nat.le_of_ble_eq_true rfl⟩ ?_
  rw [max_n (by omega)]
  refine z_putI dX8_open_13 fX8_96 (by first | assumption | exact And.left (by assumption)) rfl ?_
  refine z_aload_n dX8_open_16 rfl ?_
  refine z_iconst (v := nI 0) dX8_open_17 rfl ?_
  refine z_putI dX8_open_18 fX8_19 (by first | assumption | exact And.left (by assumption)) rfl ?_
  refine z_aload_n dX8_open_21 rfl ?_
  refine z_iconst (v := nI 0) dX8_open_22 rfl ?_
  refine z_putI dX8_open_23 fX8_99 (by first | assumption | exact And.left (by assumption)) rfl ?_
  refine z_aload_n dX8_open_26 rfl ?_
  refine z_iconst (v := nI 0) dX8_open_27 rfl ?_
  refine z_putI dX8_open_28 fX8_102 (by first | assumption | exact And.left (by assumption)) rfl ?_
  refine z_aload_n dX8_open_31 rfl ?_
  refine z_iconst (v := (-1)) dX8_open_32 rfl ?_
  refine z_putI dX8_open_33 fX8_15 (by first | assumption | exact And.left (by assumption)) rfl ?_
  refine z_aload_n dX8_open_36 rfl ?_
  refine z_callV0w dX8_open_37 kX8_skipBlanks lX8_105 (by first | assumption | exact And.left (by assumption)) rfl (s_sk (b := b.take n) (p := 0) (fl := nI 0) (fk := nI 0) (fp := -1) hs0 ⟨⟨by simp [zup], by simp [zup, hlt], by simp [zup], by simp [zup], by simp [zup]⟩, by omega, by omega, fun k hk => by rw [bt_take (by omega)]; simpa [zup] using gb k (by omega)⟩) (Nat.le_of_ble_eq_true rfl) (Nat.le_of_ble_eq_true rfl) ⟨Nat.le_of_ble_eq_true rfl, Nat.le_of_ble_eq_true rfl⟩ ?_
  intro V1 hV1
  refine z_return dX8_open_40 (Nat.le_of_ble_eq_true rfl) (Nat.le_of_ble_eq_true rfl) rfl ?_
  exact ⟨rfl, rfl, rfl, (((((zEq.rf.up (by omega) (by omega)).up (by omega) (by omega)).up (by omega) (by omega)).up (by omega) (by omega)).up (by omega) (by omega)).trans hV1.1, hV1.2⟩

