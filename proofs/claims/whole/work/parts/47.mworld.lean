/-! the reference: the whole object; transactions -/
def wdt : List Nat := [105, 110, 100, 101, 120, 0, 100, 101, 115, 99, 0, 117, 110, 105, 113, 117, 101, 0, 119, 104, 101, 114, 101, 0, 97, 0, 98, 0, 99, 0, 102, 105, 110, 100, 0, 97, 110, 100, 0, 111, 114, 100, 101, 114, 0]
/-- a byte, read as a number with a sign -/
def sgn (b : Nat) : Int32 := if b < 128 then nI b else nI b - nI 256
def MD (V : zV) (m : Nat) (U : List St) : Prop := U.length ≤ 8 ∧ V m 3 = nI U.length ∧ ∀ k, k < U.length → MB (fun j => V (m + 2) (5343 * k + j)) (U.getD k st0)
def MI (V : zV) (m : Nat) (im : Nat → Option St) : Prop := ∀ i, i < 2 → V (m + 3) i = zb (im i ≠ none) ∧ ∀ s, im i = some s → MB (fun j => V (m + 1) (5343 * (i + 1) + j)) s
def MP (V : zV) (m : Nat) (b : List Nat) (k : Nat) (p : Int32) : Prop := V m 9 = nI b.length ∧ V m 12 = nI k ∧ V m 13 = p ∧ b.length ≤ 100 ∧ k < 5 ∧ ∀ j, j < b.length → V (m + 6) j = sgn (bt b j) ∧ bt b j < 256
def kc (o : List (Nat × Bool)) (k : Nat) : Nat := (o.getD k (0, false)).1 + (if (o.getD k (0, false)).2 then 10 else 0)
def MqS (V : zV) (m : Nat) (q : Qu) : Prop := V m 24 = nI q.1.length ∧ q.1.length ≤ 4 ∧ (∀ k, k < q.1.length → V (m + 9) (3 * k) = nI (ck q.1 k).1 ∧ V (m + 9) (3 * k + 1) = nI (ck q.1 k).2.1 ∧ V (m + 9) (3 * k + 2) = nI (ck q.1 k).2.2 ∧ (ck q.1 k).1 < 3 ∧ (ck q.1 k).2.1 < 4 ∧ (ck q.1 k).2.2 < 100) ∧ V m 25 = nI q.2.length ∧ q.2.length ≤ 3 ∧ ∀ k, k < q.2.length → V (m + 10) k = nI (kc q.2 k) ∧ (q.2.getD k (0, false)).1 < 3
def MqO (V : zV) (m : Nat) (q : Option Qu) : Prop := match q with
  | none => V m 24 = -1
  | some q => MqS V m q
def MWd (V : zV) (m : Nat) : Prop := ∀ k, k < 45 → V (m + 8) k = nI (wdt.getD k 0)
def MW (V : zV) (m : Nat) (w : Wo) : Prop := MB (V (m + 1)) w.1 ∧ MD V m w.2.1 ∧ MI V m w.2.2.1 ∧ MP V m w.2.2.2.1.1 w.2.2.2.1.2.1 w.2.2.2.1.2.2 ∧ (V m 6 = nI w.2.2.2.2.1 ∧ w.2.2.2.2.1 < 5) ∧ MqO V m w.2.2.2.2.2 ∧ MWd V m
/-- only the store at hand, and keys, rows found and other rows at hand, have changed -/
def oA (V V' : zV) (m : Nat) : Prop := (∀ q, q ≠ m + 1 → q ≠ m + 4 → q ≠ m + 5 → q ≠ m + 12 → q ≠ m + 13 → q ≠ m + 14 → q ≠ m + 15 → V' q = V q) ∧ ∀ j, 5343 ≤ j → V' (m + 1) j = V (m + 1) j
theorem cp_a {V : zV} {a b f t n q : Nat} (h : q ≠ b) : cpz V a b f t n q = V q := by
  unfold cpz
  rw [zset_a h]
theorem oA.rf {V : zV} {m : Nat} : oA V V m := ⟨fun _ _ _ _ _ _ _ _ => rfl, fun _ _ => rfl⟩
theorem oA.trans {V V' V'' : zV} {m : Nat} (h : oA V V' m) (h' : oA V' V'' m) : oA V V'' m := ⟨fun q h1 h2 h3 h4 h5 h6 h7 => (h'.1 q h1 h2 h3 h4 h5 h6 h7).trans (h.1 q h1 h2 h3 h4 h5 h6 h7), fun j hj => (h'.2 j hj).trans (h.2 j hj)⟩
theorem oX.a {V V' : zV} {m i : Nat} (h : oX V V' m i) (hi : i < 2) : oA V V' m := ⟨fun q h1 h2 _ _ _ _ _ => h.1 q h1 h2, fun j hj => h.2 j (by omega)⟩
theorem oA.up {V V' : zV} {m j : Nat} {x : Int32} (h : oA V V' m) (hj : j < 5343) : oA V (zup V' (m + 1) j x) m := ⟨fun q h1 h2 h3 h4 h5 h6 h7 => by rw [zup_a h1]; exact h.1 q h1 h2 h3 h4 h5 h6 h7, fun k hk => by rw [zup_k (by omega)]; exact h.2 k hk⟩
theorem oA.cp {V V' : zV} {m a f t n : Nat} (h : oA V V' m) (hj : t + n ≤ 5343) : oA V (cpz V' a (m + 1) f t n) m := ⟨fun q h1 h2 h3 h4 h5 h6 h7 => by unfold cpz; rw [zset_a h1]; exact h.1 q h1 h2 h3 h4 h5 h6 h7, fun k hk => by unfold cpz; rw [zset_s, if_neg (by omega)]; exact h.2 k hk⟩
theorem oA.ky {V V' : zV} {m : Nat} (h : zEq V V' (m + 4) (m + 5)) : oA V V' m := ⟨fun q _ h2 _ _ _ _ _ => h q (by omega), fun j _ => by rw [h (m + 1) (by omega)]⟩
theorem oA.zeq {V V' : zV} {m : Nat} (h : oA V V' m) : zEq V V' m (m + 16) := fun q hq => h.1 q (by omega) (by omega) (by omega) (by omega) (by omega) (by omega) (by omega)
theorem MqO.cg {V V' : zV} {m : Nat} {q : Option Qu} (h : MqO V m q) (e1 : ∀ j, j ≠ 0 → V' m j = V m j) (e2 : V' (m + 9) = V (m + 9)) (e3 : V' (m + 10) = V (m + 10)) : MqO V' m q := by
  cases q with
  | none => show V' m 24 = -1; rw [e1 24 (by decide)]; exact h
  | some q =>
    obtain ⟨h1, h2, h3, h4, h5, h6⟩ := h
    exact ⟨by rw [e1 24 (by decide)]; exact h1, h2, fun k hk => by rw [e2]; exact h3 k hk, by rw [e1 25 (by decide)]; exact h4, h5, fun k hk => by rw [e3]; exact h6 k hk⟩
theorem MW_all {V V' : zV} {m : Nat} {w : Wo} {s : St} (h : MW V m w) (ho : oA V V' m) (hs : MB (V' (m + 1)) s) : MW V' m (s, w.2) := by
  obtain ⟨h1, h2, h3, h4, h5, h6, h7⟩ := h
  have E := fun (q : Nat) (c : q = m ∨ q = m + 2 ∨ q = m + 3 ∨ q = m + 6 ∨ q = m + 7 ∨ q = m + 8 ∨ q = m + 9 ∨ q = m + 10 ∨ q = m + 11) => ho.1 q (by omega) (by omega) (by omega) (by omega) (by omega) (by omega) (by omega)
  refine ⟨hs, ⟨h2.1, by rw [E m (by omega)]; exact h2.2.1, fun k hk => by rw [E (m + 2) (by omega)]; exact h2.2.2 k hk⟩, fun i hi => ⟨by rw [E (m + 3) (by omega)]; exact (h3 i hi).1, fun s hs => ((h3 i hi).2 s hs).cg (fun j _ _ => ho.2 _ (by omega))⟩, ?_, ⟨by rw [E m (by omega)]; exact h5.1, h5.2⟩, h6.cg (fun j _ => by rw [E m (by omega)]) (E _ (by omega)) (E _ (by omega)), fun k hk => by rw [E (m + 8) (by omega)]; exact h7 k hk⟩
  obtain ⟨g1, g2, g3, g4, g5, g6⟩ := h4
  exact ⟨by rw [E m (by omega)]; exact g1, by rw [E m (by omega)]; exact g2, by rw [E m (by omega)]; exact g3, g4, g5, fun j hj => by rw [E (m + 6) (by omega)]; exact g6 j hj⟩
theorem MW_thr {V : zV} {m : Nat} {w : Wo} {x : Int32} (h : MW V m w) : MW (zup V m 0 x) m w := by
  obtain ⟨h1, h2, h3, h4, h5, h6, h7⟩ := h
  have E := fun (q : Nat) (c : q ≠ m) => zup_a (V := V) (a := m) (k := 0) (x := x) (q := q) c
  have F := fun (k : Nat) (c : k ≠ 0) => zup_k (V := V) (a := m) (k := 0) (x := x) (j := k) c
  refine ⟨by rw [E (m + 1) (by omega)]; exact h1, ⟨h2.1, by rw [F 3 (by decide)]; exact h2.2.1, fun k hk => by rw [E (m + 2) (by omega)]; exact h2.2.2 k hk⟩, fun i hi => ⟨by rw [E (m + 3) (by omega)]; exact (h3 i hi).1, fun s hs => by rw [E (m + 1) (by omega)]; exact (h3 i hi).2 s hs⟩, ?_, ⟨by rw [F 6 (by decide)]; exact h5.1, h5.2⟩, h6.cg (fun j hj => F j hj) (E _ (by omega)) (E _ (by omega)), fun k hk => by rw [E (m + 8) (by omega)]; exact h7 k hk⟩
  obtain ⟨g1, g2, g3, g4, g5, g6⟩ := h4
  exact ⟨by rw [F 9 (by decide)]; exact g1, by rw [F 12 (by decide)]; exact g2, by rw [F 13 (by decide)]; exact g3, g4, g5, fun j hj => by rw [E (m + 6) (by omega)]; exact g6 j hj⟩
theorem MW_why {V : zV} {m k : Nat} {w : Wo} (h : MW V m w) (hk : k < 5) : MW (zup V m 6 (nI k)) m (setY w k) := by
  obtain ⟨h1, h2, h3, h4, h5, h6, h7⟩ := h
  have E := fun (q : Nat) (c : q ≠ m) => zup_a (V := V) (a := m) (k := 6) (x := nI k) (q := q) c
  have F := fun (j : Nat) (c : j ≠ 6) => zup_k (V := V) (a := m) (k := 6) (x := nI k) (j := j) c
  refine ⟨by rw [E (m + 1) (by omega)]; exact h1, ⟨h2.1, by rw [F 3 (by decide)]; exact h2.2.1, fun k hk => by rw [E (m + 2) (by omega)]; exact h2.2.2 k hk⟩, fun i hi => ⟨by rw [E (m + 3) (by omega)]; exact (h3 i hi).1, fun s hs => by rw [E (m + 1) (by omega)]; exact (h3 i hi).2 s hs⟩, ?_, ⟨zup_s _ _ _ _, hk⟩, ?_, fun k hk => by rw [E (m + 8) (by omega)]; exact h7 k hk⟩
  · obtain ⟨g1, g2, g3, g4, g5, g6⟩ := h4
    exact ⟨by rw [F 9 (by decide)]; exact g1, by rw [F 12 (by decide)]; exact g2, by rw [F 13 (by decide)]; exact g3, g4, g5, fun j hj => by rw [E (m + 6) (by omega)]; exact g6 j hj⟩
  · show MqO _ m w.2.2.2.2.2
    cases hq : w.2.2.2.2.2 with
    | none =>
      rw [hq] at h6
      show zup V m 6 (nI k) m 24 = -1
      rw [F 24 (by decide)]
      exact h6
    | some q =>
      rw [hq] at h6
      obtain ⟨q1, q2, q3, q4, q5, q6⟩ := h6
      exact ⟨by rw [F 24 (by decide)]; exact q1, q2, fun k hk => by rw [E (m + 9) (by omega)]; exact q3 k hk, by rw [F 25 (by decide)]; exact q4, q5, fun k hk => by rw [E (m + 10) (by omega)]; exact q6 k hk⟩
/-- the deeds, and how many, have changed -/
theorem MW_deeds {V V' : zV} {m : Nat} {w : Wo} {U : List St} (h : MW V m w) (e1 : ∀ q, q ≠ m → q ≠ m + 2 → V' q = V q) (e2 : ∀ j, j ≠ 3 → V' m j = V m j) (hd : MD V' m U) : MW V' m (w.1, U, w.2.2) := by
  obtain ⟨h1, h2, h3, h4, h5, h6, h7⟩ := h
  refine ⟨by rw [e1 (m + 1) (by omega) (by omega)]; exact h1, hd, fun i hi => ⟨by rw [e1 (m + 3) (by omega) (by omega)]; exact (h3 i hi).1, fun s hs => by rw [e1 (m + 1) (by omega) (by omega)]; exact (h3 i hi).2 s hs⟩, ?_, ⟨by rw [e2 6 (by decide)]; exact h5.1, h5.2⟩, ?_, fun k hk => by rw [e1 (m + 8) (by omega) (by omega)]; exact h7 k hk⟩
  · obtain ⟨g1, g2, g3, g4, g5, g6⟩ := h4
    exact ⟨by rw [e2 9 (by decide)]; exact g1, by rw [e2 12 (by decide)]; exact g2, by rw [e2 13 (by decide)]; exact g3, g4, g5, fun j hj => by rw [e1 (m + 6) (by omega) (by omega)]; exact g6 j hj⟩
  · show MqO _ m w.2.2.2.2.2
    cases hq : w.2.2.2.2.2 with
    | none =>
      rw [hq] at h6
      show V' m 24 = -1
      rw [e2 24 (by decide)]
      exact h6
    | some q =>
      rw [hq] at h6
      obtain ⟨q1, q2, q3, q4, q5, q6⟩ := h6
      exact ⟨by rw [e2 24 (by decide)]; exact q1, q2, fun k hk => by rw [e1 (m + 9) (by omega) (by omega)]; exact q3 k hk, by rw [e2 25 (by decide)]; exact q4, q5, fun k hk => by rw [e1 (m + 10) (by omega) (by omega)]; exact q6 k hk⟩

theorem note_ok {V V1 : zV} {m n : Nat} {w : Wo} {U : List St} (h : MW V m w) (hU : U.length ≤ 7) (hn : n = U.length) (e1 : ∀ q, q ≠ m → q ≠ m + 2 → V1 q = V q) (e2 : ∀ j, j ≠ 3 → V1 m j = V m j) (hd : ∀ k, k < U.length → MB (fun j => V1 (m + 2) (5343 * k + j)) (U.getD k st0)) (hr : rem w.2.1 w.1 = U ++ [w.1]) : zEq V (zup (cpz V1 (m + 1) (m + 2) 0 (5343 * n) 5343) m 3 (nI (n + 1))) m (m + 16) ∧ (∀ q, q ≠ m → q ≠ m + 2 → zup (cpz V1 (m + 1) (m + 2) 0 (5343 * n) 5343) m 3 (nI (n + 1)) q = V q) ∧ (∀ j, j ≠ 3 → zup (cpz V1 (m + 1) (m + 2) 0 (5343 * n) 5343) m 3 (nI (n + 1)) m j = V m j) ∧ MW (zup (cpz V1 (m + 1) (m + 2) 0 (5343 * n) 5343) m 3 (nI (n + 1))) m (wrem w) := by
  subst hn
  have g1 : ∀ q, q ≠ m → q ≠ m + 2 → zup (cpz V1 (m + 1) (m + 2) 0 (5343 * U.length) 5343) m 3 (nI (U.length + 1)) q = V q := fun q q1 q2 => by
    rw [zup_a q1]
    unfold cpz
    rw [zset_a q2]
    exact e1 q q1 q2
  have g2 : ∀ j, j ≠ 3 → zup (cpz V1 (m + 1) (m + 2) 0 (5343 * U.length) 5343) m 3 (nI (U.length + 1)) m j = V m j := fun j hj => by
    rw [zup_k hj]
    unfold cpz
    rw [zset_a (by omega)]
    exact e2 j hj
  refine ⟨fun q hq => g1 q (by omega) (by omega), g1, g2, ?_⟩
  unfold wrem
  rw [hr]
  refine MW_deeds h g1 g2 ⟨by simp; omega, by rw [zup_s]; simp, fun k hk => ?_⟩
  have hk2 : k < U.length + 1 := by simpa using hk
  rw [getD_snocS _ _ _ hk2]
  by_cases c : k < U.length
  · rw [if_pos c]
    refine (hd k c).cg (fun j _ j2 => ?_)
    show zup _ _ _ _ (m + 2) (5343 * k + j) = V1 (m + 2) (5343 * k + j)
    rw [zup_a (by omega)]
    unfold cpz
    rw [zset_s, if_neg (by omega)]
  · rw [if_neg c]
    refine h.1.cg (fun j _ j2 => ?_)
    show zup _ _ _ _ (m + 2) (5343 * k + j) = V (m + 1) j
    rw [zup_a (by omega)]
    unfold cpz
    rw [zset_s, if_pos (by omega), show 0 + (5343 * k + j - 5343 * U.length) = j by omega, e1 (m + 1) (by omega) (by omega)]

set_option maxHeartbeats 4000000 in
set_option maxRecDepth 100000 in
theorem s_notes {D : zD} {z0 nx : Nat} {L : zL} {V : zV} {m : Nat} {w : Wo} (hm : sM L m) (h : MW V m w) : Sp D z0 2 0 0 mX12_notes [.ref m] L V nx (zq none L nx (fun V' => zEq V V' m (m + 16) ∧ (∀ q, q ≠ m → q ≠ m + 2 → V' q = V q) ∧ (∀ j, j ≠ 3 → V' m j = V m j) ∧ MW V' m (wrem w))) := by
  have hm0 := hm
  have h0 := h
  obtain ⟨a0, a1, a2, a3, a4, a5, a6, a7, a8, a9, a10, a11, a12, a13, a14, a15⟩ := hm
  obtain ⟨k1, k2, k3, k4, k5, k6, k7⟩ := h
  obtain ⟨u1, u2, u3⟩ := k2
  refine Sp.of 0 (by decide) rfl rfl (Nat.le_of_ble_eq_true rfl) ?_
  refine z_aload_n dX12_notes_0 rfl ?_
  refine z_getIe dX12_notes_1 fX12_72 (by first | assumption | exact And.left (by assumption)) rfl u2 ?_
  refine z_bipush (v := nI 8) dX12_notes_4 rfl ?_
  refine z_icmp_neN (tgt := 36) dX12_notes_6 (by decide) (by omega) (by omega) (fun c_6 => ?_) (fun c_6 => ?_)
  · refine z_aload_n dX12_notes_36 rfl ?_
    refine z_getR dX12_notes_37 fX12_13 (by first | assumption | exact And.left (by assumption)) rfl ?_
    refine z_iconst (v := nI 0) dX12_notes_40 rfl ?_
    refine z_aload_n dX12_notes_41 rfl ?_
    refine z_getR dX12_notes_42 fX12_18 (by first | assumption | exact And.left (by assumption)) rfl ?_
    refine z_sipush (v := nI 5343) dX12_notes_45 rfl ?_
    refine z_aload_n dX12_notes_48 rfl ?_
    refine z_getIe dX12_notes_49 fX12_72 (by first | assumption | exact And.left (by assumption)) rfl (by first | exact u2 | exact zup_s _ _ _ _) ?_
    refine z_mulN dX12_notes_52 ?_
    refine z_sipush (v := nI 5343) dX12_notes_53 rfl ?_
    refine z_callS5w dX12_notes_56 kX12_copies lX12_76 (s_cp a1 a2 (by omega) (by omega) (by omega) (Or.inl (by omega))) (Nat.le_of_ble_eq_true rfl) (Nat.le_of_ble_eq_true rfl) ⟨Nat.le_of_ble_eq_true rfl, Nat.le_of_ble_eq_true rfl⟩ ?_
    intro V2 hV2
    subst hV2
    refine z_aload_n dX12_notes_59 rfl ?_
    refine z_dup dX12_notes_60 rfl ?_
    refine z_getIe dX12_notes_61 fX12_72 (by first | assumption | exact And.left (by assumption)) rfl (by first | exact (congrFun (cp_a (by omega)) 3).trans u2 | exact (congrFun (cp_a (by omega)) 3).trans (zup_s _ _ _ _)) ?_
    refine z_iconst (v := nI 1) dX12_notes_64 rfl ?_
    refine z_addN dX12_notes_65 ?_
    refine z_putI dX12_notes_66 fX12_72 (by first | assumption | exact And.left (by assumption)) rfl ?_
    refine z_return dX12_notes_69 (Nat.le_of_ble_eq_true rfl) (Nat.le_of_ble_eq_true rfl) rfl ?_
    first
      | (have hr : rem w.2.1 w.1 = w.2.1 ++ [w.1] := if_pos (by omega)
         have z := note_ok h0 (V1 := V) (U := w.2.1) (by omega) rfl (fun q _ _ => rfl) (fun j _ => rfl) u3 hr
         exact ⟨rfl, rfl, rfl, z.1, z.2.1, z.2.2.1, z.2.2.2⟩)
      | (have hr : rem w.2.1 w.1 = w.2.1.tail ++ [w.1] := if_neg (by omega)
         have ht : w.2.1.tail.length = 7 := by simp; omega
         have z := note_ok h0 (V1 := zup (cpz V (m + 2) (m + 2) 5343 0 37401) m 3 (nI (w.2.1.length - 1))) (n := w.2.1.length - 1) (U := w.2.1.tail) (by omega) (by omega) (fun q q1 q2 => by
           rw [zup_a q1]
           unfold cpz
           rw [zset_a q2]) (fun j hj => by
           rw [zup_k hj]
           unfold cpz
           rw [zset_a (by omega)]) (fun k hk => by
           rw [getD_tailS]
           refine (u3 (k + 1) (by omega)).cg (fun j _ j2 => ?_)
           show zup _ _ _ _ (m + 2) (5343 * k + j) = V (m + 2) (5343 * (k + 1) + j)
           rw [zup_a (by omega)]
           unfold cpz
           rw [zset_s, if_pos (by omega)]
           congr 1
           omega) hr
         exact ⟨rfl, rfl, rfl, z.1, z.2.1, z.2.2.1, z.2.2.2⟩)
  · refine z_aload_n dX12_notes_9 rfl ?_
    refine z_getR dX12_notes_10 fX12_18 (by first | assumption | exact And.left (by assumption)) rfl ?_
    refine z_sipush (v := nI 5343) dX12_notes_13 rfl ?_
    refine z_aload_n dX12_notes_16 rfl ?_
    refine z_getR dX12_notes_17 fX12_18 (by first | assumption | exact And.left (by assumption)) rfl ?_
    refine z_iconst (v := nI 0) dX12_notes_20 rfl ?_
    refine z_ldc (v := nI 37401) dX12_notes_21 qX12_75 ?_
    refine z_callS5w dX12_notes_23 kX12_copies lX12_76 (s_cp a2 a2 (by omega) (by omega) (by omega) (Or.inr (Or.inl (by omega)))) (Nat.le_of_ble_eq_true rfl) (Nat.le_of_ble_eq_true rfl) ⟨Nat.le_of_ble_eq_true rfl, Nat.le_of_ble_eq_true rfl⟩ ?_
    intro V1 hV1
    subst hV1
    refine z_aload_n dX12_notes_26 rfl ?_
    refine z_dup dX12_notes_27 rfl ?_
    refine z_getIe dX12_notes_28 fX12_72 (by first | assumption | exact And.left (by assumption)) rfl ((congrFun (cp_a (by omega)) 3).trans u2) ?_
    refine z_iconst (v := nI 1) dX12_notes_31 rfl ?_
    refine z_subN dX12_notes_32 (by omega) ?_
    refine z_putI dX12_notes_33 fX12_72 (by first | assumption | exact And.left (by assumption)) rfl ?_
    refine z_aload_n dX12_notes_36 rfl ?_
    refine z_getR dX12_notes_37 fX12_13 (by first | assumption | exact And.left (by assumption)) rfl ?_
    refine z_iconst (v := nI 0) dX12_notes_40 rfl ?_
    refine z_aload_n dX12_notes_41 rfl ?_
    refine z_getR dX12_notes_42 fX12_18 (by first | assumption | exact And.left (by assumption)) rfl ?_
    refine z_sipush (v := nI 5343) dX12_notes_45 rfl ?_
    refine z_aload_n dX12_notes_48 rfl ?_
    refine z_getIe dX12_notes_49 fX12_72 (by first | assumption | exact And.left (by assumption)) rfl (by first | exact u2 | exact zup_s _ _ _ _) ?_
    refine z_mulN dX12_notes_52 ?_
    refine z_sipush (v := nI 5343) dX12_notes_53 rfl ?_
    refine z_callS5w dX12_notes_56 kX12_copies lX12_76 (s_cp a1 a2 (by omega) (by omega) (by omega) (Or.inl (by omega))) (Nat.le_of_ble_eq_true rfl) (Nat.le_of_ble_eq_true rfl) ⟨Nat.le_of_ble_eq_true rfl, Nat.le_of_ble_eq_true rfl⟩ ?_
    intro V2 hV2
    subst hV2
    refine z_aload_n dX12_notes_59 rfl ?_
    refine z_dup dX12_notes_60 rfl ?_
    refine z_getIe dX12_notes_61 fX12_72 (by first | assumption | exact And.left (by assumption)) rfl (by first | exact (congrFun (cp_a (by omega)) 3).trans u2 | exact (congrFun (cp_a (by omega)) 3).trans (zup_s _ _ _ _)) ?_
    refine z_iconst (v := nI 1) dX12_notes_64 rfl ?_
    refine z_addN dX12_notes_65 ?_
    refine z_putI dX12_notes_66 fX12_72 (by first | assumption | exact And.left (by assumption)) rfl ?_
    refine z_return dX12_notes_69 (Nat.le_of_ble_eq_true rfl) (Nat.le_of_ble_eq_true rfl) rfl ?_
    first
      | (have hr : rem w.2.1 w.1 = w.2.1 ++ [w.1] := if_pos (by omega)
         have z := note_ok h0 (V1 := V) (U := w.2.1) (by omega) rfl (fun q _ _ => rfl) (fun j _ => rfl) u3 hr
         exact ⟨rfl, rfl, rfl, z.1, z.2.1, z.2.2.1, z.2.2.2⟩)
      | (have hr : rem w.2.1 w.1 = w.2.1.tail ++ [w.1] := if_neg (by omega)
         have ht : w.2.1.tail.length = 7 := by simp; omega
         have z := note_ok h0 (V1 := zup (cpz V (m + 2) (m + 2) 5343 0 37401) m 3 (nI (w.2.1.length - 1))) (n := w.2.1.length - 1) (U := w.2.1.tail) (by omega) (by omega) (fun q q1 q2 => by
           rw [zup_a q1]
           unfold cpz
           rw [zset_a q2]) (fun j hj => by
           rw [zup_k hj]
           unfold cpz
           rw [zset_a (by omega)]) (fun k hk => by
           rw [getD_tailS]
           refine (u3 (k + 1) (by omega)).cg (fun j _ j2 => ?_)
           show zup _ _ _ _ (m + 2) (5343 * k + j) = V (m + 2) (5343 * (k + 1) + j)
           rw [zup_a (by omega)]
           unfold cpz
           rw [zset_s, if_pos (by omega)]
           congr 1
           omega) hr
         exact ⟨rfl, rfl, rfl, z.1, z.2.1, z.2.2.1, z.2.2.2⟩)

