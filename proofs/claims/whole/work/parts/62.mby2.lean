/-! the reference: ahead, same -/
def srtd (l : List Nat) : Prop := ∀ a b, a < b → b < l.length → l.getD a 0 < l.getD b 0
theorem cn_ini {p : Nat → Prop} {i : Nat} : ∀ {n : Nat}, i ≤ n → (∀ k, k < n → (p k ↔ k < i)) → cn p n = i
  | 0, h, _ => by rw [cn]; omega
  | n + 1, h, hp => by
    by_cases c : i = n + 1
    · rw [cn_y ((hp n (by omega)).mpr (by omega)), cn_ini (i := n) (Nat.le_refl n) (fun k hk => ⟨fun _ => hk, fun _ => (hp k (by omega)).mpr (by omega)⟩)]
      omega
    · rw [cn_n (fun q => by have := (hp n (by omega)).mp q; omega), cn_ini (i := i) (n := n) (by omega) (fun k hk => hp k (by omega))]
theorem pl_all {c : Nat} : ∀ {l : List Nat} {k : Nat}, k < pl c l → l.getD k 0 < c
  | [], k, h => absurd h (by simp [pl])
  | x :: xs, k, h => by
    unfold pl at h
    split at h
    · rename_i hx
      cases k with
      | zero => exact hx
      | succ k => exact pl_all (l := xs) (k := k) (by omega)
    · omega
theorem pl_end {c : Nat} : ∀ {l : List Nat}, pl c l < l.length → ¬ l.getD (pl c l) 0 < c
  | [], h => absurd h (by simp [pl])
  | x :: xs, h => by
    unfold pl at *
    split
    · rename_i hx
      rw [if_pos hx] at h
      exact pl_end (l := xs) (by simpa using h)
    · rename_i hx
      exact hx
theorem cn_pl {c : Nat} {l : List Nat} (hs : srtd l) : cn (fun k => l.getD k 0 < c) l.length = pl c l := by
  refine cn_ini (pl_le c l) (fun k hk => ⟨fun q => ?_, fun q => pl_all q⟩)
  rcases Nat.lt_or_ge k (pl c l) with z | z
  · exact z
  · exfalso
    have h1 := pl_end (c := c) (l := l) (by omega)
    rcases Nat.lt_or_ge (pl c l) k with y | y
    · have := hs (pl c l) k y hk
      omega
    · rw [show k = pl c l by omega] at q
      exact h1 q
theorem cn_two {p q r : Nat → Prop} : ∀ {n : Nat}, (∀ k, k < n → (q k ↔ (p k ∨ r k)) ∧ ¬ (p k ∧ r k)) → cn q n = cn p n + cn r n
  | 0, _ => rfl
  | n + 1, h => by
    have ih := cn_two (p := p) (q := q) (r := r) (n := n) (fun k hk => h k (by omega))
    obtain ⟨h1, h2⟩ := h n (by omega)
    by_cases c1 : p n
    · rw [cn_y (h1.mpr (Or.inl c1)), cn_y c1, cn_n (fun z => h2 ⟨c1, z⟩), ih]
      omega
    · by_cases c2 : r n
      · rw [cn_y (h1.mpr (Or.inr c2)), cn_n c1, cn_y c2, ih]
        omega
      · rw [cn_n (fun z => (h1.mp z).elim c1 c2), cn_n c1, cn_n c2, ih]
theorem nby_0 {w : Wo} {i x y z : Int32} (hs : srtd (xof w (tn i)).2.2.1) : nby 0 w i x y z = pl (kyr w i x y z * 64) (xof w (tn i)).2.2.1 := by
  rw [← cn_pl hs]
  unfold nby
  refine cn_cg (fun k hk => ?_)
  unfold pby
  rw [if_pos rfl]
  omega
theorem nby_1 {w : Wo} {i x y z : Int32} (hs : srtd (xof w (tn i)).2.2.1) : nby 1 w i x y z = pl ((kyr w i x y z + 1) * 64) (xof w (tn i)).2.2.1 - pl (kyr w i x y z * 64) (xof w (tn i)).2.2.1 := by
  rw [← cn_pl hs, ← cn_pl hs]
  have e := cn_two (p := fun k => (xof w (tn i)).2.2.1.getD k 0 < kyr w i x y z * 64) (q := fun k => (xof w (tn i)).2.2.1.getD k 0 < (kyr w i x y z + 1) * 64) (r := fun k => pby 1 (kyr w i x y z) ((xof w (tn i)).2.2.1.getD k 0)) (n := (xof w (tn i)).2.2.1.length) (fun k hk => by
    unfold pby
    rw [if_neg (by decide)]
    omega)
  unfold nby
  omega

set_option maxHeartbeats 4000000 in
set_option maxRecDepth 100000 in
theorem m_ahead {D : zD} {z0 nx : Nat} {L : zL} {V : zV} {m : Nat} {w : Wo} (hm : sM L m) (h : MW V m w) {i x y z : Int32} (hso : ∀ i, i < 2 → srtd (xof w i).2.2.1) : Sp D z0 5 0 0 mX12_ahead [.ref m, .int i, .int x, .int y, .int z] L V nx (zq (some (.int (o_ahead i x y z w).1)) L nx (fun V' => zEq V V' m (m + 16) ∧ MW V' m (o_ahead i x y z w).2)) := by
  have hm0 := hm
  have h0 := h
  obtain ⟨a0, a1, a2, a3, a4, a5, a6, a7, a8, a9, a10, a11, a12, a13, a14, a15⟩ := hm
  refine Sp.of 0 (by decide) rfl rfl (Nat.le_of_ble_eq_true rfl) ?_
  refine z_aload_n dX12_ahead_0 rfl ?_
  refine z_iconst (v := nI 0) dX12_ahead_1 rfl ?_
  refine z_putI dX12_ahead_2 fX12_1 (by first | assumption | exact And.left (by assumption)) rfl ?_
  have h9 := MW_thr (x := nI 0) h0
  have e0 : zEq V (zup V m 0 (nI 0)) m (m + 16) := zEq.rf.up (by omega) (by omega)
  generalize zup V m 0 (nI 0) = V1 at h9 e0 ⊢
  clear h0 h
  have h0 := h9
  obtain ⟨k1, k2, k3, k4, k5, k6, k7⟩ := h9
  have hR : o_ahead i x y z w = (cif (rfk i x y z w = 0) (nI (nby 0 w i x y z)) (rfk i x y z w), w) := by
    unfold o_ahead
    by_cases c : rfk i x y z w = 0
    · rw [cif_y c, cif_y c]
      obtain ⟨⟨k, hk, hki⟩, -⟩ := rfk_0 c
      rw [nby_0 (by rw [hki, tn_k (k := k) (by omega)]; exact hso k hk)]
    · rw [cif_n c, cif_n c]
  rw [hR]
  refine z_aload_n dX12_ahead_5 rfl ?_
  refine z_iload_n dX12_ahead_6 rfl ?_
  refine z_iload_n dX12_ahead_7 rfl ?_
  refine z_iload_n dX12_ahead_8 rfl ?_
  refine z_iload dX12_ahead_9 rfl ?_
  refine z_iconst (v := nI 0) dX12_ahead_11 rfl ?_
  refine z_callV5q dX12_ahead_12 kX12_entriesBy lX12_383 (by first | assumption | exact And.left (by assumption)) rfl (s_by (op := 0) hm0 (by decide) k1) (Nat.le_of_ble_eq_true rfl) (Nat.le_of_ble_eq_true rfl) ⟨Nat.le_of_ble_eq_true rfl, Nat.le_of_ble_eq_true rfl⟩ ?_
  intro V2 hV2
  refine z_ireturn dX12_ahead_15 (Nat.le_of_ble_eq_true rfl) (Nat.le_of_ble_eq_true rfl) rfl ?_
  exact ⟨rfl, rfl, rfl, e0.trans hV2.a.zeq, MW_all h0 hV2.a (by rw [hV2 (m + 1) (by omega) (by omega)]; exact k1)⟩

set_option maxHeartbeats 4000000 in
set_option maxRecDepth 100000 in
theorem m_same {D : zD} {z0 nx : Nat} {L : zL} {V : zV} {m : Nat} {w : Wo} (hm : sM L m) (h : MW V m w) {i x y z : Int32} (hso : ∀ i, i < 2 → srtd (xof w i).2.2.1) : Sp D z0 5 0 0 mX12_same [.ref m, .int i, .int x, .int y, .int z] L V nx (zq (some (.int (o_same i x y z w).1)) L nx (fun V' => zEq V V' m (m + 16) ∧ MW V' m (o_same i x y z w).2)) := by
  have hm0 := hm
  have h0 := h
  obtain ⟨a0, a1, a2, a3, a4, a5, a6, a7, a8, a9, a10, a11, a12, a13, a14, a15⟩ := hm
  refine Sp.of 0 (by decide) rfl rfl (Nat.le_of_ble_eq_true rfl) ?_
  refine z_aload_n dX12_same_0 rfl ?_
  refine z_iconst (v := nI 0) dX12_same_1 rfl ?_
  refine z_putI dX12_same_2 fX12_1 (by first | assumption | exact And.left (by assumption)) rfl ?_
  have h9 := MW_thr (x := nI 0) h0
  have e0 : zEq V (zup V m 0 (nI 0)) m (m + 16) := zEq.rf.up (by omega) (by omega)
  generalize zup V m 0 (nI 0) = V1 at h9 e0 ⊢
  clear h0 h
  have h0 := h9
  obtain ⟨k1, k2, k3, k4, k5, k6, k7⟩ := h9
  have hR : o_same i x y z w = (cif (rfk i x y z w = 0) (nI (nby 1 w i x y z)) (rfk i x y z w), w) := by
    unfold o_same
    by_cases c : rfk i x y z w = 0
    · rw [cif_y c, cif_y c]
      obtain ⟨⟨k, hk, hki⟩, -⟩ := rfk_0 c
      rw [nby_1 (by rw [hki, tn_k (k := k) (by omega)]; exact hso k hk)]
    · rw [cif_n c, cif_n c]
  rw [hR]
  refine z_aload_n dX12_same_5 rfl ?_
  refine z_iload_n dX12_same_6 rfl ?_
  refine z_iload_n dX12_same_7 rfl ?_
  refine z_iload_n dX12_same_8 rfl ?_
  refine z_iload dX12_same_9 rfl ?_
  refine z_iconst (v := nI 1) dX12_same_11 rfl ?_
  refine z_callV5q dX12_same_12 kX12_entriesBy lX12_383 (by first | assumption | exact And.left (by assumption)) rfl (s_by (op := 1) hm0 (by decide) k1) (Nat.le_of_ble_eq_true rfl) (Nat.le_of_ble_eq_true rfl) ⟨Nat.le_of_ble_eq_true rfl, Nat.le_of_ble_eq_true rfl⟩ ?_
  intro V2 hV2
  refine z_ireturn dX12_same_15 (Nat.le_of_ble_eq_true rfl) (Nat.le_of_ble_eq_true rfl) rfl ?_
  exact ⟨rfl, rfl, rfl, e0.trans hV2.a.zeq, MW_all h0 hV2.a (by rw [hV2 (m + 1) (by omega) (by omega)]; exact k1)⟩

