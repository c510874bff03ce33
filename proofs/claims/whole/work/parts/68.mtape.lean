/-! the reference reads its tape: bytes, blanks, faults -/
theorem sgn_and : ∀ x, x < 256 → sgn x &&& nI 255 = nI x := by decide +kernel
theorem zup_z {V : zV} {a k : Nat} {x y : Int32} : zup (zup V a k x) a k y = zup V a k y := by
  funext q j
  unfold zup
  by_cases e : q = a ∧ j = k
  · rw [if_pos e, if_pos e]
  · rw [if_neg e, if_neg e, if_neg e]
/-- the text that is read, and the place -/
def PT (V : zV) (m : Nat) (b : List Nat) (p : Nat) : Prop := V m 10 = nI b.length ∧ V m 11 = nI p ∧ b.length ≤ 100 ∧ p < 1000 ∧ ∀ j, j < b.length → V (m + 6) j = sgn (bt b j) ∧ bt b j < 256
theorem PT.up {V : zV} {m k p : Nat} {b : List Nat} {x : Int32} (h : PT V m b p) (h1 : k ≠ 10) (h2 : k ≠ 11) : PT (zup V m k x) m b p := by
  obtain ⟨g1, g2, g3, g4, g5⟩ := h
  exact ⟨by rw [zup_k h1.symm]; exact g1, by rw [zup_k h2.symm]; exact g2, g3, g4, fun j hj => by rw [zup_a (by omega)]; exact g5 j hj⟩
theorem PT.to {V : zV} {m p q : Nat} {b : List Nat} (h : PT V m b p) (hq : q < 1000) : PT (zup V m 11 (nI q)) m b q := by
  obtain ⟨g1, g2, g3, g4, g5⟩ := h
  exact ⟨by rw [zup_k (by decide)]; exact g1, zup_s _ _ _ _, g3, hq, fun j hj => by rw [zup_a (by omega)]; exact g5 j hj⟩

set_option maxHeartbeats 4000000 in
set_option maxRecDepth 100000 in
theorem s_peek {D : zD} {z0 nx : Nat} {L : zL} {V : zV} {m p : Nat} {b : List Nat} (hm : sM L m) (h : PT V m b p) : Sp D z0 1 0 0 mX12_peek [.ref m] L V nx (zi (byI b p) L V nx) := by
  have hm0 := hm
  obtain ⟨a0, a1, a2, a3, a4, a5, a6, a7, a8, a9, a10, a11, a12, a13, a14, a15⟩ := hm
  have h0 := h
  obtain ⟨g1, g2, g3, g4, g5⟩ := h
  refine Sp.of 0 (by decide) rfl rfl (Nat.le_of_ble_eq_true rfl) ?_
  refine z_aload_n dX12_peek_0 rfl ?_
  refine z_getIe dX12_peek_1 fX12_213 (by first | assumption | exact And.left (by assumption)) rfl g2 ?_
  refine z_aload_n dX12_peek_4 rfl ?_
  refine z_getIe dX12_peek_5 fX12_216 (by first | assumption | exact And.left (by assumption)) rfl g1 ?_
  refine z_icmp_geN (tgt := 27) dX12_peek_8 (by decide) (by omega) (by omega) (fun c_8 => ?_) (fun c_8 => ?_)
  · refine z_iconst (v := (-1)) dX12_peek_27 rfl ?_
    refine z_ireturn dX12_peek_28 (Nat.le_of_ble_eq_true rfl) (Nat.le_of_ble_eq_true rfl) rfl ?_
    first
      | exact zi_r (by rw [byI, if_pos (by omega)]; exact sgn_and _ h6)
      | exact zi_r (by rw [byI, if_neg (by omega)])
  · obtain ⟨h5, h6⟩ := g5 p (by omega)
    refine z_aload_n dX12_peek_11 rfl ?_
    refine z_getR dX12_peek_12 fX12_31 (by first | assumption | exact And.left (by assumption)) rfl ?_
    refine z_aload_n dX12_peek_15 rfl ?_
    refine z_getIe dX12_peek_16 fX12_213 (by first | assumption | exact And.left (by assumption)) rfl g2 ?_
    refine z_baldN dX12_peek_19 (by first | assumption | exact And.left (by assumption)) (by omega) (by decide) h5 ?_
    refine z_sipush (v := nI 255) dX12_peek_20 rfl ?_
    refine z_iand dX12_peek_23 ?_
    refine z_goto (tgt := 28) dX12_peek_24 (by decide) ?_
    refine z_ireturn dX12_peek_28 (Nat.le_of_ble_eq_true rfl) (Nat.le_of_ble_eq_true rfl) rfl ?_
    first
      | exact zi_r (by rw [byI, if_pos (by omega)]; exact sgn_and _ h6)
      | exact zi_r (by rw [byI, if_neg (by omega)])

