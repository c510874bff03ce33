/-! the reference reads its tape: bytes, blanks, faults -/
theorem sgn_and : ∀ x, x < 256 → sgn x &&& nI 255 = nI x := by decide +kernel
theorem zup_z {V : zV} {a k : Nat} {x y : Int32} : zup (zup V a k x) a k y = zup V a k y := by
  funext q j
  unfold zup
  by_cases e : q = a ∧ j = k
  · rw [if_pos e, if_pos e]
  · rw [if_neg e, if_neg e, if_neg e]
/-- the text that is read, and the place -/
def PT (V : zV) (m : Nat) (b : List Nat) (p : Nat) : Prop := V m 10 = nI b.length ∧ V m 11 = nI p ∧ b.length ≤ 100 ∧ p < 1000 ∧ ∀ j, j < b.length → V (m + 6) j = sgn (bt b j) ∧ bt b j < 256
theorem PT.up {V : zV} {m k p : Nat} {b : List Nat} {x : Int32} (h : PT V m b p) (h1 : k ≠ 10) (h2 : k ≠ 11) : PT (zup V m k x) m b p := by
  obtain ⟨g1, g2, g3, g4, g5⟩ := h
  exact ⟨by rw [zup_k h1.symm]; exact g1, by rw [zup_k h2.symm]; exact g2, g3, g4, fun j hj => by rw [zup_a (by omega)]; exact g5 j hj⟩
theorem PT.to {V : zV} {m p q : Nat} {b : List Nat} (h : PT V m b p) (hq : q < 1000) : PT (zup V m 11 (nI q)) m b q := by
  obtain ⟨g1, g2, g3, g4, g5⟩ := h
  exact ⟨by rw [zup_k (by decide)]; exact g1, zup_s _ _ _ _, g3, hq, fun j hj => by rw [zup_a (by omega)]; exact g5 j hj⟩

set_option maxHeartbeats 4000000 in
set_option maxRecDepth 100000 in
theorem s_peek {D : zD} {z0 nx : Nat} {L : zL} {V : zV} {m p : Nat} {b : List Nat} (hm : sM L m) (h : PT V m b p) : Sp D z0 1 0 0 mX12_peek [.ref m] L V nx (zi (byI b p) L V nx) := by
  have hm0 := hm
  obtain ⟨a0, a1, a2, a3, a4, a5, a6, a7, a8, a9, a10, a11, a12, a13, a14, a15⟩ := hm
  have h0 := h
  obtain ⟨g1, g2, g3, g4, g5⟩ := h
  refine Sp.of 0 (by decide) rfl rfl (Nat.le_of_ble_eq_true rfl) ?_
  refine z_aload_n dX12_peek_0 rfl ?_
  refine z_getIe dX12_peek_1 fX12_213 (by first | assumption | exact And.left (by assumption)) rfl g2 ?_
  refine z_aload_n dX12_peek_4 rfl ?_
  refine z_getIe dX12_peek_5 fX12_216 (by first | assumption | exact And.left (by assumption)) rfl g1 ?_
  refine z_icmp_geN (tgt := 27) dX12_peek_8 (by decide) (by omega) (by omega) (fun c_8 => ?_) (fun c_8 => ?_)
  · refine z_iconst (v := (-1)) dX12_peek_27 rfl ?_
    refine z_ireturn dX12_peek_28 (Nat.le_of_ble_eq_true rfl) (Nat.le_of_ble_eq_true rfl) rfl ?_
    first
      | exact zi_r (by rw [byI, if_pos (by omega)]; exact sgn_and _ h6)
      | exact zi_r (by rw [byI, if_neg (by omega)])
  · obtain ⟨h5, h6⟩ := g5 p (by omega)
    refine z_aload_n dX12_peek_11 rfl ?_
    refine z_getR dX12_peek_12 fX12_31 (by first | assumption | exact And.left (by assumption)) rfl ?_
    refine z_aload_n dX12_peek_15 rfl ?_
    refine z_getIe dX12_peek_16 fX12_213 (by first | assumption | exact And.left (by assumption)) rfl g2 ?_
    refine z_baldN dX12_peek_19 (by first | assumption | exact And.left (by assumption)) (by omega) (by decide) h5 ?_
    refine z_sipush (v := nI 255) dX12_peek_20 rfl ?_
    refine z_iand dX12_peek_23 ?_
    refine z_goto (tgt := 28) dX12_peek_24 (by decide) ?_
    refine z_ireturn dX12_peek_28 (Nat.le_of_ble_eq_true rfl) (Nat.le_of_ble_eq_true rfl) rfl ?_
    first
      | exact zi_r (by rw [byI, if_pos (by omega)]; exact sgn_and _ h6)
      | exact zi_r (by rw [byI, if_neg (by omega)])

theorem byI_b {b : List Nat} {p : Nat} (h : byI b p = nI 32) (hb : ∀ j, j < b.length → bt b j < 256) : p < b.length ∧ isB (bt b p) := by
  unfold byI at h
  split at h
  · rename_i q
    exact ⟨q, nI_inj (by have := hb p q; omega) (by omega) h⟩
  · exact absurd h (by decide)

set_option maxHeartbeats 4000000 in
set_option maxRecDepth 100000 in
theorem lp_blk {D : zD} {z0 nx : Nat} {L : zL} {V : zV} {m p : Nat} {b : List Nat} (hm : sM L m) (h : PT V m b p) : ∀ (fu : Nat) (j : Nat) (V1 : zV), b.length + 1 - (p + j) = fu → p + j ≤ b.length ∨ j = 0 → (∀ i, i < j → p + i < b.length ∧ isB (bt b (p + i))) → V1 = zup V m 11 (nI (p + j)) → Z D z0 2 0 0 mX12_blanks 0 0 0 [some (.ref m)] [] L V1 nx (zq none L nx (fun V' => V' = zup V m 11 (nI (sk b p)))) := by
  intro fu
  induction fu using Nat.strongRecOn with
  | ind fu ih =>
    intro j V1 h_fu h_0 h_1 h_2
    have hm0 := hm
    obtain ⟨a0, a1, a2, a3, a4, a5, a6, a7, a8, a9, a10, a11, a12, a13, a14, a15⟩ := hm
    have h0 := h
    obtain ⟨g1, g2, g3, g4, g5⟩ := h
    subst h_2
    have hjl : j ≤ 100 := by
      rcases (show j = 0 ∨ 0 < j by omega) with q | q
      · omega
      · have := (h_1 (j - 1) (by omega)).1
        omega
    have hT := h0.to (q := p + j) (by omega)
    have hbb : ∀ j, j < b.length → bt b j < 256 := fun j hj => (g5 j hj).2
    refine z_aload_n dX12_blanks_0 rfl ?_
    refine z_callV0i dX12_blanks_1 kX12_peek lX12_219 (by first | assumption | exact And.left (by assumption)) rfl (s_peek hm0 hT) (Nat.le_of_ble_eq_true rfl) (Nat.le_of_ble_eq_true rfl) ⟨Nat.le_of_ble_eq_true rfl, Nat.le_of_ble_eq_true rfl⟩ ?_
    refine z_bipush (v := nI 32) dX12_blanks_4 rfl ?_
    refine z_icmp_ne (tgt := 22) dX12_blanks_6 (by decide) (fun c_6 => ?_) (fun c_6 => ?_)
    · have eR : run isB b p = j := by
        refine run_eq (fun i hi => (h_1 i hi).2) ?_ (fun hl q => ?_)
        · rcases (show j = 0 ∨ 0 < j by omega) with z | z
          · omega
          · have := (h_1 (j - 1) (by omega)).1
            omega
        · have e : byI b (p + j) = nI 32 := by rw [byI, if_pos (by omega), show bt b (p + j) = 32 from q]
          exact c_6 e
      refine z_return dX12_blanks_22 (Nat.le_of_ble_eq_true rfl) (Nat.le_of_ble_eq_true rfl) rfl ?_
      exact ⟨rfl, rfl, rfl, by rw [sk, eR]⟩
    · obtain ⟨c1, c2⟩ := byI_b c_6 hbb
      refine z_aload_n dX12_blanks_9 rfl ?_
      refine z_dup dX12_blanks_10 rfl ?_
      refine z_getIe dX12_blanks_11 fX12_213 (by first | assumption | exact And.left (by assumption)) rfl (zup_s _ _ _ _) ?_
      refine z_iconst (v := nI 1) dX12_blanks_14 rfl ?_
      refine z_addN dX12_blanks_15 ?_
      refine z_putI dX12_blanks_16 fX12_213 (by first | assumption | exact And.left (by assumption)) rfl ?_
      refine z_goto (tgt := 0) dX12_blanks_19 (by decide) ?_
      rw [zup_z]
      refine ih _ (by omega) (j + 1) _ rfl (Or.inl (by omega)) (fun i hi => ?_) rfl
      by_cases e : i = j
      · rw [e]
        exact ⟨c1, c2⟩
      · exact h_1 i (by omega)

theorem s_blk {D : zD} {z0 nx : Nat} {L : zL} {V : zV} {m p : Nat} {b : List Nat} (hm : sM L m) (h : PT V m b p) : Sp D z0 2 0 0 mX12_blanks [.ref m] L V nx (zq none L nx (fun V' => V' = zup V m 11 (nI (sk b p)))) := by
  refine Sp.of 0 (by decide) rfl rfl (Nat.le_of_ble_eq_true rfl) ?_
  exact lp_blk hm h _ 0 V rfl (Or.inr rfl) (fun i hi => absurd hi (by omega)) (zup_same h.2.1).symm

set_option maxHeartbeats 4000000 in
set_option maxRecDepth 100000 in
theorem s_fails {D : zD} {z0 nx : Nat} {L : zL} {V : zV} {m k k0 p : Nat} (hm : sM L m) (h1 : V m 12 = nI k0) (h2 : k0 < 10) : Sp D z0 1 0 0 mX12_fails [.ref m, .int (nI k), .int (nI p)] L V nx (zq none L nx (fun V' => V' = (if k0 = 0 then zup (zup V m 12 (nI k)) m 13 (nI p) else V))) := by
  have hm0 := hm
  obtain ⟨a0, a1, a2, a3, a4, a5, a6, a7, a8, a9, a10, a11, a12, a13, a14, a15⟩ := hm
  refine Sp.of 0 (by decide) rfl rfl (Nat.le_of_ble_eq_true rfl) ?_
  refine z_aload_n dX12_fails_0 rfl ?_
  refine z_getIe dX12_fails_1 fX12_223 (by first | assumption | exact And.left (by assumption)) rfl h1 ?_
  refine z_if_eqN (tgt := 8) dX12_fails_4 (by decide) (by omega) (fun c_4 => ?_) (fun c_4 => ?_)
  · refine z_aload_n dX12_fails_8 rfl ?_
    refine z_iload_n dX12_fails_9 rfl ?_
    refine z_putI dX12_fails_10 fX12_223 (by first | assumption | exact And.left (by assumption)) rfl ?_
    refine z_aload_n dX12_fails_13 rfl ?_
    refine z_iload_n dX12_fails_14 rfl ?_
    refine z_putI dX12_fails_15 fX12_35 (by first | assumption | exact And.left (by assumption)) rfl ?_
    refine z_return dX12_fails_18 (Nat.le_of_ble_eq_true rfl) (Nat.le_of_ble_eq_true rfl) rfl ?_
    exact ⟨rfl, rfl, rfl, by rw [if_pos (by omega)]⟩
  · refine z_return dX12_fails_7 (Nat.le_of_ble_eq_true rfl) (Nat.le_of_ble_eq_true rfl) rfl ?_
    exact ⟨rfl, rfl, rfl, by rw [if_neg (by omega)]⟩

