/-! the reference: keys that are alike -/
def K1 (d : Df) (f : Nat → Option Nat) (r o : Nat) : Prop := ∃ a b, eo d (f r) r = some a ∧ eo d (f o) o = some b ∧ a / 64 = b / 64
def hd1 (d : Df) (f : Nat → Option Nat) (r : Nat) : Prop := (∀ o, o < r → ¬ K1 d f r o) ∧ ∃ o, r < o ∧ o < 48 ∧ K1 d f r o
theorem K1_n1 {d : Df} {f : Nat → Option Nat} {r o : Nat} (h : ¬ iso d (f r)) : ¬ K1 d f r o := fun ⟨a, b, h1, _, _⟩ => (fun z => h (iso_eo.mpr z)) (by rw [h1]; simp)
theorem K1_n2 {d : Df} {f : Nat → Option Nat} {r o : Nat} (h : ¬ iso d (f o)) : ¬ K1 d f r o := fun ⟨a, b, _, h2, _⟩ => (fun z => h (iso_eo.mpr z)) (by rw [h2]; simp)
theorem K1_i {d : Df} {f : Nat → Option Nat} {r o a b : Nat} (hr : r < 64) (ho : o < 64) (h1 : f r = some a) (h2 : f o = some b) (i1 : iso d (f r)) (i2 : iso d (f o)) : K1 d f r o ↔ rk d.1 a 3 = rk d.1 b 3 := by
  rw [h1] at i1
  rw [h2] at i2
  unfold K1
  rw [h1, h2, eo_y i1, eo_y i2]
  constructor
  · rintro ⟨x, y, e1, e2, e3⟩
    cases e1
    cases e2
    omega
  · intro e
    exact ⟨_, _, rfl, rfl, by omega⟩

set_option maxHeartbeats 4000000 in
set_option maxRecDepth 100000 in
theorem s_oneKey {D : zD} {z0 nx : Nat} {L : zL} {V : zV} {m i r u : Nat} {w : Wo} (hm : sM L m) (hi : i < 2) (hB : MB (V (m + 1)) w.1) (hr : r < 48) (hu : u < 48) : Sp D z0 5 0 0 mX12_areOneKey [.ref m, .int (nI i), .int (nI r), .int (nI u)] L V nx (zq (some (.int (zb (K1 (xof w i).2.1 (fun r => (lst w.1.2.1 r).2) r u)))) L nx (fun V' => zEq V V' (m + 4) (m + 5))) := by
  have hm0 := hm
  obtain ⟨a0, a1, a2, a3, a4, a5, a6, a7, a8, a9, a10, a11, a12, a13, a14, a15⟩ := hm
  obtain ⟨x1, x2, x3, x4, x5, x6⟩ := id (hB.2.2.2 i hi)
  have hb := x6.2.2.2.2.2.1
  obtain ⟨vr1, vr2, vr3, vr4⟩ := hB.2.1 r (by omega)
  have hatr : AT (V (m + 1)) (40 * r + 5 * ((w.1.2.1 r).length - 1)) (lst w.1.2.1 r).2 := (vr4 ((w.1.2.1 r).length - 1) (by omega)).2.2
  obtain ⟨vu1, vu2, vu3, vu4⟩ := hB.2.1 u (by omega)
  have hatu : AT (V (m + 1)) (40 * u + 5 * ((w.1.2.1 u).length - 1)) (lst w.1.2.1 u).2 := (vu4 ((w.1.2.1 u).length - 1) (by omega)).2.2
  refine Sp.of 0 (by decide) rfl rfl (Nat.le_of_ble_eq_true rfl) ?_
  refine z_aload_n dX12_areOneKey_0 rfl ?_
  refine z_iload_n dX12_areOneKey_1 rfl ?_
  refine z_aload_n dX12_areOneKey_2 rfl ?_
  refine z_iload_n dX12_areOneKey_3 rfl ?_
  refine z_callV1i dX12_areOneKey_4 kX12_latest lX12_171 (by first | assumption | exact And.left (by assumption)) rfl (s_mLatest hm0 (by omega) (hB.2.1 r (by omega))) (Nat.le_of_ble_eq_true rfl) (Nat.le_of_ble_eq_true rfl) ⟨Nat.le_of_ble_eq_true rfl, Nat.le_of_ble_eq_true rfl⟩ ?_
  refine z_callV2i dX12_areOneKey_7 kX12_isOf lX12_136 (by first | assumption | exact And.left (by assumption)) rfl (s_isOf hm0 hi x2 hb (by omega) hatr) (Nat.le_of_ble_eq_true rfl) (Nat.le_of_ble_eq_true rfl) ⟨Nat.le_of_ble_eq_true rfl, Nat.le_of_ble_eq_true rfl⟩ ?_
  refine z_if_eqB (tgt := 48) dX12_areOneKey_10 (by decide) (fun c_10 => ?_) (fun c_10 => ?_)
  · have hN : ¬ K1 (xof w i).2.1 (fun r => (lst w.1.2.1 r).2) r u := K1_n1 c_10
    refine z_iconst (v := nI 0) dX12_areOneKey_48 rfl ?_
    refine z_zreturn dX12_areOneKey_49 (Nat.le_of_ble_eq_true rfl) (Nat.le_of_ble_eq_true rfl) rfl (by first | exact Or.inl rfl | exact Or.inr rfl | exact zb_01 _ | assumption) ?_
    first
      | exact ⟨by rw [zb_t (hk.mpr c_41)] <;> rfl, rfl, rfl, hV2⟩
      | exact ⟨by rw [zb_f hN] <;> rfl, rfl, rfl, hV2⟩
      | exact ⟨by rw [zb_f hN] <;> rfl, rfl, rfl, zEq.rf⟩
  · refine z_aload_n dX12_areOneKey_13 rfl ?_
    refine z_iload_n dX12_areOneKey_14 rfl ?_
    refine z_aload_n dX12_areOneKey_15 rfl ?_
    refine z_iload_n dX12_areOneKey_16 rfl ?_
    refine z_callV1i dX12_areOneKey_17 kX12_latest lX12_171 (by first | assumption | exact And.left (by assumption)) rfl (s_mLatest hm0 (by omega) (hB.2.1 u (by omega))) (Nat.le_of_ble_eq_true rfl) (Nat.le_of_ble_eq_true rfl) ⟨Nat.le_of_ble_eq_true rfl, Nat.le_of_ble_eq_true rfl⟩ ?_
    refine z_callV2i dX12_areOneKey_20 kX12_isOf lX12_136 (by first | assumption | exact And.left (by assumption)) rfl (s_isOf hm0 hi x2 hb (by omega) hatu) (Nat.le_of_ble_eq_true rfl) (Nat.le_of_ble_eq_true rfl) ⟨Nat.le_of_ble_eq_true rfl, Nat.le_of_ble_eq_true rfl⟩ ?_
    refine z_if_eqB (tgt := 48) dX12_areOneKey_23 (by decide) (fun c_23 => ?_) (fun c_23 => ?_)
    · have hN : ¬ K1 (xof w i).2.1 (fun r => (lst w.1.2.1 r).2) r u := K1_n2 c_23
      refine z_iconst (v := nI 0) dX12_areOneKey_48 rfl ?_
      refine z_zreturn dX12_areOneKey_49 (Nat.le_of_ble_eq_true rfl) (Nat.le_of_ble_eq_true rfl) rfl (by first | exact Or.inl rfl | exact Or.inr rfl | exact zb_01 _ | assumption) ?_
      first
        | exact ⟨by rw [zb_t (hk.mpr c_41)] <;> rfl, rfl, rfl, hV2⟩
        | exact ⟨by rw [zb_f hN] <;> rfl, rfl, rfl, hV2⟩
        | exact ⟨by rw [zb_f hN] <;> rfl, rfl, rfl, zEq.rf⟩
    · obtain ⟨ca, hca⟩ := Option.ne_none_iff_exists'.mp ((iso_eo (r := r)).mp c_10)
      obtain ⟨pa, hpa, _, _⟩ := eo_c hca
      obtain ⟨cb, hcb⟩ := Option.ne_none_iff_exists'.mp ((iso_eo (r := u)).mp c_23)
      obtain ⟨pb1, hpb, _, _⟩ := eo_c hcb
      rw [hpa] at hatr
      rw [hpb] at hatu
      have hk := K1_i (d := (xof w i).2.1) (f := (fun r => (lst w.1.2.1 r).2)) (r := r) (o := u) (by omega) (by omega) hpa hpb c_10 c_23
      refine z_aload_n dX12_areOneKey_26 rfl ?_
      refine z_iload_n dX12_areOneKey_27 rfl ?_
      refine z_aload_n dX12_areOneKey_28 rfl ?_
      refine z_iload_n dX12_areOneKey_29 rfl ?_
      refine z_callV1i dX12_areOneKey_30 kX12_latest lX12_171 (by first | assumption | exact And.left (by assumption)) rfl (s_mLatest hm0 (by omega) (hB.2.1 r (by omega))) (Nat.le_of_ble_eq_true rfl) (Nat.le_of_ble_eq_true rfl) ⟨Nat.le_of_ble_eq_true rfl, Nat.le_of_ble_eq_true rfl⟩ ?_
      refine z_aload_n dX12_areOneKey_33 rfl ?_
      refine z_iload_n dX12_areOneKey_34 rfl ?_
      refine z_callV1i dX12_areOneKey_35 kX12_latest lX12_171 (by first | assumption | exact And.left (by assumption)) rfl (s_mLatest hm0 (by omega) (hB.2.1 u (by omega))) (Nat.le_of_ble_eq_true rfl) (Nat.le_of_ble_eq_true rfl) ⟨Nat.le_of_ble_eq_true rfl, Nat.le_of_ble_eq_true rfl⟩ ?_
      refine z_callV3q dX12_areOneKey_38 kX12_areAlike lX12_139 (by first | assumption | exact And.left (by assumption)) rfl (s_mAlike hm0 hi x2 hb (by omega) (by omega) hatr hatu) (Nat.le_of_ble_eq_true rfl) (Nat.le_of_ble_eq_true rfl) ⟨Nat.le_of_ble_eq_true rfl, Nat.le_of_ble_eq_true rfl⟩ ?_
      intro V2 hV2
      refine z_if_eqB (tgt := 48) dX12_areOneKey_41 (by decide) (fun c_41 => ?_) (fun c_41 => ?_)
      · have hN : ¬ K1 (xof w i).2.1 (fun r => (lst w.1.2.1 r).2) r u := fun z => c_41 (hk.mp z)
        refine z_iconst (v := nI 0) dX12_areOneKey_48 rfl ?_
        refine z_zreturn dX12_areOneKey_49 (Nat.le_of_ble_eq_true rfl) (Nat.le_of_ble_eq_true rfl) rfl (by first | exact Or.inl rfl | exact Or.inr rfl | exact zb_01 _ | assumption) ?_
        first
          | exact ⟨by rw [zb_t (hk.mpr c_41)] <;> rfl, rfl, rfl, hV2⟩
          | exact ⟨by rw [zb_f hN] <;> rfl, rfl, rfl, hV2⟩
          | exact ⟨by rw [zb_f hN] <;> rfl, rfl, rfl, zEq.rf⟩
      · refine z_iconst (v := nI 1) dX12_areOneKey_44 rfl ?_
        refine z_goto (tgt := 49) dX12_areOneKey_45 (by decide) ?_
        refine z_zreturn dX12_areOneKey_49 (Nat.le_of_ble_eq_true rfl) (Nat.le_of_ble_eq_true rfl) rfl (by first | exact Or.inl rfl | exact Or.inr rfl | exact zb_01 _ | assumption) ?_
        first
          | exact ⟨by rw [zb_t (hk.mpr c_41)] <;> rfl, rfl, rfl, hV2⟩
          | exact ⟨by rw [zb_f hN] <;> rfl, rfl, rfl, hV2⟩
          | exact ⟨by rw [zb_f hN] <;> rfl, rfl, rfl, zEq.rf⟩

set_option maxHeartbeats 4000000 in
set_option maxRecDepth 100000 in
theorem lp_hd2 {D : zD} {z0 nx : Nat} {L : zL} {V : zV} {m i r : Nat} {w : Wo} (hm : sM L m) (hi : i < 2) (hB : MB (V (m + 1)) w.1) (hr : r < 48) (hbelow : ∀ u, u < r → ¬ K1 (xof w i).2.1 (fun r => (lst w.1.2.1 r).2) r u) : ∀ (fu : Nat) (u : Nat) (V1 : zV), 48 - u = fu → r < u ∧ u ≤ 48 → (∀ o, r < o → o < u → ¬ K1 (xof w i).2.1 (fun r => (lst w.1.2.1 r).2) r o) → zEq V V1 (m + 4) (m + 5) → Z D z0 6 0 0 mX12_isHead 0 0 29 [some (.ref m), some (.int (nI i)), some (.int (nI r)), some (.int (nI u))] [] L V1 nx (zq (some (.int (zb (hd1 (xof w i).2.1 (fun r => (lst w.1.2.1 r).2) r)))) L nx (fun V' => zEq V V' (m + 4) (m + 5))) := by
  intro fu
  induction fu using Nat.strongRecOn with
  | ind fu ih =>
    intro u V1 h_fu h_0 h_1 h_2
    have hm0 := hm
    have hA1 : V1 (m + 1) = V (m + 1) := h_2 _ (by omega)
    have hB1 : MB (V1 (m + 1)) w.1 := by rw [hA1]; exact hB
    refine z_iload_n dX12_isHead_29 rfl ?_
    refine z_bipush (v := nI 48) dX12_isHead_30 rfl ?_
    refine z_icmp_geN (tgt := 53) dX12_isHead_32 (by decide) (by omega) (by omega) (fun c_32 => ?_) (fun c_32 => ?_)
    · refine z_iconst (v := nI 0) dX12_isHead_53 rfl ?_
      refine z_zreturn dX12_isHead_54 (Nat.le_of_ble_eq_true rfl) (Nat.le_of_ble_eq_true rfl) rfl (by first | exact Or.inl rfl | exact Or.inr rfl | exact zb_01 _ | assumption) ?_
      exact ⟨by rw [zb_f (show ¬ hd1 (xof w i).2.1 (fun r => (lst w.1.2.1 r).2) r from fun ⟨_, o, o1, o2, o3⟩ => h_1 o o1 (by omega) o3)] <;> rfl, rfl, rfl, h_2⟩
    · refine z_aload_n dX12_isHead_35 rfl ?_
      refine z_iload_n dX12_isHead_36 rfl ?_
      refine z_iload_n dX12_isHead_37 rfl ?_
      refine z_iload_n dX12_isHead_38 rfl ?_
      refine z_callV3q dX12_isHead_39 kX12_areOneKey lX12_390 (by first | assumption | exact And.left (by assumption)) rfl (s_oneKey hm0 hi hB1 hr (by omega)) (Nat.le_of_ble_eq_true rfl) (Nat.le_of_ble_eq_true rfl) ⟨Nat.le_of_ble_eq_true rfl, Nat.le_of_ble_eq_true rfl⟩ ?_
      intro V2 hV2
      refine z_if_eqB (tgt := 47) dX12_isHead_42 (by decide) (fun c_42 => ?_) (fun c_42 => ?_)
      · refine z_incN dX12_isHead_47 rfl rfl ?_
        refine z_goto (tgt := 29) dX12_isHead_50 (by decide) ?_
        exact ih _ (by omega) (u + 1) V2 rfl (by omega) (fun o o1 o2 => by
          by_cases e : o = u
          · rw [e]; exact c_42
          · exact h_1 o o1 (by omega)) (h_2.trans hV2)
      · refine z_iconst (v := nI 1) dX12_isHead_45 rfl ?_
        refine z_zreturn dX12_isHead_46 (Nat.le_of_ble_eq_true rfl) (Nat.le_of_ble_eq_true rfl) rfl (by first | exact Or.inl rfl | exact Or.inr rfl | exact zb_01 _ | assumption) ?_
        exact ⟨by rw [zb_t (show hd1 (xof w i).2.1 (fun r => (lst w.1.2.1 r).2) r from ⟨hbelow, u, by omega, by omega, c_42⟩)] <;> rfl, rfl, rfl, h_2.trans hV2⟩

set_option maxHeartbeats 4000000 in
set_option maxRecDepth 100000 in
theorem lp_hd1 {D : zD} {z0 nx : Nat} {L : zL} {V : zV} {m i r : Nat} {w : Wo} (hm : sM L m) (hi : i < 2) (hB : MB (V (m + 1)) w.1) (hr : r < 48) : ∀ (fu : Nat) (u : Nat) (V1 : zV), r - u = fu → u ≤ r → (∀ o, o < u → ¬ K1 (xof w i).2.1 (fun r => (lst w.1.2.1 r).2) r o) → zEq V V1 (m + 4) (m + 5) → Z D z0 6 0 0 mX12_isHead 0 0 2 [some (.ref m), some (.int (nI i)), some (.int (nI r)), some (.int (nI u))] [] L V1 nx (zq (some (.int (zb (hd1 (xof w i).2.1 (fun r => (lst w.1.2.1 r).2) r)))) L nx (fun V' => zEq V V' (m + 4) (m + 5))) := by
  intro fu
  induction fu using Nat.strongRecOn with
  | ind fu ih =>
    intro u V1 h_fu h_0 h_1 h_2
    have hm0 := hm
    have hA1 : V1 (m + 1) = V (m + 1) := h_2 _ (by omega)
    have hB1 : MB (V1 (m + 1)) w.1 := by rw [hA1]; exact hB
    refine z_iload_n dX12_isHead_2 rfl ?_
    refine z_iload_n dX12_isHead_3 rfl ?_
    refine z_icmp_geN (tgt := 25) dX12_isHead_4 (by decide) (by omega) (by omega) (fun c_4 => ?_) (fun c_4 => ?_)
    · refine z_iload_n dX12_isHead_25 rfl ?_
      refine z_iconst (v := nI 1) dX12_isHead_26 rfl ?_
      refine z_addN dX12_isHead_27 ?_
      refine z_istore_n dX12_isHead_28 (Nat.le_of_ble_eq_true rfl) rfl ?_
      refine Z.mono (lp_hd2 (D := D) (z0 := z0) (nx := nx) (V := V1) hm0 hi hB1 hr (fun u2 hu2 => h_1 u2 (by omega)) _ (r + 1) V1 rfl (by omega) (fun o o1 o2 => absurd o2 (by omega)) zEq.rf) ?_
      intro r2 L2 V9 n9 h9
      obtain ⟨q1, q2, q3, q4⟩ := h9
      exact ⟨q1, q2, q3, h_2.trans q4⟩
    · refine z_aload_n dX12_isHead_7 rfl ?_
      refine z_iload_n dX12_isHead_8 rfl ?_
      refine z_iload_n dX12_isHead_9 rfl ?_
      refine z_iload_n dX12_isHead_10 rfl ?_
      refine z_callV3q dX12_isHead_11 kX12_areOneKey lX12_390 (by first | assumption | exact And.left (by assumption)) rfl (s_oneKey hm0 hi hB1 hr (by omega)) (Nat.le_of_ble_eq_true rfl) (Nat.le_of_ble_eq_true rfl) ⟨Nat.le_of_ble_eq_true rfl, Nat.le_of_ble_eq_true rfl⟩ ?_
      intro V2 hV2
      refine z_if_eqB (tgt := 19) dX12_isHead_14 (by decide) (fun c_14 => ?_) (fun c_14 => ?_)
      · refine z_incN dX12_isHead_19 rfl rfl ?_
        refine z_goto (tgt := 2) dX12_isHead_22 (by decide) ?_
        exact ih _ (by omega) (u + 1) V2 rfl (by omega) (lt_s h_1 c_14) (h_2.trans hV2)
      · refine z_iconst (v := nI 0) dX12_isHead_17 rfl ?_
        refine z_zreturn dX12_isHead_18 (Nat.le_of_ble_eq_true rfl) (Nat.le_of_ble_eq_true rfl) rfl (by first | exact Or.inl rfl | exact Or.inr rfl | exact zb_01 _ | assumption) ?_
        exact ⟨by rw [zb_f (show ¬ hd1 (xof w i).2.1 (fun r => (lst w.1.2.1 r).2) r from fun z => z.1 u (by omega) c_14)] <;> rfl, rfl, rfl, h_2.trans hV2⟩

set_option maxHeartbeats 4000000 in
set_option maxRecDepth 100000 in
theorem s_isHead {D : zD} {z0 nx : Nat} {L : zL} {V : zV} {m i r : Nat} {w : Wo} (hm : sM L m) (hi : i < 2) (hB : MB (V (m + 1)) w.1) (hr : r < 48) : Sp D z0 6 0 0 mX12_isHead [.ref m, .int (nI i), .int (nI r)] L V nx (zq (some (.int (zb (hd1 (xof w i).2.1 (fun r => (lst w.1.2.1 r).2) r)))) L nx (fun V' => zEq V V' (m + 4) (m + 5))) := by
  refine Sp.of 1 (by decide) rfl rfl (Nat.le_of_ble_eq_true rfl) ?_
  refine z_iconst (v := nI 0) dX12_isHead_0 rfl ?_
  refine z_istore_n dX12_isHead_1 (Nat.le_of_ble_eq_true rfl) rfl ?_
  exact lp_hd1 hm hi hB hr _ 0 V rfl (by omega) (fun o ho => absurd ho (by omega)) zEq.rf

set_option maxHeartbeats 4000000 in
set_option maxRecDepth 100000 in
theorem lp_kAhead {D : zD} {z0 nx : Nat} {L : zL} {V : zV} {m i r u a b : Nat} {w : Wo} (hm : sM L m) (hi : i < 2) (hB : MB (V (m + 1)) w.1) (hr : r < 48) (hu : u < 48) (ha : (lst w.1.2.1 r).2 = some a) (hb1 : (lst w.1.2.1 u).2 = some b) : ∀ (fu : Nat) (j : Nat), 3 - j = fu → j ≤ (xof w i).2.1.1.length → (∀ e, e < j → rs (xof w i).2.1.1 a e = rs (xof w i).2.1.1 b e) → Z D z0 3 0 0 mX12_isKeyAhead 0 0 3 [some (.ref m), some (.int (nI i)), some (.int (nI r)), some (.int (nI u)), some (.int (nI j)), none] [] L V nx (zi (zb (rk (xof w i).2.1.1 a 3 < rk (xof w i).2.1.1 b 3)) L V nx) := by
  intro fu
  induction fu using Nat.strongRecOn with
  | ind fu ih =>
    intro j h_fu h_0 h_1
    have hm0 := hm
    obtain ⟨a0, a1, a2, a3, a4, a5, a6, a7, a8, a9, a10, a11, a12, a13, a14, a15⟩ := hm
    obtain ⟨x1, x2, x3, x4, x5, x6⟩ := id (hB.2.2.2 i hi)
    have hb := x6.2.2.2.2.2.1
    obtain ⟨vr1, vr2, vr3, vr4⟩ := hB.2.1 r (by omega)
    have hatr : AT (V (m + 1)) (40 * r + 5 * ((w.1.2.1 r).length - 1)) (lst w.1.2.1 r).2 := (vr4 ((w.1.2.1 r).length - 1) (by omega)).2.2
    obtain ⟨vu1, vu2, vu3, vu4⟩ := hB.2.1 u (by omega)
    have hatu : AT (V (m + 1)) (40 * u + 5 * ((w.1.2.1 u).length - 1)) (lst w.1.2.1 u).2 := (vu4 ((w.1.2.1 u).length - 1) (by omega)).2.2
    rw [ha] at hatr
    rw [hb1] at hatu
    obtain ⟨A1, A2, A3⟩ := hatr
    obtain ⟨B1, B2, B3⟩ := hatu
    have q5 := hb.1
    have ex : xof w i = w.1.2.2.2 i := rfl
    rw [ex] at h_0 h_1
    refine z_iload dX12_isKeyAhead_3 rfl ?_
    refine z_aload_n dX12_isKeyAhead_5 rfl ?_
    refine z_iload_n dX12_isKeyAhead_6 rfl ?_
    refine z_iconst (v := nI 5) dX12_isKeyAhead_7 rfl ?_
    refine z_callV2i dX12_isKeyAhead_8 kX12_ofIndex lX12_104 (by first | assumption | exact And.left (by assumption)) rfl (s_ofIx hm0 hi (by omega) x2.2.1) (Nat.le_of_ble_eq_true rfl) (Nat.le_of_ble_eq_true rfl) ⟨Nat.le_of_ble_eq_true rfl, Nat.le_of_ble_eq_true rfl⟩ ?_
    refine z_icmp_geN (tgt := 102) dX12_isKeyAhead_11 (by decide) (by omega) (by omega) (fun c_11 => ?_) (fun c_11 => ?_)
    · refine z_iconst (v := nI 0) dX12_isKeyAhead_102 rfl ?_
      refine z_zreturn dX12_isKeyAhead_103 (Nat.le_of_ble_eq_true rfl) (Nat.le_of_ble_eq_true rfl) rfl (by first | exact Or.inl rfl | exact Or.inr rfl | exact zb_01 _ | assumption) ?_
      rw [ex]
      exact zi_r (by rw [zb_f (rk_all A2 B2 (rs_end (fun e he => h_1 e (by omega))))] <;> rfl)
    · have u2 := hb.2.1 j (by omega)
      have va := A3 ((w.1.2.2.2 i).2.1.1.getD j (0, false)).1 u2
      have vb := B3 ((w.1.2.2.2 i).2.1.1.getD j (0, false)).1 u2
      have la := pt_lt ((w.1.2.2.2 i).2.1.1.getD j (0, false)).1 A2
      have lb := pt_lt ((w.1.2.2.2 i).2.1.1.getD j (0, false)).1 B2
      refine z_aload_n dX12_isKeyAhead_14 rfl ?_
      refine z_getR dX12_isKeyAhead_15 fX12_13 (by first | assumption | exact And.left (by assumption)) rfl ?_
      refine z_aload_n dX12_isKeyAhead_18 rfl ?_
      refine z_iload_n dX12_isKeyAhead_19 rfl ?_
      refine z_callV1i dX12_isKeyAhead_20 kX12_latest lX12_171 (by first | assumption | exact And.left (by assumption)) rfl (s_mLatest hm0 (by omega) (hB.2.1 r (by omega))) (Nat.le_of_ble_eq_true rfl) (Nat.le_of_ble_eq_true rfl) ⟨Nat.le_of_ble_eq_true rfl, Nat.le_of_ble_eq_true rfl⟩ ?_
      refine z_iconst (v := nI 2) dX12_isKeyAhead_23 rfl ?_
      refine z_addN dX12_isKeyAhead_24 ?_
      refine z_aload_n dX12_isKeyAhead_25 rfl ?_
      refine z_iload_n dX12_isKeyAhead_26 rfl ?_
      refine z_iload dX12_isKeyAhead_27 rfl ?_
      refine z_callV2i dX12_isKeyAhead_29 kX12_columnOf lX12_111 (by first | assumption | exact And.left (by assumption)) rfl (s_mCol hm0 hi x2 hb (by omega)) (Nat.le_of_ble_eq_true rfl) (Nat.le_of_ble_eq_true rfl) ⟨Nat.le_of_ble_eq_true rfl, Nat.le_of_ble_eq_true rfl⟩ ?_
      refine z_addN dX12_isKeyAhead_32 ?_
      refine z_ialdN dX12_isKeyAhead_33 (by first | assumption | exact And.left (by assumption)) (by omega) (by decide) va ?_
      refine z_aload_n dX12_isKeyAhead_34 rfl ?_
      refine z_getR dX12_isKeyAhead_35 fX12_13 (by first | assumption | exact And.left (by assumption)) rfl ?_
      refine z_aload_n dX12_isKeyAhead_38 rfl ?_
      refine z_iload_n dX12_isKeyAhead_39 rfl ?_
      refine z_callV1i dX12_isKeyAhead_40 kX12_latest lX12_171 (by first | assumption | exact And.left (by assumption)) rfl (s_mLatest hm0 (by omega) (hB.2.1 u (by omega))) (Nat.le_of_ble_eq_true rfl) (Nat.le_of_ble_eq_true rfl) ⟨Nat.le_of_ble_eq_true rfl, Nat.le_of_ble_eq_true rfl⟩ ?_
      refine z_iconst (v := nI 2) dX12_isKeyAhead_43 rfl ?_
      refine z_addN dX12_isKeyAhead_44 ?_
      refine z_aload_n dX12_isKeyAhead_45 rfl ?_
      refine z_iload_n dX12_isKeyAhead_46 rfl ?_
      refine z_iload dX12_isKeyAhead_47 rfl ?_
      refine z_callV2i dX12_isKeyAhead_49 kX12_columnOf lX12_111 (by first | assumption | exact And.left (by assumption)) rfl (s_mCol hm0 hi x2 hb (by omega)) (Nat.le_of_ble_eq_true rfl) (Nat.le_of_ble_eq_true rfl) ⟨Nat.le_of_ble_eq_true rfl, Nat.le_of_ble_eq_true rfl⟩ ?_
      refine z_addN dX12_isKeyAhead_52 ?_
      refine z_ialdN dX12_isKeyAhead_53 (by first | assumption | exact And.left (by assumption)) (by omega) (by decide) vb ?_
      refine z_isub dX12_isKeyAhead_54 ?_
      refine z_istore dX12_isKeyAhead_55 (Nat.le_of_ble_eq_true rfl) rfl ?_
      refine z_iload dX12_isKeyAhead_57 rfl ?_
      refine z_if_eq (tgt := 96) dX12_isKeyAhead_59 (by decide) (fun c_59 => ?_) (fun c_59 => ?_)
      · have e := (dI_lt la lb).2.2.mp c_59
        refine z_incN dX12_isKeyAhead_96 rfl rfl ?_
        refine z_goto (tgt := 3) dX12_isKeyAhead_99 (by decide) ?_
        refine z_fg 5 ?_
        exact ih _ (by omega) (j + 1) rfl (show j + 1 ≤ (w.1.2.2.2 i).2.1.1.length by omega) (rs_step (show j < (w.1.2.2.2 i).2.1.1.length by omega) h_1 e)
      · have hne := dI_ne la lb c_59
        refine z_aload_n dX12_isKeyAhead_62 rfl ?_
        refine z_iload_n dX12_isKeyAhead_63 rfl ?_
        refine z_iload dX12_isKeyAhead_64 rfl ?_
        refine z_callV2i dX12_isKeyAhead_66 kX12_isDown lX12_114 (by first | assumption | exact And.left (by assumption)) rfl (s_mDown hm0 hi x2 hb (by omega)) (Nat.le_of_ble_eq_true rfl) (Nat.le_of_ble_eq_true rfl) ⟨Nat.le_of_ble_eq_true rfl, Nat.le_of_ble_eq_true rfl⟩ ?_
        refine z_if_eqB (tgt := 85) dX12_isKeyAhead_69 (by decide) (fun c_69 => ?_) (fun c_69 => ?_)
        · have hk := rk_up A2 B2 q5 (by omega) h_1 c_69
          refine z_iload dX12_isKeyAhead_85 rfl ?_
          refine z_if_ge (tgt := 94) dX12_isKeyAhead_87 (by decide) (fun c_87 => ?_) (fun c_87 => ?_)
          · have hv := (dI_le la lb).2.mp c_87
            refine z_iconst (v := nI 0) dX12_isKeyAhead_94 rfl ?_
            refine z_zreturn dX12_isKeyAhead_95 (Nat.le_of_ble_eq_true rfl) (Nat.le_of_ble_eq_true rfl) rfl (by first | exact Or.inl rfl | exact Or.inr rfl | exact zb_01 _ | assumption) ?_
            rw [ex]
            first
              | exact zi_r (by rw [zb_t (hk.1 (by omega))] <;> rfl)
              | exact zi_r (by rw [zb_f (hk.2 (by omega))] <;> rfl)
          · have hv : _ := Classical.byContradiction (fun z => c_87 ((dI_le la lb).2.mpr z))
            refine z_iconst (v := nI 1) dX12_isKeyAhead_90 rfl ?_
            refine z_goto (tgt := 95) dX12_isKeyAhead_91 (by decide) ?_
            refine z_zreturn dX12_isKeyAhead_95 (Nat.le_of_ble_eq_true rfl) (Nat.le_of_ble_eq_true rfl) rfl (by first | exact Or.inl rfl | exact Or.inr rfl | exact zb_01 _ | assumption) ?_
            rw [ex]
            first
              | exact zi_r (by rw [zb_t (hk.1 (by omega))] <;> rfl)
              | exact zi_r (by rw [zb_f (hk.2 (by omega))] <;> rfl)
        · have hk := rk_dn A2 B2 q5 (by omega) h_1 c_69
          refine z_iload dX12_isKeyAhead_72 rfl ?_
          refine z_if_le (tgt := 81) dX12_isKeyAhead_74 (by decide) (fun c_74 => ?_) (fun c_74 => ?_)
          · have hv := (dI_le la lb).1.mp c_74
            refine z_iconst (v := nI 0) dX12_isKeyAhead_81 rfl ?_
            refine z_goto (tgt := 95) dX12_isKeyAhead_82 (by decide) ?_
            refine z_zreturn dX12_isKeyAhead_95 (Nat.le_of_ble_eq_true rfl) (Nat.le_of_ble_eq_true rfl) rfl (by first | exact Or.inl rfl | exact Or.inr rfl | exact zb_01 _ | assumption) ?_
            rw [ex]
            first
              | exact zi_r (by rw [zb_t (hk.1 (by omega))] <;> rfl)
              | exact zi_r (by rw [zb_f (hk.2 (by omega))] <;> rfl)
          · have hv : _ := Classical.byContradiction (fun z => c_74 ((dI_le la lb).1.mpr z))
            refine z_iconst (v := nI 1) dX12_isKeyAhead_77 rfl ?_
            refine z_goto (tgt := 95) dX12_isKeyAhead_78 (by decide) ?_
            refine z_zreturn dX12_isKeyAhead_95 (Nat.le_of_ble_eq_true rfl) (Nat.le_of_ble_eq_true rfl) rfl (by first | exact Or.inl rfl | exact Or.inr rfl | exact zb_01 _ | assumption) ?_
            rw [ex]
            first
              | exact zi_r (by rw [zb_t (hk.1 (by omega))] <;> rfl)
              | exact zi_r (by rw [zb_f (hk.2 (by omega))] <;> rfl)

set_option maxHeartbeats 4000000 in
set_option maxRecDepth 100000 in
theorem s_kAhead {D : zD} {z0 nx : Nat} {L : zL} {V : zV} {m i r u a b : Nat} {w : Wo} (hm : sM L m) (hi : i < 2) (hB : MB (V (m + 1)) w.1) (hr : r < 48) (hu : u < 48) (ha : (lst w.1.2.1 r).2 = some a) (hb1 : (lst w.1.2.1 u).2 = some b) : Sp D z0 3 0 0 mX12_isKeyAhead [.ref m, .int (nI i), .int (nI r), .int (nI u)] L V nx (zi (zb (rk (xof w i).2.1.1 a 3 < rk (xof w i).2.1.1 b 3)) L V nx) := by
  refine Sp.of 2 (by decide) rfl rfl (Nat.le_of_ble_eq_true rfl) ?_
  refine z_iconst (v := nI 0) dX12_isKeyAhead_0 rfl ?_
  refine z_istore dX12_isKeyAhead_1 (Nat.le_of_ble_eq_true rfl) rfl ?_
  exact lp_kAhead hm hi hB hr hu ha hb1 _ 0 rfl (by omega) (fun e he => absurd he (by omega))

noncomputable def gh (d : Df) (f : Nat → Option Nat) : Nat → List Nat
  | 0 => []
  | n + 1 => cif (hd1 d f n) (oinc (eo d (f n) n) (gh d f n)) (gh d f n)
theorem gh_n {d : Df} {f : Nat → Option Nat} {n : Nat} (h : ¬ hd1 d f n) : gh d f (n + 1) = gh d f n := cif_n h
theorem gh_y {d : Df} {f : Nat → Option Nat} {n c : Nat} (h : hd1 d f n) (hc : eo d (f n) n = some c) : gh d f (n + 1) = inc c (gh d f n) := by
  rw [gh, cif_y h, hc]
  rfl
theorem hd1_e {d : Df} {f : Nat → Option Nat} {n : Nat} (h : hd1 d f n) : ∃ c, eo d (f n) n = some c := by
  obtain ⟨_, o, _, _, a, b, h1, _, _⟩ := h
  exact ⟨a, h1⟩
theorem gh_ok {d : Df} {f : Nat → Option Nat} : ∀ {n : Nat}, n ≤ 48 → PW (gh d f n) ∧ (∀ c, c ∈ gh d f n ↔ ∃ r, r < n ∧ hd1 d f r ∧ eo d (f r) r = some c) ∧ (gh d f n).length ≤ n
  | 0, _ => ⟨PW_nil, fun c => ⟨fun q => absurd q (by simp [gh]), fun ⟨r, hr, _⟩ => absurd hr (by omega)⟩, by simp [gh]⟩
  | n + 1, hn => by
    obtain ⟨h1, h2, h3⟩ := gh_ok (d := d) (f := f) (n := n) (by omega)
    by_cases h : hd1 d f n
    · obtain ⟨x, hx⟩ := hd1_e h
      have hxn : ¬ x ∈ gh d f n := fun z => by
        obtain ⟨r, z1, z2, z3⟩ := (h2 x).mp z
        have := eo_r z3 (by omega)
        have := eo_r hx (by omega)
        omega
      rw [gh_y h hx, inc_new h1 hxn (by omega)]
      refine ⟨insR_pw h1 hxn, fun c => ?_, by rw [insR_len]; omega⟩
      rw [insR_mem, h2]
      constructor
      · rintro (q | ⟨r, z1, z2⟩)
        · exact ⟨n, by omega, h, by rw [hx, q]⟩
        · exact ⟨r, by omega, z2⟩
      · rintro ⟨r, z1, z2, z3⟩
        by_cases e2 : r = n
        · rw [e2, hx] at z3
          cases z3
          exact Or.inl rfl
        · exact Or.inr ⟨r, by omega, z2, z3⟩
    · rw [gh_n h]
      refine ⟨h1, fun c => ?_, by omega⟩
      rw [h2]
      constructor
      · rintro ⟨r, z1, z2⟩
        exact ⟨r, by omega, z2⟩
      · rintro ⟨r, z1, z2, z3⟩
        by_cases e2 : r = n
        · rw [e2] at z2
          exact absurd z2 h
        · exact ⟨r, by omega, z2, z3⟩
/-- only the heads, and the key at hand, have changed -/
def hE (V V' : zV) (m : Nat) : Prop := (∀ q, q ≠ m → q ≠ m + 4 → q ≠ m + 15 → V' q = V q) ∧ ∀ j, j ≠ 33 → V' m j = V m j
theorem hE.rf {V : zV} {m : Nat} : hE V V m := ⟨fun _ _ _ _ => rfl, fun _ _ => rfl⟩
theorem hE.trans {V V' V'' : zV} {m : Nat} (h : hE V V' m) (h' : hE V' V'' m) : hE V V'' m := ⟨fun q h1 h2 h3 => (h'.1 q h1 h2 h3).trans (h.1 q h1 h2 h3), fun j h1 => (h'.2 j h1).trans (h.2 j h1)⟩
theorem hE.ky {V V' V'' : zV} {m : Nat} (h : hE V V' m) (e : zEq V' V'' (m + 4) (m + 5)) : hE V V'' m := ⟨fun q h1 h2 h3 => (e q (by omega)).trans (h.1 q h1 h2 h3), fun j h1 => by rw [e m (by omega)]; exact h.2 j h1⟩
theorem hE.zeq {V V' : zV} {m : Nat} (h : hE V V' m) : zEq V V' m (m + 16) := fun q hq => h.1 q (by omega) (by omega) (by omega)
theorem MW_hE {V V' : zV} {m : Nat} {w : Wo} (h : MW V m w) (he : hE V V' m) : MW V' m w := by
  obtain ⟨h1, h2, h3, h4, h5, h6, h7⟩ := h
  have E := fun (q : Nat) (c : q = m + 1 ∨ q = m + 2 ∨ q = m + 3 ∨ q = m + 8 ∨ q = m + 6 ∨ q = m + 9 ∨ q = m + 10) => he.1 q (by omega) (by omega) (by omega)
  refine ⟨by rw [E (m + 1) (by omega)]; exact h1, ⟨h2.1, by rw [he.2 3 (by decide)]; exact h2.2.1, fun q hq => by rw [E (m + 2) (by omega)]; exact h2.2.2 q hq⟩, fun i hi => ⟨by rw [E (m + 3) (by omega)]; exact (h3 i hi).1, fun s hs => by rw [E (m + 1) (by omega)]; exact (h3 i hi).2 s hs⟩, ?_, ⟨by rw [he.2 6 (by decide)]; exact h5.1, h5.2⟩, ?_, fun q hq => by rw [E (m + 8) (by omega)]; exact h7 q hq⟩
  · obtain ⟨g1, g2, g3, g4, g5, g6⟩ := h4
    exact ⟨by rw [he.2 9 (by decide)]; exact g1, by rw [he.2 12 (by decide)]; exact g2, by rw [he.2 13 (by decide)]; exact g3, g4, g5, fun j hj => by rw [E (m + 6) (by omega)]; exact g6 j hj⟩
  · show MqO _ m w.2.2.2.2.2
    cases hq : w.2.2.2.2.2 with
    | none =>
      rw [hq] at h6
      show V' m 24 = -1
      rw [he.2 24 (by decide)]
      exact h6
    | some q =>
      rw [hq] at h6
      obtain ⟨q1, q2, q3, q4, q5, q6⟩ := h6
      exact ⟨by rw [he.2 24 (by decide)]; exact q1, q2, fun k hk => by rw [E (m + 9) (by omega)]; exact q3 k hk, by rw [he.2 25 (by decide)]; exact q4, q5, fun k hk => by rw [E (m + 10) (by omega)]; exact q6 k hk⟩

set_option maxHeartbeats 4000000 in
set_option maxRecDepth 100000 in
theorem lp_hshift {D : zD} {z0 nx : Nat} {L : zL} {V : zV} {m i : Nat} {w : Wo} (hm : sM L m) (hi : i < 2) (hB : MB (V (m + 1)) w.1) {r x : Nat} (hr : r < 48) (hx : eo (xof w i).2.1 ((fun r => (lst w.1.2.1 r).2) r) r = some x) {P2 : zP} (K : ∀ V2, hE V V2 m → V2 m 33 = nI (gh (xof w i).2.1 (fun r => (lst w.1.2.1 r).2) r).length → (∀ j, j < pl x (gh (xof w i).2.1 (fun r => (lst w.1.2.1 r).2) r) → V2 (m + 15) j = nI ((gh (xof w i).2.1 (fun r => (lst w.1.2.1 r).2) r).getD j 0 % 64)) → (∀ j, pl x (gh (xof w i).2.1 (fun r => (lst w.1.2.1 r).2) r) ≤ j → j < (gh (xof w i).2.1 (fun r => (lst w.1.2.1 r).2) r).length → V2 (m + 15) (j + 1) = nI ((gh (xof w i).2.1 (fun r => (lst w.1.2.1 r).2) r).getD j 0 % 64)) → Z D z0 7 0 0 mX12_laysHeads 0 0 71 [some (.ref m), some (.int (nI i)), some (.int (nI r)), some (.int (nI (pl x (gh (xof w i).2.1 (fun r => (lst w.1.2.1 r).2) r))))] [] L V2 nx P2) : ∀ (fu : Nat) (k : Nat) (V1 : zV), k = fu → k ≤ (gh (xof w i).2.1 (fun r => (lst w.1.2.1 r).2) r).length → hE V V1 m → V1 m 33 = nI (gh (xof w i).2.1 (fun r => (lst w.1.2.1 r).2) r).length → (∀ j, j < k → V1 (m + 15) j = nI ((gh (xof w i).2.1 (fun r => (lst w.1.2.1 r).2) r).getD j 0 % 64)) → (∀ j, k ≤ j → j < (gh (xof w i).2.1 (fun r => (lst w.1.2.1 r).2) r).length → V1 (m + 15) (j + 1) = nI ((gh (xof w i).2.1 (fun r => (lst w.1.2.1 r).2) r).getD j 0 % 64) ∧ x < (gh (xof w i).2.1 (fun r => (lst w.1.2.1 r).2) r).getD j 0) → Z D z0 7 0 0 mX12_laysHeads 0 0 30 [some (.ref m), some (.int (nI i)), some (.int (nI r)), some (.int (nI k))] [] L V1 nx (P2) := by
  intro fu
  induction fu using Nat.strongRecOn with
  | ind fu ih =>
    intro k V1 h_fu h_0 h_1 h_2 h_3 h_4
    have hm0 := hm
    obtain ⟨a0, a1, a2, a3, a4, a5, a6, a7, a8, a9, a10, a11, a12, a13, a14, a15⟩ := hm
    obtain ⟨w1, w2, w3⟩ := gh_ok (d := (xof w i).2.1) (f := (fun r => (lst w.1.2.1 r).2)) (n := r) (by omega)
    have hA1 : V1 (m + 1) = V (m + 1) := h_1.1 _ (by omega) (by omega) (by omega)
    have hB1 : MB (V1 (m + 1)) w.1 := by rw [hA1]; exact hB
    obtain ⟨a, ha, _, hxa⟩ := eo_c hx
    have hst : (∀ j, j < k → (gh (xof w i).2.1 (fun r => (lst w.1.2.1 r).2) r).getD j 0 < x) → pl x (gh (xof w i).2.1 (fun r => (lst w.1.2.1 r).2) r) = k := fun z => pl_eq _ _ k z (by omega) (fun z2 => by have := (h_4 k (by omega) z2).2; omega)
    refine z_iload_n dX12_laysHeads_30 rfl ?_
    refine z_if_leN (tgt := 71) dX12_laysHeads_31 (by decide) (by omega) (fun c_31 => ?_) (fun c_31 => ?_)
    · have e := hst (fun j hj => absurd hj (by omega))
      rw [show nI k = nI (pl x (gh (xof w i).2.1 (fun r => (lst w.1.2.1 r).2) r)) from by rw [e]]
      refine K V1 h_1 h_2 (fun j hj => h_3 j (by omega)) (fun j j1 j2 => (h_4 j (by omega) j2).1)
    · obtain ⟨r0, z1, z2, z3⟩ := (w2 ((gh (xof w i).2.1 (fun r => (lst w.1.2.1 r).2) r).getD (k - 1) 0)).mp (mem_getD (by omega))
      obtain ⟨a0b, hab, _, hyb⟩ := eo_c z3
      have z4 : (gh (xof w i).2.1 (fun r => (lst w.1.2.1 r).2) r).getD (k - 1) 0 % 64 = r0 := eo_r z3 (by omega)
      have hv := h_3 (k - 1) (by omega)
      rw [z4] at hv
      refine z_aload_n dX12_laysHeads_34 rfl ?_
      refine z_iload_n dX12_laysHeads_35 rfl ?_
      refine z_iload_n dX12_laysHeads_36 rfl ?_
      refine z_aload_n dX12_laysHeads_37 rfl ?_
      refine z_getR dX12_laysHeads_38 fX12_65 (by first | assumption | exact And.left (by assumption)) rfl ?_
      refine z_iload_n dX12_laysHeads_41 rfl ?_
      refine z_iconst (v := nI 1) dX12_laysHeads_42 rfl ?_
      refine z_subN dX12_laysHeads_43 (by omega) ?_
      refine z_ialdN dX12_laysHeads_44 (by first | assumption | exact And.left (by assumption)) (by omega) (by decide) hv ?_
      refine z_callV3i dX12_laysHeads_45 kX12_isKeyAhead lX12_399 (by first | assumption | exact And.left (by assumption)) rfl (s_kAhead hm0 hi hB1 hr (by omega) ha hab) (Nat.le_of_ble_eq_true rfl) (Nat.le_of_ble_eq_true rfl) ⟨Nat.le_of_ble_eq_true rfl, Nat.le_of_ble_eq_true rfl⟩ ?_
      refine z_if_eqB (tgt := 71) dX12_laysHeads_48 (by decide) (fun c_48 => ?_) (fun c_48 => ?_)
      · have e := hst (fun j hj => by
          have h9 : (gh (xof w i).2.1 (fun r => (lst w.1.2.1 r).2) r).getD (k - 1) 0 < x := by omega
          rcases (show j = k - 1 ∨ j < k - 1 by omega) with q9 | q9
          · rw [q9]; exact h9
          · have := PW_srtd w1 j (k - 1) q9 (by omega)
            omega)
        rw [show nI k = nI (pl x (gh (xof w i).2.1 (fun r => (lst w.1.2.1 r).2) r)) from by rw [e]]
        refine K V1 h_1 h_2 (fun j hj => h_3 j (by omega)) (fun j j1 j2 => (h_4 j (by omega) j2).1)
      · have hx9 : x < (gh (xof w i).2.1 (fun r => (lst w.1.2.1 r).2) r).getD (k - 1) 0 := by omega
        refine z_aload_n dX12_laysHeads_51 rfl ?_
        refine z_getR dX12_laysHeads_52 fX12_65 (by first | assumption | exact And.left (by assumption)) rfl ?_
        refine z_iload_n dX12_laysHeads_55 rfl ?_
        refine z_aload_n dX12_laysHeads_56 rfl ?_
        refine z_getR dX12_laysHeads_57 fX12_65 (by first | assumption | exact And.left (by assumption)) rfl ?_
        refine z_iload_n dX12_laysHeads_60 rfl ?_
        refine z_iconst (v := nI 1) dX12_laysHeads_61 rfl ?_
        refine z_subN dX12_laysHeads_62 (by omega) ?_
        refine z_ialdN dX12_laysHeads_63 (by first | assumption | exact And.left (by assumption)) (by omega) (by decide) hv ?_
        refine z_iastN dX12_laysHeads_64 (by first | assumption | exact And.left (by assumption)) (by omega) (by decide) ?_
        refine z_decN dX12_laysHeads_65 rfl (by omega) rfl ?_
        refine z_goto (tgt := 30) dX12_laysHeads_68 (by decide) ?_
        refine ih (k - 1) (by omega) (k - 1) _ rfl (by omega) ⟨fun q q1 q2 q3 => by rw [zup_a q3]; exact h_1.1 q q1 q2 q3, fun j hj => by rw [zup_a (by omega)]; exact h_1.2 j hj⟩ (by rw [zup_a (by omega)]; exact h_2) (fun j hj => by rw [zup_k (by omega)]; exact h_3 j (by omega)) (fun j j1 j2 => ?_)
        by_cases e : j = k - 1
        · rw [e, show k - 1 + 1 = k by omega, zup_s, z4]
          exact ⟨rfl, hx9⟩
        · rw [zup_k (by omega)]
          exact h_4 j (by omega) j2

set_option maxHeartbeats 4000000 in
set_option maxRecDepth 100000 in
theorem lp_heads {D : zD} {z0 nx : Nat} {L : zL} {V : zV} {m i : Nat} {w : Wo} (hm : sM L m) (hi : i < 2) (hB : MB (V (m + 1)) w.1) : ∀ (fu : Nat) (r : Nat) (V1 : zV), 48 - r = fu → r ≤ 48 → hE V V1 m → V1 m 33 = nI (gh (xof w i).2.1 (fun r => (lst w.1.2.1 r).2) r).length → (∀ j, j < (gh (xof w i).2.1 (fun r => (lst w.1.2.1 r).2) r).length → V1 (m + 15) j = nI ((gh (xof w i).2.1 (fun r => (lst w.1.2.1 r).2) r).getD j 0 % 64)) → Z D z0 7 0 0 mX12_laysHeads 0 0 7 [some (.ref m), some (.int (nI i)), some (.int (nI r)), none] [] L V1 nx (zq none L nx (fun V' => hE V V' m ∧ V' m 33 = nI (gh (xof w i).2.1 (fun r => (lst w.1.2.1 r).2) 48).length ∧ ∀ j, j < (gh (xof w i).2.1 (fun r => (lst w.1.2.1 r).2) 48).length → V' (m + 15) j = nI ((gh (xof w i).2.1 (fun r => (lst w.1.2.1 r).2) 48).getD j 0 % 64))) := by
  intro fu
  induction fu using Nat.strongRecOn with
  | ind fu ih =>
    intro r V1 h_fu h_0 h_1 h_2 h_3
    have hm0 := hm
    obtain ⟨a0, a1, a2, a3, a4, a5, a6, a7, a8, a9, a10, a11, a12, a13, a14, a15⟩ := hm
    obtain ⟨w1, w2, w3⟩ := gh_ok (d := (xof w i).2.1) (f := (fun r => (lst w.1.2.1 r).2)) (n := r) (by omega)
    have hA1 : V1 (m + 1) = V (m + 1) := h_1.1 _ (by omega) (by omega) (by omega)
    have hB1 : MB (V1 (m + 1)) w.1 := by rw [hA1]; exact hB
    refine z_iload_n dX12_laysHeads_7 rfl ?_
    refine z_bipush (v := nI 48) dX12_laysHeads_8 rfl ?_
    refine z_icmp_geN (tgt := 94) dX12_laysHeads_10 (by decide) (by omega) (by omega) (fun c_10 => ?_) (fun c_10 => ?_)
    · refine z_return dX12_laysHeads_94 (Nat.le_of_ble_eq_true rfl) (Nat.le_of_ble_eq_true rfl) rfl ?_
      have e48 : r = 48 := by omega
      subst e48
      exact ⟨rfl, rfl, rfl, h_1, h_2, h_3⟩
    · refine z_aload_n dX12_laysHeads_13 rfl ?_
      refine z_iload_n dX12_laysHeads_14 rfl ?_
      refine z_iload_n dX12_laysHeads_15 rfl ?_
      refine z_callV2q dX12_laysHeads_16 kX12_isHead lX12_396 (by first | assumption | exact And.left (by assumption)) rfl (s_isHead hm0 hi hB1 (by omega)) (Nat.le_of_ble_eq_true rfl) (Nat.le_of_ble_eq_true rfl) ⟨Nat.le_of_ble_eq_true rfl, Nat.le_of_ble_eq_true rfl⟩ ?_
      intro V2 hV2
      have h12 := h_1.ky hV2
      have hA2 : V2 (m + 1) = V1 (m + 1) := hV2 _ (by omega)
      have h33 : V2 m 33 = nI (gh (xof w i).2.1 (fun r => (lst w.1.2.1 r).2) r).length := (congrFun (hV2 m (by omega)) 33).trans h_2
      have h15 : V2 (m + 15) = V1 (m + 15) := hV2 _ (by omega)
      refine z_if_neB (tgt := 25) dX12_laysHeads_19 (by decide) (fun c_19 => ?_) (fun c_19 => ?_)
      · obtain ⟨x, hx⟩ := hd1_e c_19
        have eG := gh_y c_19 hx
        have hxn : ¬ x ∈ (gh (xof w i).2.1 (fun r => (lst w.1.2.1 r).2) r) := fun z => by
          obtain ⟨r1, z1, z2, z3⟩ := (w2 x).mp z
          have := eo_r z3 (by omega)
          have := eo_r hx (by omega)
          omega
        have hple := pl_le x (gh (xof w i).2.1 (fun r => (lst w.1.2.1 r).2) r)
        have hx64 : x % 64 = r := eo_r hx (by omega)
        refine z_aload_n dX12_laysHeads_25 rfl ?_
        refine z_getIe dX12_laysHeads_26 fX12_393 (by first | assumption | exact And.left (by assumption)) rfl h33 ?_
        refine z_istore_n dX12_laysHeads_29 (Nat.le_of_ble_eq_true rfl) rfl ?_
        refine lp_hshift (V := V2) hm0 hi (by rw [hA2]; exact hB1) (by omega) hx (fun V3 k1 k2 k3 k4 => ?_) _ _ V2 rfl (Nat.le_refl _) hE.rf h33 (fun j hj => by rw [h15]; exact h_3 j hj) (fun j j1 j2 => absurd j2 (by omega))
        refine z_aload_n dX12_laysHeads_71 rfl ?_
        refine z_getR dX12_laysHeads_72 fX12_65 (by first | assumption | exact And.left (by assumption)) rfl ?_
        refine z_iload_n dX12_laysHeads_75 rfl ?_
        refine z_iload_n dX12_laysHeads_76 rfl ?_
        refine z_iastN dX12_laysHeads_77 (by first | assumption | exact And.left (by assumption)) (by omega) (by decide) ?_
        refine z_aload_n dX12_laysHeads_78 rfl ?_
        refine z_dup dX12_laysHeads_79 rfl ?_
        refine z_getIe dX12_laysHeads_80 fX12_393 (by first | assumption | exact And.left (by assumption)) rfl ((congrFun (zup_a (by omega)) 33).trans k2) ?_
        refine z_iconst (v := nI 1) dX12_laysHeads_83 rfl ?_
        refine z_addN dX12_laysHeads_84 ?_
        refine z_putI dX12_laysHeads_85 fX12_393 (by first | assumption | exact And.left (by assumption)) rfl ?_
        refine z_incN dX12_laysHeads_88 rfl rfl ?_
        refine z_goto (tgt := 7) dX12_laysHeads_91 (by decide) ?_
        refine z_fg 3 ?_
        first
          | exact ih _ (by omega) (r + 1) V2 rfl (by omega) h12 (by rw [eG]; exact h33) (by rw [eG, h15]; exact h_3)
          | (have eI : gh (xof w i).2.1 (fun r => (lst w.1.2.1 r).2) (r + 1) = (gh (xof w i).2.1 (fun r => (lst w.1.2.1 r).2) r).take (pl x (gh (xof w i).2.1 (fun r => (lst w.1.2.1 r).2) r)) ++ x :: (gh (xof w i).2.1 (fun r => (lst w.1.2.1 r).2) r).drop (pl x (gh (xof w i).2.1 (fun r => (lst w.1.2.1 r).2) r)) := by rw [eG, inc_new w1 hxn (by omega), insR_eq]
             have eL : (gh (xof w i).2.1 (fun r => (lst w.1.2.1 r).2) (r + 1)).length = (gh (xof w i).2.1 (fun r => (lst w.1.2.1 r).2) r).length + 1 := by rw [eG, inc_new w1 hxn (by omega), insR_len]
             refine ih _ (by omega) (r + 1) _ rfl (by omega) (h12.trans ⟨fun q q1 q2 q3 => by rw [zup_a q1, zup_a q3]; exact k1.1 q q1 q2 q3, fun j hj => by rw [zup_k hj, zup_a (by omega)]; exact k1.2 j hj⟩) (by rw [eL, zup_s]) (fun j hj => ?_)
             rw [eL] at hj
             rw [eI, getD_ins _ _ _ _ hple, zup_a (by omega)]
             by_cases c1 : j < pl x (gh (xof w i).2.1 (fun r => (lst w.1.2.1 r).2) r)
             · rw [if_pos c1, zup_k (by omega)]
               exact k3 j c1
             · by_cases c2 : j = pl x (gh (xof w i).2.1 (fun r => (lst w.1.2.1 r).2) r)
               · rw [if_neg c1, if_pos c2, c2, zup_s, hx64]
               · rw [if_neg c1, if_neg c2, zup_k c2]
                 have := k4 (j - 1) (by omega) (by omega)
                 rw [show j - 1 + 1 = j by omega] at this
                 exact this)
      · have eG := gh_n c_19
        refine z_goto (tgt := 88) dX12_laysHeads_22 (by decide) ?_
        refine z_incN dX12_laysHeads_88 rfl rfl ?_
        refine z_goto (tgt := 7) dX12_laysHeads_91 (by decide) ?_
        refine z_fg 3 ?_
        first
          | exact ih _ (by omega) (r + 1) V2 rfl (by omega) h12 (by rw [eG]; exact h33) (by rw [eG, h15]; exact h_3)
          | (have eI : gh (xof w i).2.1 (fun r => (lst w.1.2.1 r).2) (r + 1) = (gh (xof w i).2.1 (fun r => (lst w.1.2.1 r).2) r).take (pl x (gh (xof w i).2.1 (fun r => (lst w.1.2.1 r).2) r)) ++ x :: (gh (xof w i).2.1 (fun r => (lst w.1.2.1 r).2) r).drop (pl x (gh (xof w i).2.1 (fun r => (lst w.1.2.1 r).2) r)) := by rw [eG, inc_new w1 hxn (by omega), insR_eq]
             have eL : (gh (xof w i).2.1 (fun r => (lst w.1.2.1 r).2) (r + 1)).length = (gh (xof w i).2.1 (fun r => (lst w.1.2.1 r).2) r).length + 1 := by rw [eG, inc_new w1 hxn (by omega), insR_len]
             refine ih _ (by omega) (r + 1) _ rfl (by omega) (h12.trans ⟨fun q q1 q2 q3 => by rw [zup_a q1, zup_a q3]; exact k1.1 q q1 q2 q3, fun j hj => by rw [zup_k hj, zup_a (by omega)]; exact k1.2 j hj⟩) (by rw [eL, zup_s]) (fun j hj => ?_)
             rw [eL] at hj
             rw [eI, getD_ins _ _ _ _ hple, zup_a (by omega)]
             by_cases c1 : j < pl x (gh (xof w i).2.1 (fun r => (lst w.1.2.1 r).2) r)
             · rw [if_pos c1, zup_k (by omega)]
               exact k3 j c1
             · by_cases c2 : j = pl x (gh (xof w i).2.1 (fun r => (lst w.1.2.1 r).2) r)
               · rw [if_neg c1, if_pos c2, c2, zup_s, hx64]
               · rw [if_neg c1, if_neg c2, zup_k c2]
                 have := k4 (j - 1) (by omega) (by omega)
                 rw [show j - 1 + 1 = j by omega] at this
                 exact this)

set_option maxHeartbeats 4000000 in
set_option maxRecDepth 100000 in
theorem s_heads {D : zD} {z0 nx : Nat} {L : zL} {V : zV} {m i : Nat} {w : Wo} (hm : sM L m) (hi : i < 2) (hB : MB (V (m + 1)) w.1) : Sp D z0 7 0 0 mX12_laysHeads [.ref m, .int (nI i)] L V nx (zq none L nx (fun V' => hE V V' m ∧ V' m 33 = nI (gh (xof w i).2.1 (fun r => (lst w.1.2.1 r).2) 48).length ∧ ∀ j, j < (gh (xof w i).2.1 (fun r => (lst w.1.2.1 r).2) 48).length → V' (m + 15) j = nI ((gh (xof w i).2.1 (fun r => (lst w.1.2.1 r).2) 48).getD j 0 % 64))) := by
  refine Sp.of 2 (by decide) rfl rfl (Nat.le_of_ble_eq_true rfl) ?_
  refine z_aload_n dX12_laysHeads_0 rfl ?_
  refine z_iconst (v := nI 0) dX12_laysHeads_1 rfl ?_
  refine z_putI dX12_laysHeads_2 fX12_393 (by first | assumption | exact And.left (by assumption)) rfl ?_
  refine z_iconst (v := nI 0) dX12_laysHeads_5 rfl ?_
  refine z_istore_n dX12_laysHeads_6 (Nat.le_of_ble_eq_true rfl) rfl ?_
  refine Z.mono (lp_heads (D := D) (z0 := z0) (nx := nx) (w := w) (V := zup V m 33 (nI 0)) hm hi (by rw [zup_a (by omega)]; exact hB) _ 0 _ rfl (by omega) hE.rf (zup_s _ _ _ _) (fun j hj => absurd hj (by simp [gh]))) ?_
  intro r2 L2 V9 n9 h9
  obtain ⟨q1, q2, q3, q4, q5, q6⟩ := h9
  exact ⟨q1, q2, q3, ⟨fun q j1 j2 j3 => (q4.1 q j1 j2 j3).trans (zup_a j1), fun j hj => (q4.2 j hj).trans (zup_k hj)⟩, q5, q6⟩

