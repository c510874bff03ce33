/-! what is made: tape, transaction, versions, question, store -/
theorem OR_z {V : zV} {a : Nat} (h : zer V a (a + 3)) : OR V a [] := ⟨h a (by omega) (by omega) 2, by simp, fun k hk => absurd hk (by simp), fun k hk => absurd hk (by simp), fun k _ => Or.inl (h (a + 2) (by omega) (by omega) k)⟩
theorem CO_z {V : zV} {a : Nat} (h : zer V a (a + 1)) : CO V a 0 0 0 := ⟨h a (by omega) (by omega) 0, h a (by omega) (by omega) 1, h a (by omega) (by omega) 2, by decide, by decide, by decide⟩
theorem zer.sub {V : zV} {lo hi l2 h2 : Nat} (h : zer V lo hi) (h1 : lo ≤ l2) (h3 : h2 ≤ hi) : zer V l2 h2 := fun q q1 q2 => h q (by omega) (by omega)
theorem DF_z {V : zV} {a : Nat} (h : zer V a (a + 5)) : DF V a ([], false, false, 0, 0, 0) := ⟨OR_z (h.sub (by omega) (by omega)), (h a (by omega) (by omega) 1).trans (zb_f (by simp)).symm, (h a (by omega) (by omega) 2).trans (zb_f (by simp)).symm, CO_z (h.sub (by omega) (by omega))⟩
theorem SC_z {V : zV} {a : Nat} (h : zer V a (a + 2)) : SC V a [] := ⟨h a (by omega) (by omega) 1, fun k hk => absurd hk (by simp), by simp, fun c hc => absurd hc (by simp)⟩
theorem LG_z {V : zV} {a : Nat} (h : zer V a (a + 2)) : LG V a 0 [] := ⟨h a (by omega) (by omega) 1, h a (by omega) (by omega) 2, by simp, fun k hk => absurd hk (by simp), fun c hc => absurd hc (by simp)⟩
theorem IX_z {V : zV} {a : Nat} (h : zer V a (a + 12)) : IX V a (xClear 0) := by
  refine ⟨⟨⟨h a (by omega) (by omega) 0, h a (by omega) (by omega) 1, h a (by omega) (by omega) 2, h a (by omega) (by omega) 3, h a (by omega) (by omega) 4⟩, by decide, by decide, by decide, by decide, by decide⟩, DF_z (h.sub (by omega) (by omega)), SC_z (h.sub (by omega) (by omega)), ⟨0, LG_z (h.sub (by omega) (by omega))⟩, LG_z (h.sub (by omega) (by omega))⟩
theorem QU_z {V : zV} {a : Nat} (h : zer V a (a + 9)) : QU V a ([], []) := ⟨h a (by omega) (by omega) 1, by simp, fun k hk => absurd hk (by simp), OR_z (h.sub (by omega) (by omega))⟩
theorem VE_cg {V V' : zV} {a : Nat} {v : Vs} (h : VE V a v) (e : ∀ q, a ≤ q → q < a + 4 → V' q = V q) : VE V' a v := by
  unfold VE at h ⊢
  rw [e (a + 1) (by omega) (by omega), e (a + 2) (by omega) (by omega), e (a + 3) (by omega) (by omega)]
  exact h
theorem TR_cg {V V' : zV} {a : Nat} {t : Tr} (h : TR V a t) (e : ∀ q, a ≤ q → q < a + 2 → V' q = V q) : TR V' a t := by
  unfold TR at h ⊢
  rw [e a (by omega) (by omega), e (a + 1) (by omega) (by omega)]
  exact h
theorem TP_cg {V V' : zV} {a : Nat} {b : List Nat} {fk fp : Int32} (h : TP V a b fk fp) (e : ∀ q, a ≤ q → q < a + 2 → V' q = V q) : TP V' a b fk fp := by
  unfold TP at h ⊢
  rw [e a (by omega) (by omega), e (a + 1) (by omega) (by omega)]
  exact h

set_option maxHeartbeats 4000000 in
set_option maxRecDepth 100000 in
theorem i_X8 {D : zD} {z0 : Nat} {L : zL} {V : zV} {a : Nat} (hL : L a = some (.inr (.inr (8, [some .null, none, none, none, none, none])))) (hV : ∀ k, V a k = 0) : Sp D z0 1 1 100 mX8_init [.ref a] L V (a + 1) (fun v L' V' nx' => v = none ∧ nx' = a + 2 ∧ mkd L L' V V' a (a + 2) ∧ sTp L' a ∧ TP V' a [] (nI 0) (-1)) := by
  refine Sp.of 0 (by decide) rfl rfl (Nat.le_of_ble_eq_true rfl) ?_
  refine z_aload_n dX8_init_0 rfl ?_
  refine z_objInit dX8_init_1 lX8_3 w_oi w_oc (Nat.le_of_ble_eq_true rfl) (Nat.le_of_ble_eq_true rfl) ?_
  refine z_aload_n dX8_init_4 rfl ?_
  refine z_bipush (v := nI 100) dX8_init_5 rfl ?_
  refine z_newa (t := 0) (N := 100) (n := nI 100) dX8_init_7 (fun _ => rfl) (by decide) w_arr_int (nI_pos (by decide)) (nI_clamp (by decide)) rfl (Nat.le_of_ble_eq_true rfl) ⟨Nat.le_of_ble_eq_true rfl, Nat.le_of_ble_eq_true rfl⟩ ?_
  have t1 : (zsh L (a + 1) (.inl (0, 100))) a = some (.inr (.inr (8, [some .null, none, none, none, none, none]))) := (zsh_o (by omega)).trans hL
  have t2 : (zsh L (a + 1) (.inl (0, 100))) (a + 1) = some (.inl (0, 100)) := zsh_s _ _ _
  refine z_putR dX8_init_9 fX8_9 (Or.inr ⟨rfl, _, _, _, rfl, rfl⟩) ⟨rfl, rfl⟩ t1 (Nat.le_of_ble_eq_true rfl) ?_
  have t3 : (zsh (zsh L (a + 1) (.inl (0, 100))) a (.inr (.inr (8, [some (.ref (a + 1)), none, none, none, none, none])))) (a + 1) = some (.inl (0, 100)) := (zsh_o (by omega)).trans t2
  have t4 : (zsh (zsh L (a + 1) (.inl (0, 100))) a (.inr (.inr (8, [some (.ref (a + 1)), none, none, none, none, none])))) a = some (.inr (.inr (8, [some (.ref (a + 1)), none, none, none, none, none]))) := zsh_s _ _ _
  refine z_aload_n dX8_init_12 rfl ?_
  refine z_iconst (v := (-1)) dX8_init_13 rfl ?_
  refine z_putI dX8_init_14 fX8_15 t4 rfl ?_
  refine z_return dX8_init_17 (Nat.le_of_ble_eq_true rfl) (Nat.le_of_ble_eq_true rfl) rfl ?_
  refine ⟨rfl, rfl, fun q hq => ⟨by (repeat (first | rw [zsh_o (by omega)])), by (repeat (first | rw [zset_a (by omega)] | rw [zup_a (by omega)]))⟩, ⟨t4, t3⟩, ?_⟩
  exact ⟨⟨(zup_k (by decide)).trans ((congrFun (zset_a (by omega)) 1).trans (hV 1)), (zup_k (by decide)).trans ((congrFun (zset_a (by omega)) 4).trans (hV 4)), zup_s _ _ _ _⟩, by simp, fun k hk => absurd hk (by simp)⟩

set_option maxHeartbeats 4000000 in
set_option maxRecDepth 100000 in
theorem lp_i9 {D : zD} {z0 nx : Nat} {L : zL} {V : zV} {mc ms cells slots : Nat} {a : Nat} (hA : L a = some (.inr (.inr (9, [none, none, none, some (.ref (a + 1))])))) (hW : L (a + 1) = some (.inl (0, 48))) {P : zP} (K : ∀ V2, (∀ q, q ≠ a + 1 → V2 q = V q) → (∀ r, r < 48 → V2 (a + 1) r = -2) → Z D z0 1 mc ms mX9_init cells slots 34 [some (.ref a), none] [] L V2 nx P) : ∀ (fu : Nat) (i : Nat) (V1 : zV), 48 - i = fu → i ≤ 48 → (∀ q, q ≠ a + 1 → V1 q = V q) → (∀ r, r < i → V1 (a + 1) r = -2) → Z D z0 1 mc ms mX9_init cells slots 14 [some (.ref a), some (.int (nI i))] [] L V1 nx (P) := by
  intro fu
  induction fu using Nat.strongRecOn with
  | ind fu ih =>
    intro i V1 h_fu h_0 h_1 h_2
    refine z_iload_n dX9_init_14 rfl ?_
    refine z_bipush (v := nI 48) dX9_init_15 rfl ?_
    refine z_icmp_geN (tgt := 34) dX9_init_17 (by decide) (by omega) (by omega) (fun c_17 => ?_) (fun c_17 => ?_)
    · refine z_fg 1 ?_
      exact K V1 h_1 (fun r hr => h_2 r (by omega))
    · refine z_aload_n dX9_init_20 rfl ?_
      refine z_getR dX9_init_21 fX9_9 (by first | assumption | exact And.left (by assumption)) rfl ?_
      refine z_iload_n dX9_init_24 rfl ?_
      refine z_bipush (v := (-2)) dX9_init_25 rfl ?_
      refine z_iastN dX9_init_27 (by first | assumption | exact And.left (by assumption)) (by omega) (by decide) ?_
      refine z_incN dX9_init_28 rfl rfl ?_
      refine z_goto (tgt := 14) dX9_init_31 (by decide) ?_
      refine ih _ (by omega) (i + 1) _ rfl (by omega) (fun q hq => by rw [zup_a hq]; exact h_1 q hq) (fun r hr => ?_)
      by_cases e : r = i
      · rw [e, zup_s]
      · rw [zup_k e]
        exact h_2 r (by omega)

set_option maxHeartbeats 4000000 in
set_option maxRecDepth 100000 in
theorem i_X9 {D : zD} {z0 : Nat} {L : zL} {V : zV} {a : Nat} (hL : L a = some (.inr (.inr (9, [none, none, none, some .null])))) (hV : ∀ k, V a k = 0) : Sp D z0 1 1 48 mX9_init [.ref a] L V (a + 1) (fun v L' V' nx' => v = none ∧ nx' = a + 2 ∧ mkd L L' V V' a (a + 2) ∧ sTr L' a ∧ TR V' a (false, 0, fun _ => none)) := by
  refine Sp.of 1 (by decide) rfl rfl (Nat.le_of_ble_eq_true rfl) ?_
  refine z_aload_n dX9_init_0 rfl ?_
  refine z_objInit dX9_init_1 lX9_3 w_oi w_oc (Nat.le_of_ble_eq_true rfl) (Nat.le_of_ble_eq_true rfl) ?_
  refine z_aload_n dX9_init_4 rfl ?_
  refine z_bipush (v := nI 48) dX9_init_5 rfl ?_
  refine z_newa (t := 0) (N := 48) (n := nI 48) dX9_init_7 (fun _ => rfl) (by decide) w_arr_int (nI_pos (by decide)) (nI_clamp (by decide)) rfl (Nat.le_of_ble_eq_true rfl) ⟨Nat.le_of_ble_eq_true rfl, Nat.le_of_ble_eq_true rfl⟩ ?_
  have t1 : (zsh L (a + 1) (.inl (0, 48))) a = some (.inr (.inr (9, [none, none, none, some .null]))) := (zsh_o (by omega)).trans hL
  have t2 : (zsh L (a + 1) (.inl (0, 48))) (a + 1) = some (.inl (0, 48)) := zsh_s _ _ _
  refine z_putR dX9_init_9 fX9_9 (Or.inr ⟨rfl, _, _, _, rfl, rfl⟩) ⟨rfl, rfl⟩ t1 (Nat.le_of_ble_eq_true rfl) ?_
  have t3 : (zsh (zsh L (a + 1) (.inl (0, 48))) a (.inr (.inr (9, [none, none, none, some (.ref (a + 1))])))) (a + 1) = some (.inl (0, 48)) := (zsh_o (by omega)).trans t2
  have t4 : (zsh (zsh L (a + 1) (.inl (0, 48))) a (.inr (.inr (9, [none, none, none, some (.ref (a + 1))])))) a = some (.inr (.inr (9, [none, none, none, some (.ref (a + 1))]))) := zsh_s _ _ _
  refine z_iconst (v := nI 0) dX9_init_12 rfl ?_
  refine z_istore_n dX9_init_13 (Nat.le_of_ble_eq_true rfl) rfl ?_
  refine lp_i9 t4 t3 (fun V9 k1 k2 => ?_) _ 0 _ rfl (by omega) (fun q hq => rfl) (fun r hr => absurd hr (by omega))
  refine z_return dX9_init_34 (Nat.le_of_ble_eq_true rfl) (Nat.le_of_ble_eq_true rfl) rfl ?_
  refine ⟨rfl, rfl, fun q hq => ⟨by (repeat (first | rw [zsh_o (by omega)])), by (repeat (first | rw [zset_a (by omega)] | rw [zup_a (by omega)] | rw [k1 _ (by omega)]))⟩, ⟨t4, t3⟩, ?_⟩
  exact ⟨by rw [k1 a (by omega), zset_a (by omega), hV 0, zb_f (by simp)], by rw [k1 a (by omega), zset_a (by omega), hV 1] <;> rfl, by rw [k1 a (by omega), zset_a (by omega), hV 2, cn_0 (fun r _ => by simp)] <;> rfl, fun r hr => k2 r hr, by decide, fun r p h => by cases h⟩

set_option maxHeartbeats 4000000 in
set_option maxRecDepth 100000 in
theorem lp_i10 {D : zD} {z0 nx : Nat} {L : zL} {V : zV} {mc ms cells slots : Nat} {a : Nat} (hA : L a = some (.inr (.inr (10, [some (.ref (a + 1)), some (.ref (a + 2)), some (.ref (a + 3))])))) (hW : L (a + 2) = some (.inl (0, 384))) (hZ : L (a + 3) = some (.inl (0, 48))) {P : zP} (K : ∀ V2, (∀ q, q ≠ a + 2 → q ≠ a + 3 → V2 q = V q) → (∀ r, r < 48 → V2 (a + 2) (r * 8) = -1 ∧ V2 (a + 3) r = nI 1) → Z D z0 1 mc ms mX10_init cells slots 61 [some (.ref a), none] [] L V2 nx P) : ∀ (fu : Nat) (i : Nat) (V1 : zV), 48 - i = fu → i ≤ 48 → (∀ q, q ≠ a + 2 → q ≠ a + 3 → V1 q = V q) → (∀ r, r < i → V1 (a + 2) (r * 8) = -1 ∧ V1 (a + 3) r = nI 1) → Z D z0 1 mc ms mX10_init cells slots 32 [some (.ref a), some (.int (nI i))] [] L V1 nx (P) := by
  intro fu
  induction fu using Nat.strongRecOn with
  | ind fu ih =>
    intro i V1 h_fu h_0 h_1 h_2
    refine z_iload_n dX10_init_32 rfl ?_
    refine z_bipush (v := nI 48) dX10_init_33 rfl ?_
    refine z_icmp_geN (tgt := 61) dX10_init_35 (by decide) (by omega) (by omega) (fun c_35 => ?_) (fun c_35 => ?_)
    · refine z_fg 1 ?_
      exact K V1 h_1 (fun r hr => h_2 r (by omega))
    · refine z_aload_n dX10_init_38 rfl ?_
      refine z_getR dX10_init_39 fX10_15 (by first | assumption | exact And.left (by assumption)) rfl ?_
      refine z_iload_n dX10_init_42 rfl ?_
      refine z_bipush (v := nI 8) dX10_init_43 rfl ?_
      refine z_mulN dX10_init_45 ?_
      refine z_iconst (v := (-1)) dX10_init_46 rfl ?_
      refine z_iastN dX10_init_47 (by first | assumption | exact And.left (by assumption)) (by omega) (by decide) ?_
      refine z_aload_n dX10_init_48 rfl ?_
      refine z_getR dX10_init_49 fX10_18 (by first | assumption | exact And.left (by assumption)) rfl ?_
      refine z_iload_n dX10_init_52 rfl ?_
      refine z_iconst (v := nI 1) dX10_init_53 rfl ?_
      refine z_iastN dX10_init_54 (by first | assumption | exact And.left (by assumption)) (by omega) (by decide) ?_
      refine z_incN dX10_init_55 rfl rfl ?_
      refine z_goto (tgt := 32) dX10_init_58 (by decide) ?_
      refine ih _ (by omega) (i + 1) _ rfl (by omega) (fun q hq hq2 => by rw [zup_a hq2, zup_a hq]; exact h_1 q hq hq2) (fun r hr => ?_)
      by_cases e : r = i
      · rw [e, zup_s, zup_a (by omega), zup_s]
        exact ⟨rfl, rfl⟩
      · rw [zup_a (by omega), zup_k (by omega), zup_k e, zup_a (by omega)]
        exact h_2 r (by omega)

set_option maxHeartbeats 4000000 in
set_option maxRecDepth 100000 in
theorem i_X10 {D : zD} {z0 : Nat} {L : zL} {V : zV} {a : Nat} (hL : L a = some (.inr (.inr (10, [some .null, some .null, some .null])))) (hV : ∀ k, V a k = 0) : Sp D z0 1 3 816 mX10_init [.ref a] L V (a + 1) (fun v L' V' nx' => v = none ∧ nx' = a + 4 ∧ mkd L L' V V' a (a + 4) ∧ sVe L' a ∧ VE V' a (fun _ => [(0, none)])) := by
  refine Sp.of 1 (by decide) rfl rfl (Nat.le_of_ble_eq_true rfl) ?_
  refine z_aload_n dX10_init_0 rfl ?_
  refine z_objInit dX10_init_1 lX10_3 w_oi w_oc (Nat.le_of_ble_eq_true rfl) (Nat.le_of_ble_eq_true rfl) ?_
  refine z_aload_n dX10_init_4 rfl ?_
  refine z_sipush (v := nI 384) dX10_init_5 rfl ?_
  refine z_newa (t := 0) (N := 384) (n := nI 384) dX10_init_8 (fun _ => rfl) (by decide) w_arr_int (nI_pos (by decide)) (nI_clamp (by decide)) rfl (Nat.le_of_ble_eq_true rfl) ⟨Nat.le_of_ble_eq_true rfl, Nat.le_of_ble_eq_true rfl⟩ ?_
  have t1 : (zsh L (a + 1) (.inl (0, 384))) a = some (.inr (.inr (10, [some .null, some .null, some .null]))) := (zsh_o (by omega)).trans hL
  have t2 : (zsh L (a + 1) (.inl (0, 384))) (a + 1) = some (.inl (0, 384)) := zsh_s _ _ _
  refine z_putR dX10_init_10 fX10_9 (Or.inr ⟨rfl, _, _, _, rfl, rfl⟩) ⟨rfl, rfl⟩ t1 (Nat.le_of_ble_eq_true rfl) ?_
  have t3 : (zsh (zsh L (a + 1) (.inl (0, 384))) a (.inr (.inr (10, [some (.ref (a + 1)), some .null, some .null])))) (a + 1) = some (.inl (0, 384)) := (zsh_o (by omega)).trans t2
  have t4 : (zsh (zsh L (a + 1) (.inl (0, 384))) a (.inr (.inr (10, [some (.ref (a + 1)), some .null, some .null])))) a = some (.inr (.inr (10, [some (.ref (a + 1)), some .null, some .null]))) := zsh_s _ _ _
  refine z_aload_n dX10_init_13 rfl ?_
  refine z_sipush (v := nI 384) dX10_init_14 rfl ?_
  refine z_newa (t := 0) (N := 384) (n := nI 384) dX10_init_17 (fun _ => rfl) (by decide) w_arr_int (nI_pos (by decide)) (nI_clamp (by decide)) rfl (Nat.le_of_ble_eq_true rfl) ⟨Nat.le_of_ble_eq_true rfl, Nat.le_of_ble_eq_true rfl⟩ ?_
  have t5 : (zsh (zsh (zsh L (a + 1) (.inl (0, 384))) a (.inr (.inr (10, [some (.ref (a + 1)), some .null, some .null])))) (a + 2) (.inl (0, 384))) a = some (.inr (.inr (10, [some (.ref (a + 1)), some .null, some .null]))) := (zsh_o (by omega)).trans t4
  have t6 : (zsh (zsh (zsh L (a + 1) (.inl (0, 384))) a (.inr (.inr (10, [some (.ref (a + 1)), some .null, some .null])))) (a + 2) (.inl (0, 384))) (a + 1) = some (.inl (0, 384)) := (zsh_o (by omega)).trans t3
  have t7 : (zsh (zsh (zsh L (a + 1) (.inl (0, 384))) a (.inr (.inr (10, [some (.ref (a + 1)), some .null, some .null])))) (a + 2) (.inl (0, 384))) (a + 2) = some (.inl (0, 384)) := zsh_s _ _ _
  refine z_putR dX10_init_19 fX10_15 (Or.inr ⟨rfl, _, _, _, rfl, rfl⟩) ⟨rfl, rfl⟩ t5 (Nat.le_of_ble_eq_true rfl) ?_
  have t8 : (zsh (zsh (zsh (zsh L (a + 1) (.inl (0, 384))) a (.inr (.inr (10, [some (.ref (a + 1)), some .null, some .null])))) (a + 2) (.inl (0, 384))) a (.inr (.inr (10, [some (.ref (a + 1)), some (.ref (a + 2)), some .null])))) (a + 1) = some (.inl (0, 384)) := (zsh_o (by omega)).trans t6
  have t9 : (zsh (zsh (zsh (zsh L (a + 1) (.inl (0, 384))) a (.inr (.inr (10, [some (.ref (a + 1)), some .null, some .null])))) (a + 2) (.inl (0, 384))) a (.inr (.inr (10, [some (.ref (a + 1)), some (.ref (a + 2)), some .null])))) (a + 2) = some (.inl (0, 384)) := (zsh_o (by omega)).trans t7
  have t10 : (zsh (zsh (zsh (zsh L (a + 1) (.inl (0, 384))) a (.inr (.inr (10, [some (.ref (a + 1)), some .null, some .null])))) (a + 2) (.inl (0, 384))) a (.inr (.inr (10, [some (.ref (a + 1)), some (.ref (a + 2)), some .null])))) a = some (.inr (.inr (10, [some (.ref (a + 1)), some (.ref (a + 2)), some .null]))) := zsh_s _ _ _
  refine z_aload_n dX10_init_22 rfl ?_
  refine z_bipush (v := nI 48) dX10_init_23 rfl ?_
  refine z_newa (t := 0) (N := 48) (n := nI 48) dX10_init_25 (fun _ => rfl) (by decide) w_arr_int (nI_pos (by decide)) (nI_clamp (by decide)) rfl (Nat.le_of_ble_eq_true rfl) ⟨Nat.le_of_ble_eq_true rfl, Nat.le_of_ble_eq_true rfl⟩ ?_
  have t11 : (zsh (zsh (zsh (zsh (zsh L (a + 1) (.inl (0, 384))) a (.inr (.inr (10, [some (.ref (a + 1)), some .null, some .null])))) (a + 2) (.inl (0, 384))) a (.inr (.inr (10, [some (.ref (a + 1)), some (.ref (a + 2)), some .null])))) (a + 3) (.inl (0, 48))) a = some (.inr (.inr (10, [some (.ref (a + 1)), some (.ref (a + 2)), some .null]))) := (zsh_o (by omega)).trans t10
  have t12 : (zsh (zsh (zsh (zsh (zsh L (a + 1) (.inl (0, 384))) a (.inr (.inr (10, [some (.ref (a + 1)), some .null, some .null])))) (a + 2) (.inl (0, 384))) a (.inr (.inr (10, [some (.ref (a + 1)), some (.ref (a + 2)), some .null])))) (a + 3) (.inl (0, 48))) (a + 1) = some (.inl (0, 384)) := (zsh_o (by omega)).trans t8
  have t13 : (zsh (zsh (zsh (zsh (zsh L (a + 1) (.inl (0, 384))) a (.inr (.inr (10, [some (.ref (a + 1)), some .null, some .null])))) (a + 2) (.inl (0, 384))) a (.inr (.inr (10, [some (.ref (a + 1)), some (.ref (a + 2)), some .null])))) (a + 3) (.inl (0, 48))) (a + 2) = some (.inl (0, 384)) := (zsh_o (by omega)).trans t9
  have t14 : (zsh (zsh (zsh (zsh (zsh L (a + 1) (.inl (0, 384))) a (.inr (.inr (10, [some (.ref (a + 1)), some .null, some .null])))) (a + 2) (.inl (0, 384))) a (.inr (.inr (10, [some (.ref (a + 1)), some (.ref (a + 2)), some .null])))) (a + 3) (.inl (0, 48))) (a + 3) = some (.inl (0, 48)) := zsh_s _ _ _
  refine z_putR dX10_init_27 fX10_18 (Or.inr ⟨rfl, _, _, _, rfl, rfl⟩) ⟨rfl, rfl⟩ t11 (Nat.le_of_ble_eq_true rfl) ?_
  have t15 : (zsh (zsh (zsh (zsh (zsh (zsh L (a + 1) (.inl (0, 384))) a (.inr (.inr (10, [some (.ref (a + 1)), some .null, some .null])))) (a + 2) (.inl (0, 384))) a (.inr (.inr (10, [some (.ref (a + 1)), some (.ref (a + 2)), some .null])))) (a + 3) (.inl (0, 48))) a (.inr (.inr (10, [some (.ref (a + 1)), some (.ref (a + 2)), some (.ref (a + 3))])))) (a + 1) = some (.inl (0, 384)) := (zsh_o (by omega)).trans t12
  have t16 : (zsh (zsh (zsh (zsh (zsh (zsh L (a + 1) (.inl (0, 384))) a (.inr (.inr (10, [some (.ref (a + 1)), some .null, some .null])))) (a + 2) (.inl (0, 384))) a (.inr (.inr (10, [some (.ref (a + 1)), some (.ref (a + 2)), some .null])))) (a + 3) (.inl (0, 48))) a (.inr (.inr (10, [some (.ref (a + 1)), some (.ref (a + 2)), some (.ref (a + 3))])))) (a + 2) = some (.inl (0, 384)) := (zsh_o (by omega)).trans t13
  have t17 : (zsh (zsh (zsh (zsh (zsh (zsh L (a + 1) (.inl (0, 384))) a (.inr (.inr (10, [some (.ref (a + 1)), some .null, some .null])))) (a + 2) (.inl (0, 384))) a (.inr (.inr (10, [some (.ref (a + 1)), some (.ref (a + 2)), some .null])))) (a + 3) (.inl (0, 48))) a (.inr (.inr (10, [some (.ref (a + 1)), some (.ref (a + 2)), some (.ref (a + 3))])))) (a + 3) = some (.inl (0, 48)) := (zsh_o (by omega)).trans t14
  have t18 : (zsh (zsh (zsh (zsh (zsh (zsh L (a + 1) (.inl (0, 384))) a (.inr (.inr (10, [some (.ref (a + 1)), some .null, some .null])))) (a + 2) (.inl (0, 384))) a (.inr (.inr (10, [some (.ref (a + 1)), some (.ref (a + 2)), some .null])))) (a + 3) (.inl (0, 48))) a (.inr (.inr (10, [some (.ref (a + 1)), some (.ref (a + 2)), some (.ref (a + 3))])))) a = some (.inr (.inr (10, [some (.ref (a + 1)), some (.ref (a + 2)), some (.ref (a + 3))]))) := zsh_s _ _ _
  refine z_iconst (v := nI 0) dX10_init_30 rfl ?_
  refine z_istore_n dX10_init_31 (Nat.le_of_ble_eq_true rfl) rfl ?_
  refine lp_i10 t18 t16 t17 (fun V9 k1 k2 => ?_) _ 0 _ rfl (by omega) (fun q hq hq2 => rfl) (fun r hr => absurd hr (by omega))
  refine z_return dX10_init_61 (Nat.le_of_ble_eq_true rfl) (Nat.le_of_ble_eq_true rfl) rfl ?_
  refine ⟨rfl, rfl, fun q hq => ⟨by (repeat (first | rw [zsh_o (by omega)])), by (repeat (first | rw [zset_a (by omega)] | rw [zup_a (by omega)] | rw [k1 _ (by omega) (by omega)]))⟩, ⟨t18, t15, t16, t17⟩, ?_⟩
  exact fun r hr => ⟨(k2 r hr).2, by simp, by simp, fun k hk => by
    have hk0 : k = 0 := by simp at hk; omega
    subst hk0
    exact ⟨by rw [k1 (a + 1) (by omega) (by omega), zset_a (by omega), zset_a (by omega), zset_s]; rfl, (k2 r hr).1, by show 0 < 1000000; decide, fun p h => by cases h⟩⟩

set_option maxHeartbeats 4000000 in
set_option maxRecDepth 100000 in
theorem i_X5 {D : zD} {z0 : Nat} {L : zL} {V : zV} {a : Nat} (hL : L a = some (.inr (.inr (5, [some .null, none, some .null])))) (hV : ∀ k, V a k = 0) : Sp D z0 2 8 25 mX5_init [.ref a] L V (a + 1) (fun v L' V' nx' => v = none ∧ nx' = a + 9 ∧ mkd L L' V V' a (a + 9) ∧ sQu L' a ∧ zer V' a (a + 9)) := by
  refine Sp.of 1 (by decide) rfl rfl (Nat.le_of_ble_eq_true rfl) ?_
  refine z_aload_n dX5_init_0 rfl ?_
  refine z_objInit dX5_init_1 lX5_3 w_oi w_oc (Nat.le_of_ble_eq_true rfl) (Nat.le_of_ble_eq_true rfl) ?_
  refine z_aload_n dX5_init_4 rfl ?_
  refine z_iconst (v := nI 4) dX5_init_5 rfl ?_
  refine z_newq (t := 6) (N := 4) (n := nI 4) dX5_init_6 (fun _ => rfl) clX5_9 (by decide) (nI_pos (by decide)) (nI_clamp (by decide)) (Nat.le_of_ble_eq_true rfl) ⟨Nat.le_of_ble_eq_true rfl, Nat.le_of_ble_eq_true rfl⟩ ?_
  have t1 : (zsh L (a + 1) (.inr (.inl (6, List.replicate 4 none)))) a = some (.inr (.inr (5, [some .null, none, some .null]))) := (zsh_o (by omega)).trans hL
  have t2 : (zsh L (a + 1) (.inr (.inl (6, List.replicate 4 none)))) (a + 1) = some (.inr (.inl (6, [none, none, none, none]))) := zsh_s _ _ _
  refine z_putR dX5_init_9 fX5_11 (Or.inr ⟨rfl, _, _, _, rfl, rfl⟩) ⟨rfl, rfl⟩ t1 (Nat.le_of_ble_eq_true rfl) ?_
  have t3 : (zsh (zsh L (a + 1) (.inr (.inl (6, List.replicate 4 none)))) a (.inr (.inr (5, [some (.ref (a + 1)), none, some .null])))) (a + 1) = some (.inr (.inl (6, [none, none, none, none]))) := (zsh_o (by omega)).trans t2
  have t4 : (zsh (zsh L (a + 1) (.inr (.inl (6, List.replicate 4 none)))) a (.inr (.inr (5, [some (.ref (a + 1)), none, some .null])))) a = some (.inr (.inr (5, [some (.ref (a + 1)), none, some .null]))) := zsh_s _ _ _
  refine z_aload_n dX5_init_12 rfl ?_
  refine z_new (N := 3) dX5_init_13 nwX5_17 rfl ⟨Nat.le_of_ble_eq_true rfl, Nat.le_of_ble_eq_true rfl⟩ ?_
  have t5 : (zsh (zsh (zsh L (a + 1) (.inr (.inl (6, List.replicate 4 none)))) a (.inr (.inr (5, [some (.ref (a + 1)), none, some .null])))) (a + 2) (.inr (.inr (4, [some .null, some .null, none])))) a = some (.inr (.inr (5, [some (.ref (a + 1)), none, some .null]))) := (zsh_o (by omega)).trans t4
  have t6 : (zsh (zsh (zsh L (a + 1) (.inr (.inl (6, List.replicate 4 none)))) a (.inr (.inr (5, [some (.ref (a + 1)), none, some .null])))) (a + 2) (.inr (.inr (4, [some .null, some .null, none])))) (a + 1) = some (.inr (.inl (6, [none, none, none, none]))) := (zsh_o (by omega)).trans t3
  refine z_dup dX5_init_16 rfl ?_
  refine z_callIN0p dX5_init_17 kX4_init lX5_19 (i_X4 (a := (a + 2)) (zsh_s _ _ _) (fun _ => congrFun (zset_s _ _ _) _)) (Nat.le_of_ble_eq_true rfl) (Nat.le_of_ble_eq_true rfl) ⟨Nat.le_of_ble_eq_true rfl, Nat.le_of_ble_eq_true rfl⟩ ?_
  intro v1 L1 V1 n1 h1
  obtain ⟨rfl, rfl, m1, s1, c1⟩ := h1
  have t7 : L1 a = some (.inr (.inr (5, [some (.ref (a + 1)), none, some .null]))) := (m1 _ (by omega)).1.trans t5
  have t8 : L1 (a + 1) = some (.inr (.inl (6, [none, none, none, none]))) := (m1 _ (by omega)).1.trans t6
  refine z_putR dX5_init_20 fX5_20 (Or.inr ⟨rfl, _, _, _, rfl, rfl⟩) ⟨rfl, rfl⟩ t7 (Nat.le_of_ble_eq_true rfl) ?_
  have t9 : (zsh L1 a (.inr (.inr (5, [some (.ref (a + 1)), none, some (.ref (a + 2))])))) (a + 1) = some (.inr (.inl (6, [none, none, none, none]))) := (zsh_o (by omega)).trans t8
  have t10 : (zsh L1 a (.inr (.inr (5, [some (.ref (a + 1)), none, some (.ref (a + 2))])))) a = some (.inr (.inr (5, [some (.ref (a + 1)), none, some (.ref (a + 2))]))) := zsh_s _ _ _
  refine z_iconst (v := nI 0) dX5_init_23 rfl ?_
  refine z_istore_n dX5_init_24 (Nat.le_of_ble_eq_true rfl) rfl ?_
  refine z_iload_n dX5_init_25 rfl ?_
  refine z_iconst (v := nI 4) dX5_init_26 rfl ?_
  refine z_icmp_geN (tgt := 49) dX5_init_27 (by decide) (by omega) (by omega) (fun c => absurd c (by omega)) (fun _ => ?_)
  refine z_aload_n dX5_init_30 rfl ?_
  refine z_getR dX5_init_31 fX5_11 t10 rfl ?_
  refine z_iload_n dX5_init_34 rfl ?_
  refine z_new (N := 3) dX5_init_35 nwX5_9 rfl ⟨Nat.le_of_ble_eq_true rfl, Nat.le_of_ble_eq_true rfl⟩ ?_
  have t11 : (zsh (zsh L1 a (.inr (.inr (5, [some (.ref (a + 1)), none, some (.ref (a + 2))])))) (a + 5) (.inr (.inr (0, [none, none, none])))) a = some (.inr (.inr (5, [some (.ref (a + 1)), none, some (.ref (a + 2))]))) := (zsh_o (by omega)).trans t10
  have t12 : (zsh (zsh L1 a (.inr (.inr (5, [some (.ref (a + 1)), none, some (.ref (a + 2))])))) (a + 5) (.inr (.inr (0, [none, none, none])))) (a + 1) = some (.inr (.inl (6, [none, none, none, none]))) := (zsh_o (by omega)).trans t9
  refine z_dup dX5_init_38 rfl ?_
  refine z_callIN0p dX5_init_39 kX0_init lX5_24 (i_X0 (a := (a + 5)) (zsh_s _ _ _) (fun _ => congrFun (zset_s _ _ _) _)) (Nat.le_of_ble_eq_true rfl) (Nat.le_of_ble_eq_true rfl) ⟨Nat.le_of_ble_eq_true rfl, Nat.le_of_ble_eq_true rfl⟩ ?_
  intro v2 L2 V2 n2 h2
  obtain ⟨rfl, rfl, m2, s2, c2⟩ := h2
  have t13 : L2 a = some (.inr (.inr (5, [some (.ref (a + 1)), none, some (.ref (a + 2))]))) := (m2 _ (by omega)).1.trans t11
  have t14 : L2 (a + 1) = some (.inr (.inl (6, [none, none, none, none]))) := (m2 _ (by omega)).1.trans t12
  refine z_aastN (i := 0) dX5_init_42 t14 (fun _ => rfl) s2 rfl ⟨Nat.le_of_ble_eq_true rfl, Nat.le_of_ble_eq_true rfl⟩ ?_
  have t15 : (zsh L2 (a + 1) (.inr (.inl (6, [some (a + 5), none, none, none])))) a = some (.inr (.inr (5, [some (.ref (a + 1)), none, some (.ref (a + 2))]))) := (zsh_o (by omega)).trans t13
  have t16 : (zsh L2 (a + 1) (.inr (.inl (6, [some (a + 5), none, none, none])))) (a + 1) = some (.inr (.inl (6, [some (a + 5), none, none, none]))) := zsh_s _ _ _
  refine z_iinc dX5_init_43 rfl (show nI 0 + Int32.ofInt (1) = nI 1 from by decide) rfl ?_
  refine z_goto (tgt := 25) dX5_init_46 (by decide) ?_
  refine z_iload_n dX5_init_25 rfl ?_
  refine z_iconst (v := nI 4) dX5_init_26 rfl ?_
  refine z_icmp_geN (tgt := 49) dX5_init_27 (by decide) (by omega) (by omega) (fun c => absurd c (by omega)) (fun _ => ?_)
  refine z_aload_n dX5_init_30 rfl ?_
  refine z_getR dX5_init_31 fX5_11 t15 rfl ?_
  refine z_iload_n dX5_init_34 rfl ?_
  refine z_new (N := 3) dX5_init_35 nwX5_9 rfl ⟨Nat.le_of_ble_eq_true rfl, Nat.le_of_ble_eq_true rfl⟩ ?_
  have t17 : (zsh (zsh L2 (a + 1) (.inr (.inl (6, [some (a + 5), none, none, none])))) (a + 6) (.inr (.inr (0, [none, none, none])))) a = some (.inr (.inr (5, [some (.ref (a + 1)), none, some (.ref (a + 2))]))) := (zsh_o (by omega)).trans t15
  have t18 : (zsh (zsh L2 (a + 1) (.inr (.inl (6, [some (a + 5), none, none, none])))) (a + 6) (.inr (.inr (0, [none, none, none])))) (a + 1) = some (.inr (.inl (6, [some (a + 5), none, none, none]))) := (zsh_o (by omega)).trans t16
  refine z_dup dX5_init_38 rfl ?_
  refine z_callIN0p dX5_init_39 kX0_init lX5_24 (i_X0 (a := (a + 6)) (zsh_s _ _ _) (fun _ => congrFun (zset_s _ _ _) _)) (Nat.le_of_ble_eq_true rfl) (Nat.le_of_ble_eq_true rfl) ⟨Nat.le_of_ble_eq_true rfl, Nat.le_of_ble_eq_true rfl⟩ ?_
  intro v3 L3 V3 n3 h3
  obtain ⟨rfl, rfl, m3, s3, c3⟩ := h3
  have t19 : L3 a = some (.inr (.inr (5, [some (.ref (a + 1)), none, some (.ref (a + 2))]))) := (m3 _ (by omega)).1.trans t17
  have t20 : L3 (a + 1) = some (.inr (.inl (6, [some (a + 5), none, none, none]))) := (m3 _ (by omega)).1.trans t18
  refine z_aastN (i := 1) dX5_init_42 t20 (fun _ => rfl) s3 rfl ⟨Nat.le_of_ble_eq_true rfl, Nat.le_of_ble_eq_true rfl⟩ ?_
  have t21 : (zsh L3 (a + 1) (.inr (.inl (6, [some (a + 5), some (a + 6), none, none])))) a = some (.inr (.inr (5, [some (.ref (a + 1)), none, some (.ref (a + 2))]))) := (zsh_o (by omega)).trans t19
  have t22 : (zsh L3 (a + 1) (.inr (.inl (6, [some (a + 5), some (a + 6), none, none])))) (a + 1) = some (.inr (.inl (6, [some (a + 5), some (a + 6), none, none]))) := zsh_s _ _ _
  refine z_iinc dX5_init_43 rfl (show nI 1 + Int32.ofInt (1) = nI 2 from by decide) rfl ?_
  refine z_goto (tgt := 25) dX5_init_46 (by decide) ?_
  refine z_iload_n dX5_init_25 rfl ?_
  refine z_iconst (v := nI 4) dX5_init_26 rfl ?_
  refine z_icmp_geN (tgt := 49) dX5_init_27 (by decide) (by omega) (by omega) (fun c => absurd c (by omega)) (fun _ => ?_)
  refine z_aload_n dX5_init_30 rfl ?_
  refine z_getR dX5_init_31 fX5_11 t21 rfl ?_
  refine z_iload_n dX5_init_34 rfl ?_
  refine z_new (N := 3) dX5_init_35 nwX5_9 rfl ⟨Nat.le_of_ble_eq_true rfl, Nat.le_of_ble_eq_true rfl⟩ ?_
  have t23 : (zsh (zsh L3 (a + 1) (.inr (.inl (6, [some (a + 5), some (a + 6), none, none])))) (a + 7) (.inr (.inr (0, [none, none, none])))) a = some (.inr (.inr (5, [some (.ref (a + 1)), none, some (.ref (a + 2))]))) := (zsh_o (by omega)).trans t21
  have t24 : (zsh (zsh L3 (a + 1) (.inr (.inl (6, [some (a + 5), some (a + 6), none, none])))) (a + 7) (.inr (.inr (0, [none, none, none])))) (a + 1) = some (.inr (.inl (6, [some (a + 5), some (a + 6), none, none]))) := (zsh_o (by omega)).trans t22
  refine z_dup dX5_init_38 rfl ?_
  refine z_callIN0p dX5_init_39 kX0_init lX5_24 (i_X0 (a := (a + 7)) (zsh_s _ _ _) (fun _ => congrFun (zset_s _ _ _) _)) (Nat.le_of_ble_eq_true rfl) (Nat.le_of_ble_eq_true rfl) ⟨Nat.le_of_ble_eq_true rfl, Nat.le_of_ble_eq_true rfl⟩ ?_
  intro v4 L4 V4 n4 h4
  obtain ⟨rfl, rfl, m4, s4, c4⟩ := h4
  have t25 : L4 a = some (.inr (.inr (5, [some (.ref (a + 1)), none, some (.ref (a + 2))]))) := (m4 _ (by omega)).1.trans t23
  have t26 : L4 (a + 1) = some (.inr (.inl (6, [some (a + 5), some (a + 6), none, none]))) := (m4 _ (by omega)).1.trans t24
  refine z_aastN (i := 2) dX5_init_42 t26 (fun _ => rfl) s4 rfl ⟨Nat.le_of_ble_eq_true rfl, Nat.le_of_ble_eq_true rfl⟩ ?_
  have t27 : (zsh L4 (a + 1) (.inr (.inl (6, [some (a + 5), some (a + 6), some (a + 7), none])))) a = some (.inr (.inr (5, [some (.ref (a + 1)), none, some (.ref (a + 2))]))) := (zsh_o (by omega)).trans t25
  have t28 : (zsh L4 (a + 1) (.inr (.inl (6, [some (a + 5), some (a + 6), some (a + 7), none])))) (a + 1) = some (.inr (.inl (6, [some (a + 5), some (a + 6), some (a + 7), none]))) := zsh_s _ _ _
  refine z_iinc dX5_init_43 rfl (show nI 2 + Int32.ofInt (1) = nI 3 from by decide) rfl ?_
  refine z_goto (tgt := 25) dX5_init_46 (by decide) ?_
  refine z_iload_n dX5_init_25 rfl ?_
  refine z_iconst (v := nI 4) dX5_init_26 rfl ?_
  refine z_icmp_geN (tgt := 49) dX5_init_27 (by decide) (by omega) (by omega) (fun c => absurd c (by omega)) (fun _ => ?_)
  refine z_aload_n dX5_init_30 rfl ?_
  refine z_getR dX5_init_31 fX5_11 t27 rfl ?_
  refine z_iload_n dX5_init_34 rfl ?_
  refine z_new (N := 3) dX5_init_35 nwX5_9 rfl ⟨Nat.le_of_ble_eq_true rfl, Nat.le_of_ble_eq_true rfl⟩ ?_
  have t29 : (zsh (zsh L4 (a + 1) (.inr (.inl (6, [some (a + 5), some (a + 6), some (a + 7), none])))) (a + 8) (.inr (.inr (0, [none, none, none])))) a = some (.inr (.inr (5, [some (.ref (a + 1)), none, some (.ref (a + 2))]))) := (zsh_o (by omega)).trans t27
  have t30 : (zsh (zsh L4 (a + 1) (.inr (.inl (6, [some (a + 5), some (a + 6), some (a + 7), none])))) (a + 8) (.inr (.inr (0, [none, none, none])))) (a + 1) = some (.inr (.inl (6, [some (a + 5), some (a + 6), some (a + 7), none]))) := (zsh_o (by omega)).trans t28
  refine z_dup dX5_init_38 rfl ?_
  refine z_callIN0p dX5_init_39 kX0_init lX5_24 (i_X0 (a := (a + 8)) (zsh_s _ _ _) (fun _ => congrFun (zset_s _ _ _) _)) (Nat.le_of_ble_eq_true rfl) (Nat.le_of_ble_eq_true rfl) ⟨Nat.le_of_ble_eq_true rfl, Nat.le_of_ble_eq_true rfl⟩ ?_
  intro v5 L5 V5 n5 h5
  obtain ⟨rfl, rfl, m5, s5, c5⟩ := h5
  have t31 : L5 a = some (.inr (.inr (5, [some (.ref (a + 1)), none, some (.ref (a + 2))]))) := (m5 _ (by omega)).1.trans t29
  have t32 : L5 (a + 1) = some (.inr (.inl (6, [some (a + 5), some (a + 6), some (a + 7), none]))) := (m5 _ (by omega)).1.trans t30
  refine z_aastN (i := 3) dX5_init_42 t32 (fun _ => rfl) s5 rfl ⟨Nat.le_of_ble_eq_true rfl, Nat.le_of_ble_eq_true rfl⟩ ?_
  have t33 : (zsh L5 (a + 1) (.inr (.inl (6, [some (a + 5), some (a + 6), some (a + 7), some (a + 8)])))) a = some (.inr (.inr (5, [some (.ref (a + 1)), none, some (.ref (a + 2))]))) := (zsh_o (by omega)).trans t31
  have t34 : (zsh L5 (a + 1) (.inr (.inl (6, [some (a + 5), some (a + 6), some (a + 7), some (a + 8)])))) (a + 1) = some (.inr (.inl (6, [some (a + 5), some (a + 6), some (a + 7), some (a + 8)]))) := zsh_s _ _ _
  refine z_iinc dX5_init_43 rfl (show nI 3 + Int32.ofInt (1) = nI 4 from by decide) rfl ?_
  refine z_goto (tgt := 25) dX5_init_46 (by decide) ?_
  refine z_iload_n dX5_init_25 rfl ?_
  refine z_iconst (v := nI 4) dX5_init_26 rfl ?_
  refine z_icmp_geN (tgt := 49) dX5_init_27 (by decide) (by omega) (by omega) (fun _ => ?_) (fun c => absurd c (by omega))
  refine z_return dX5_init_49 (Nat.le_of_ble_eq_true rfl) (Nat.le_of_ble_eq_true rfl) rfl ?_
  refine ⟨rfl, rfl, fun q hq => ⟨by (repeat (first | rw [zsh_o (by omega)] | rw [(m5 _ (by omega)).1] | rw [(m4 _ (by omega)).1] | rw [(m3 _ (by omega)).1] | rw [(m2 _ (by omega)).1] | rw [(m1 _ (by omega)).1])), by (repeat (first | rw [zset_a (by omega)] | rw [zup_a (by omega)] | rw [(m5 _ (by omega)).2] | rw [(m4 _ (by omega)).2] | rw [(m3 _ (by omega)).2] | rw [(m2 _ (by omega)).2] | rw [(m1 _ (by omega)).2]))⟩, ⟨t33, t34, s1.cg (fun q h1 h2 => by (repeat (first | rw [zsh_o (by omega)] | rw [(m5 _ (by omega)).1] | rw [(m4 _ (by omega)).1] | rw [(m3 _ (by omega)).1] | rw [(m2 _ (by omega)).1] | rw [(m1 _ (by omega)).1]))), fun k hk => by
      rcases (show k = 0 ∨ k = 1 ∨ k = 2 ∨ k = 3 by omega) with rfl | rfl | rfl | rfl
      · exact s2.cg (fun q h1 h2 => by (repeat (first | rw [zsh_o (by omega)] | rw [(m5 _ (by omega)).1] | rw [(m4 _ (by omega)).1] | rw [(m3 _ (by omega)).1] | rw [(m2 _ (by omega)).1] | rw [(m1 _ (by omega)).1])))
      · exact s3.cg (fun q h1 h2 => by (repeat (first | rw [zsh_o (by omega)] | rw [(m5 _ (by omega)).1] | rw [(m4 _ (by omega)).1] | rw [(m3 _ (by omega)).1] | rw [(m2 _ (by omega)).1] | rw [(m1 _ (by omega)).1])))
      · exact s4.cg (fun q h1 h2 => by (repeat (first | rw [zsh_o (by omega)] | rw [(m5 _ (by omega)).1] | rw [(m4 _ (by omega)).1] | rw [(m3 _ (by omega)).1] | rw [(m2 _ (by omega)).1] | rw [(m1 _ (by omega)).1])))
      · exact s5.cg (fun q h1 h2 => by (repeat (first | rw [zsh_o (by omega)] | rw [(m5 _ (by omega)).1] | rw [(m4 _ (by omega)).1] | rw [(m3 _ (by omega)).1] | rw [(m2 _ (by omega)).1] | rw [(m1 _ (by omega)).1])))⟩, ?_⟩
  exact fun q h1 h2 k => by
    rcases (show q = a ∨ q = (a + 1) ∨ ((a + 2) ≤ q ∧ q < (a + 5)) ∨ ((a + 5) ≤ q ∧ q < (a + 6)) ∨ ((a + 6) ≤ q ∧ q < (a + 7)) ∨ ((a + 7) ≤ q ∧ q < (a + 8)) ∨ ((a + 8) ≤ q ∧ q < (a + 9)) by omega) with rfl | rfl | hq | hq | hq | hq | hq
    · first | exact hV k | ((repeat (first | rw [zset_a (by omega)] | rw [zup_a (by omega)] | rw [(m5 _ (by omega)).2] | rw [(m4 _ (by omega)).2] | rw [(m3 _ (by omega)).2] | rw [(m2 _ (by omega)).2] | rw [(m1 _ (by omega)).2])); exact hV k)
    · first | exact congrFun (zset_s _ _ _) k | ((repeat (first | rw [zset_a (by omega)] | rw [zup_a (by omega)] | rw [(m5 _ (by omega)).2] | rw [(m4 _ (by omega)).2] | rw [(m3 _ (by omega)).2] | rw [(m2 _ (by omega)).2] | rw [(m1 _ (by omega)).2])); exact congrFun (zset_s _ _ _) k)
    · first | exact c1 q hq.1 hq.2 k | ((repeat (first | rw [zset_a (by omega)] | rw [zup_a (by omega)] | rw [(m5 _ (by omega)).2] | rw [(m4 _ (by omega)).2] | rw [(m3 _ (by omega)).2] | rw [(m2 _ (by omega)).2] | rw [(m1 _ (by omega)).2])); exact c1 q hq.1 hq.2 k)
    · first | exact c2 q hq.1 hq.2 k | ((repeat (first | rw [zset_a (by omega)] | rw [zup_a (by omega)] | rw [(m5 _ (by omega)).2] | rw [(m4 _ (by omega)).2] | rw [(m3 _ (by omega)).2] | rw [(m2 _ (by omega)).2] | rw [(m1 _ (by omega)).2])); exact c2 q hq.1 hq.2 k)
    · first | exact c3 q hq.1 hq.2 k | ((repeat (first | rw [zset_a (by omega)] | rw [zup_a (by omega)] | rw [(m5 _ (by omega)).2] | rw [(m4 _ (by omega)).2] | rw [(m3 _ (by omega)).2] | rw [(m2 _ (by omega)).2] | rw [(m1 _ (by omega)).2])); exact c3 q hq.1 hq.2 k)
    · first | exact c4 q hq.1 hq.2 k | ((repeat (first | rw [zset_a (by omega)] | rw [zup_a (by omega)] | rw [(m5 _ (by omega)).2] | rw [(m4 _ (by omega)).2] | rw [(m3 _ (by omega)).2] | rw [(m2 _ (by omega)).2] | rw [(m1 _ (by omega)).2])); exact c4 q hq.1 hq.2 k)
    · first | exact c5 q hq.1 hq.2 k | ((repeat (first | rw [zset_a (by omega)] | rw [zup_a (by omega)] | rw [(m5 _ (by omega)).2] | rw [(m4 _ (by omega)).2] | rw [(m3 _ (by omega)).2] | rw [(m2 _ (by omega)).2] | rw [(m1 _ (by omega)).2])); exact c5 q hq.1 hq.2 k)

set_option maxHeartbeats 4000000 in
set_option maxRecDepth 100000 in
theorem i_X7 {D : zD} {z0 : Nat} {L : zL} {V : zV} {a : Nat} (hL : L a = some (.inr (.inr (7, [none, none, none, some .null, some .null, some .null, some .null])))) (hV : ∀ k, V a k = 0) : Sp D z0 4 39 1682 mX7_init [.ref a] L V (a + 1) (fun v L' V' nx' => v = none ∧ nx' = a + 40 ∧ mkd L L' V V' a (a + 40) ∧ sSt L' a ∧ ST V' a st0) := by
  refine Sp.of 1 (by decide) rfl rfl (Nat.le_of_ble_eq_true rfl) ?_
  refine z_aload_n dX7_init_0 rfl ?_
  refine z_objInit dX7_init_1 lX7_3 w_oi w_oc (Nat.le_of_ble_eq_true rfl) (Nat.le_of_ble_eq_true rfl) ?_
  refine z_aload_n dX7_init_4 rfl ?_
  refine z_iconst (v := nI 3) dX7_init_5 rfl ?_
  refine z_putI dX7_init_6 fX7_9 hL rfl ?_
  refine z_aload_n dX7_init_9 rfl ?_
  refine z_iconst (v := nI 5) dX7_init_10 rfl ?_
  refine z_putI dX7_init_11 fX7_15 hL rfl ?_
  refine z_aload_n dX7_init_14 rfl ?_
  refine z_new (N := 3) dX7_init_15 nwX7_18 rfl ⟨Nat.le_of_ble_eq_true rfl, Nat.le_of_ble_eq_true rfl⟩ ?_
  have t1 : (zsh L (a + 1) (.inr (.inr (10, [some .null, some .null, some .null])))) a = some (.inr (.inr (7, [none, none, none, some .null, some .null, some .null, some .null]))) := (zsh_o (by omega)).trans hL
  refine z_dup dX7_init_18 rfl ?_
  refine z_callI0p dX7_init_19 kX10_init lX7_20 (i_X10 (a := (a + 1)) (zsh_s _ _ _) (fun _ => congrFun (zset_s _ _ _) _)) (Nat.le_of_ble_eq_true rfl) (Nat.le_of_ble_eq_true rfl) ⟨Nat.le_of_ble_eq_true rfl, Nat.le_of_ble_eq_true rfl⟩ ?_
  intro v1 L1 V1 n1 h1
  obtain ⟨rfl, rfl, m1, s1, c1⟩ := h1
  have t2 : L1 a = some (.inr (.inr (7, [none, none, none, some .null, some .null, some .null, some .null]))) := (m1 _ (by omega)).1.trans t1
  refine z_putR dX7_init_22 fX7_21 (Or.inr ⟨rfl, _, _, _, rfl, rfl⟩) ⟨rfl, rfl⟩ t2 (Nat.le_of_ble_eq_true rfl) ?_
  have t3 : (zsh L1 a (.inr (.inr (7, [none, none, none, some (.ref (a + 1)), some .null, some .null, some .null])))) a = some (.inr (.inr (7, [none, none, none, some (.ref (a + 1)), some .null, some .null, some .null]))) := zsh_s _ _ _
  refine z_aload_n dX7_init_25 rfl ?_
  refine z_iconst (v := nI 4) dX7_init_26 rfl ?_
  refine z_newq (t := 4) (N := 4) (n := nI 4) dX7_init_27 (fun _ => rfl) clX7_25 (by decide) (nI_pos (by decide)) (nI_clamp (by decide)) (Nat.le_of_ble_eq_true rfl) ⟨Nat.le_of_ble_eq_true rfl, Nat.le_of_ble_eq_true rfl⟩ ?_
  have t4 : (zsh (zsh L1 a (.inr (.inr (7, [none, none, none, some (.ref (a + 1)), some .null, some .null, some .null])))) (a + 5) (.inr (.inl (4, List.replicate 4 none)))) a = some (.inr (.inr (7, [none, none, none, some (.ref (a + 1)), some .null, some .null, some .null]))) := (zsh_o (by omega)).trans t3
  have t5 : (zsh (zsh L1 a (.inr (.inr (7, [none, none, none, some (.ref (a + 1)), some .null, some .null, some .null])))) (a + 5) (.inr (.inl (4, List.replicate 4 none)))) (a + 5) = some (.inr (.inl (4, [none, none, none, none]))) := zsh_s _ _ _
  refine z_putR dX7_init_30 fX7_27 (Or.inr ⟨rfl, _, _, _, rfl, rfl⟩) ⟨rfl, rfl⟩ t4 (Nat.le_of_ble_eq_true rfl) ?_
  have t6 : (zsh (zsh (zsh L1 a (.inr (.inr (7, [none, none, none, some (.ref (a + 1)), some .null, some .null, some .null])))) (a + 5) (.inr (.inl (4, List.replicate 4 none)))) a (.inr (.inr (7, [none, none, none, some (.ref (a + 1)), some (.ref (a + 5)), some .null, some .null])))) (a + 5) = some (.inr (.inl (4, [none, none, none, none]))) := (zsh_o (by omega)).trans t5
  have t7 : (zsh (zsh (zsh L1 a (.inr (.inr (7, [none, none, none, some (.ref (a + 1)), some .null, some .null, some .null])))) (a + 5) (.inr (.inl (4, List.replicate 4 none)))) a (.inr (.inr (7, [none, none, none, some (.ref (a + 1)), some (.ref (a + 5)), some .null, some .null])))) a = some (.inr (.inr (7, [none, none, none, some (.ref (a + 1)), some (.ref (a + 5)), some .null, some .null]))) := zsh_s _ _ _
  refine z_aload_n dX7_init_33 rfl ?_
  refine z_iconst (v := nI 2) dX7_init_34 rfl ?_
  refine z_newq (t := 5) (N := 2) (n := nI 2) dX7_init_35 (fun _ => rfl) clX7_31 (by decide) (nI_pos (by decide)) (nI_clamp (by decide)) (Nat.le_of_ble_eq_true rfl) ⟨Nat.le_of_ble_eq_true rfl, Nat.le_of_ble_eq_true rfl⟩ ?_
  have t8 : (zsh (zsh (zsh (zsh L1 a (.inr (.inr (7, [none, none, none, some (.ref (a + 1)), some .null, some .null, some .null])))) (a + 5) (.inr (.inl (4, List.replicate 4 none)))) a (.inr (.inr (7, [none, none, none, some (.ref (a + 1)), some (.ref (a + 5)), some .null, some .null])))) (a + 6) (.inr (.inl (5, List.replicate 2 none)))) a = some (.inr (.inr (7, [none, none, none, some (.ref (a + 1)), some (.ref (a + 5)), some .null, some .null]))) := (zsh_o (by omega)).trans t7
  have t9 : (zsh (zsh (zsh (zsh L1 a (.inr (.inr (7, [none, none, none, some (.ref (a + 1)), some .null, some .null, some .null])))) (a + 5) (.inr (.inl (4, List.replicate 4 none)))) a (.inr (.inr (7, [none, none, none, some (.ref (a + 1)), some (.ref (a + 5)), some .null, some .null])))) (a + 6) (.inr (.inl (5, List.replicate 2 none)))) (a + 5) = some (.inr (.inl (4, [none, none, none, none]))) := (zsh_o (by omega)).trans t6
  have t10 : (zsh (zsh (zsh (zsh L1 a (.inr (.inr (7, [none, none, none, some (.ref (a + 1)), some .null, some .null, some .null])))) (a + 5) (.inr (.inl (4, List.replicate 4 none)))) a (.inr (.inr (7, [none, none, none, some (.ref (a + 1)), some (.ref (a + 5)), some .null, some .null])))) (a + 6) (.inr (.inl (5, List.replicate 2 none)))) (a + 6) = some (.inr (.inl (5, [none, none]))) := zsh_s _ _ _
  refine z_putR dX7_init_38 fX7_33 (Or.inr ⟨rfl, _, _, _, rfl, rfl⟩) ⟨rfl, rfl⟩ t8 (Nat.le_of_ble_eq_true rfl) ?_
  have t11 : (zsh (zsh (zsh (zsh (zsh L1 a (.inr (.inr (7, [none, none, none, some (.ref (a + 1)), some .null, some .null, some .null])))) (a + 5) (.inr (.inl (4, List.replicate 4 none)))) a (.inr (.inr (7, [none, none, none, some (.ref (a + 1)), some (.ref (a + 5)), some .null, some .null])))) (a + 6) (.inr (.inl (5, List.replicate 2 none)))) a (.inr (.inr (7, [none, none, none, some (.ref (a + 1)), some (.ref (a + 5)), some (.ref (a + 6)), some .null])))) (a + 5) = some (.inr (.inl (4, [none, none, none, none]))) := (zsh_o (by omega)).trans t9
  have t12 : (zsh (zsh (zsh (zsh (zsh L1 a (.inr (.inr (7, [none, none, none, some (.ref (a + 1)), some .null, some .null, some .null])))) (a + 5) (.inr (.inl (4, List.replicate 4 none)))) a (.inr (.inr (7, [none, none, none, some (.ref (a + 1)), some (.ref (a + 5)), some .null, some .null])))) (a + 6) (.inr (.inl (5, List.replicate 2 none)))) a (.inr (.inr (7, [none, none, none, some (.ref (a + 1)), some (.ref (a + 5)), some (.ref (a + 6)), some .null])))) (a + 6) = some (.inr (.inl (5, [none, none]))) := (zsh_o (by omega)).trans t10
  have t13 : (zsh (zsh (zsh (zsh (zsh L1 a (.inr (.inr (7, [none, none, none, some (.ref (a + 1)), some .null, some .null, some .null])))) (a + 5) (.inr (.inl (4, List.replicate 4 none)))) a (.inr (.inr (7, [none, none, none, some (.ref (a + 1)), some (.ref (a + 5)), some .null, some .null])))) (a + 6) (.inr (.inl (5, List.replicate 2 none)))) a (.inr (.inr (7, [none, none, none, some (.ref (a + 1)), some (.ref (a + 5)), some (.ref (a + 6)), some .null])))) a = some (.inr (.inr (7, [none, none, none, some (.ref (a + 1)), some (.ref (a + 5)), some (.ref (a + 6)), some .null]))) := zsh_s _ _ _
  refine z_aload_n dX7_init_41 rfl ?_
  refine z_bipush (v := nI 7) dX7_init_42 rfl ?_
  refine z_newa (t := 0) (N := 7) (n := nI 7) dX7_init_44 (fun _ => rfl) (by decide) w_arr_int (nI_pos (by decide)) (nI_clamp (by decide)) rfl (Nat.le_of_ble_eq_true rfl) ⟨Nat.le_of_ble_eq_true rfl, Nat.le_of_ble_eq_true rfl⟩ ?_
  have t14 : (zsh (zsh (zsh (zsh (zsh (zsh L1 a (.inr (.inr (7, [none, none, none, some (.ref (a + 1)), some .null, some .null, some .null])))) (a + 5) (.inr (.inl (4, List.replicate 4 none)))) a (.inr (.inr (7, [none, none, none, some (.ref (a + 1)), some (.ref (a + 5)), some .null, some .null])))) (a + 6) (.inr (.inl (5, List.replicate 2 none)))) a (.inr (.inr (7, [none, none, none, some (.ref (a + 1)), some (.ref (a + 5)), some (.ref (a + 6)), some .null])))) (a + 7) (.inl (0, 7))) a = some (.inr (.inr (7, [none, none, none, some (.ref (a + 1)), some (.ref (a + 5)), some (.ref (a + 6)), some .null]))) := (zsh_o (by omega)).trans t13
  have t15 : (zsh (zsh (zsh (zsh (zsh (zsh L1 a (.inr (.inr (7, [none, none, none, some (.ref (a + 1)), some .null, some .null, some .null])))) (a + 5) (.inr (.inl (4, List.replicate 4 none)))) a (.inr (.inr (7, [none, none, none, some (.ref (a + 1)), some (.ref (a + 5)), some .null, some .null])))) (a + 6) (.inr (.inl (5, List.replicate 2 none)))) a (.inr (.inr (7, [none, none, none, some (.ref (a + 1)), some (.ref (a + 5)), some (.ref (a + 6)), some .null])))) (a + 7) (.inl (0, 7))) (a + 5) = some (.inr (.inl (4, [none, none, none, none]))) := (zsh_o (by omega)).trans t11
  have t16 : (zsh (zsh (zsh (zsh (zsh (zsh L1 a (.inr (.inr (7, [none, none, none, some (.ref (a + 1)), some .null, some .null, some .null])))) (a + 5) (.inr (.inl (4, List.replicate 4 none)))) a (.inr (.inr (7, [none, none, none, some (.ref (a + 1)), some (.ref (a + 5)), some .null, some .null])))) (a + 6) (.inr (.inl (5, List.replicate 2 none)))) a (.inr (.inr (7, [none, none, none, some (.ref (a + 1)), some (.ref (a + 5)), some (.ref (a + 6)), some .null])))) (a + 7) (.inl (0, 7))) (a + 6) = some (.inr (.inl (5, [none, none]))) := (zsh_o (by omega)).trans t12
  have t17 : (zsh (zsh (zsh (zsh (zsh (zsh L1 a (.inr (.inr (7, [none, none, none, some (.ref (a + 1)), some .null, some .null, some .null])))) (a + 5) (.inr (.inl (4, List.replicate 4 none)))) a (.inr (.inr (7, [none, none, none, some (.ref (a + 1)), some (.ref (a + 5)), some .null, some .null])))) (a + 6) (.inr (.inl (5, List.replicate 2 none)))) a (.inr (.inr (7, [none, none, none, some (.ref (a + 1)), some (.ref (a + 5)), some (.ref (a + 6)), some .null])))) (a + 7) (.inl (0, 7))) (a + 7) = some (.inl (0, 7)) := zsh_s _ _ _
  refine z_putR dX7_init_46 fX7_37 (Or.inr ⟨rfl, _, _, _, rfl, rfl⟩) ⟨rfl, rfl⟩ t14 (Nat.le_of_ble_eq_true rfl) ?_
  have t18 : (zsh (zsh (zsh (zsh (zsh (zsh (zsh L1 a (.inr (.inr (7, [none, none, none, some (.ref (a + 1)), some .null, some .null, some .null])))) (a + 5) (.inr (.inl (4, List.replicate 4 none)))) a (.inr (.inr (7, [none, none, none, some (.ref (a + 1)), some (.ref (a + 5)), some .null, some .null])))) (a + 6) (.inr (.inl (5, List.replicate 2 none)))) a (.inr (.inr (7, [none, none, none, some (.ref (a + 1)), some (.ref (a + 5)), some (.ref (a + 6)), some .null])))) (a + 7) (.inl (0, 7))) a (.inr (.inr (7, [none, none, none, some (.ref (a + 1)), some (.ref (a + 5)), some (.ref (a + 6)), some (.ref (a + 7))])))) (a + 5) = some (.inr (.inl (4, [none, none, none, none]))) := (zsh_o (by omega)).trans t15
  have t19 : (zsh (zsh (zsh (zsh (zsh (zsh (zsh L1 a (.inr (.inr (7, [none, none, none, some (.ref (a + 1)), some .null, some .null, some .null])))) (a + 5) (.inr (.inl (4, List.replicate 4 none)))) a (.inr (.inr (7, [none, none, none, some (.ref (a + 1)), some (.ref (a + 5)), some .null, some .null])))) (a + 6) (.inr (.inl (5, List.replicate 2 none)))) a (.inr (.inr (7, [none, none, none, some (.ref (a + 1)), some (.ref (a + 5)), some (.ref (a + 6)), some .null])))) (a + 7) (.inl (0, 7))) a (.inr (.inr (7, [none, none, none, some (.ref (a + 1)), some (.ref (a + 5)), some (.ref (a + 6)), some (.ref (a + 7))])))) (a + 6) = some (.inr (.inl (5, [none, none]))) := (zsh_o (by omega)).trans t16
  have t20 : (zsh (zsh (zsh (zsh (zsh (zsh (zsh L1 a (.inr (.inr (7, [none, none, none, some (.ref (a + 1)), some .null, some .null, some .null])))) (a + 5) (.inr (.inl (4, List.replicate 4 none)))) a (.inr (.inr (7, [none, none, none, some (.ref (a + 1)), some (.ref (a + 5)), some .null, some .null])))) (a + 6) (.inr (.inl (5, List.replicate 2 none)))) a (.inr (.inr (7, [none, none, none, some (.ref (a + 1)), some (.ref (a + 5)), some (.ref (a + 6)), some .null])))) (a + 7) (.inl (0, 7))) a (.inr (.inr (7, [none, none, none, some (.ref (a + 1)), some (.ref (a + 5)), some (.ref (a + 6)), some (.ref (a + 7))])))) (a + 7) = some (.inl (0, 7)) := (zsh_o (by omega)).trans t17
  have t21 : (zsh (zsh (zsh (zsh (zsh (zsh (zsh L1 a (.inr (.inr (7, [none, none, none, some (.ref (a + 1)), some .null, some .null, some .null])))) (a + 5) (.inr (.inl (4, List.replicate 4 none)))) a (.inr (.inr (7, [none, none, none, some (.ref (a + 1)), some (.ref (a + 5)), some .null, some .null])))) (a + 6) (.inr (.inl (5, List.replicate 2 none)))) a (.inr (.inr (7, [none, none, none, some (.ref (a + 1)), some (.ref (a + 5)), some (.ref (a + 6)), some .null])))) (a + 7) (.inl (0, 7))) a (.inr (.inr (7, [none, none, none, some (.ref (a + 1)), some (.ref (a + 5)), some (.ref (a + 6)), some (.ref (a + 7))])))) a = some (.inr (.inr (7, [none, none, none, some (.ref (a + 1)), some (.ref (a + 5)), some (.ref (a + 6)), some (.ref (a + 7))]))) := zsh_s _ _ _
  refine z_iconst (v := nI 0) dX7_init_49 rfl ?_
  refine z_istore_n dX7_init_50 (Nat.le_of_ble_eq_true rfl) rfl ?_
  refine z_iload_n dX7_init_51 rfl ?_
  refine z_iconst (v := nI 4) dX7_init_52 rfl ?_
  refine z_icmp_geN (tgt := 75) dX7_init_53 (by decide) (by omega) (by omega) (fun c => absurd c (by omega)) (fun _ => ?_)
  refine z_aload_n dX7_init_56 rfl ?_
  refine z_getR dX7_init_57 fX7_27 t21 rfl ?_
  refine z_iload_n dX7_init_60 rfl ?_
  refine z_new (N := 4) dX7_init_61 nwX7_25 rfl ⟨Nat.le_of_ble_eq_true rfl, Nat.le_of_ble_eq_true rfl⟩ ?_
  have t22 : (zsh (zsh (zsh (zsh (zsh (zsh (zsh (zsh L1 a (.inr (.inr (7, [none, none, none, some (.ref (a + 1)), some .null, some .null, some .null])))) (a + 5) (.inr (.inl (4, List.replicate 4 none)))) a (.inr (.inr (7, [none, none, none, some (.ref (a + 1)), some (.ref (a + 5)), some .null, some .null])))) (a + 6) (.inr (.inl (5, List.replicate 2 none)))) a (.inr (.inr (7, [none, none, none, some (.ref (a + 1)), some (.ref (a + 5)), some (.ref (a + 6)), some .null])))) (a + 7) (.inl (0, 7))) a (.inr (.inr (7, [none, none, none, some (.ref (a + 1)), some (.ref (a + 5)), some (.ref (a + 6)), some (.ref (a + 7))])))) (a + 8) (.inr (.inr (9, [none, none, none, some .null])))) a = some (.inr (.inr (7, [none, none, none, some (.ref (a + 1)), some (.ref (a + 5)), some (.ref (a + 6)), some (.ref (a + 7))]))) := (zsh_o (by omega)).trans t21
  have t23 : (zsh (zsh (zsh (zsh (zsh (zsh (zsh (zsh L1 a (.inr (.inr (7, [none, none, none, some (.ref (a + 1)), some .null, some .null, some .null])))) (a + 5) (.inr (.inl (4, List.replicate 4 none)))) a (.inr (.inr (7, [none, none, none, some (.ref (a + 1)), some (.ref (a + 5)), some .null, some .null])))) (a + 6) (.inr (.inl (5, List.replicate 2 none)))) a (.inr (.inr (7, [none, none, none, some (.ref (a + 1)), some (.ref (a + 5)), some (.ref (a + 6)), some .null])))) (a + 7) (.inl (0, 7))) a (.inr (.inr (7, [none, none, none, some (.ref (a + 1)), some (.ref (a + 5)), some (.ref (a + 6)), some (.ref (a + 7))])))) (a + 8) (.inr (.inr (9, [none, none, none, some .null])))) (a + 5) = some (.inr (.inl (4, [none, none, none, none]))) := (zsh_o (by omega)).trans t18
  have t24 : (zsh (zsh (zsh (zsh (zsh (zsh (zsh (zsh L1 a (.inr (.inr (7, [none, none, none, some (.ref (a + 1)), some .null, some .null, some .null])))) (a + 5) (.inr (.inl (4, List.replicate 4 none)))) a (.inr (.inr (7, [none, none, none, some (.ref (a + 1)), some (.ref (a + 5)), some .null, some .null])))) (a + 6) (.inr (.inl (5, List.replicate 2 none)))) a (.inr (.inr (7, [none, none, none, some (.ref (a + 1)), some (.ref (a + 5)), some (.ref (a + 6)), some .null])))) (a + 7) (.inl (0, 7))) a (.inr (.inr (7, [none, none, none, some (.ref (a + 1)), some (.ref (a + 5)), some (.ref (a + 6)), some (.ref (a + 7))])))) (a + 8) (.inr (.inr (9, [none, none, none, some .null])))) (a + 6) = some (.inr (.inl (5, [none, none]))) := (zsh_o (by omega)).trans t19
  have t25 : (zsh (zsh (zsh (zsh (zsh (zsh (zsh (zsh L1 a (.inr (.inr (7, [none, none, none, some (.ref (a + 1)), some .null, some .null, some .null])))) (a + 5) (.inr (.inl (4, List.replicate 4 none)))) a (.inr (.inr (7, [none, none, none, some (.ref (a + 1)), some (.ref (a + 5)), some .null, some .null])))) (a + 6) (.inr (.inl (5, List.replicate 2 none)))) a (.inr (.inr (7, [none, none, none, some (.ref (a + 1)), some (.ref (a + 5)), some (.ref (a + 6)), some .null])))) (a + 7) (.inl (0, 7))) a (.inr (.inr (7, [none, none, none, some (.ref (a + 1)), some (.ref (a + 5)), some (.ref (a + 6)), some (.ref (a + 7))])))) (a + 8) (.inr (.inr (9, [none, none, none, some .null])))) (a + 7) = some (.inl (0, 7)) := (zsh_o (by omega)).trans t20
  refine z_dup dX7_init_64 rfl ?_
  refine z_callI0p dX7_init_65 kX9_init lX7_41 (i_X9 (a := (a + 8)) (zsh_s _ _ _) (fun _ => congrFun (zset_s _ _ _) _)) (Nat.le_of_ble_eq_true rfl) (Nat.le_of_ble_eq_true rfl) ⟨Nat.le_of_ble_eq_true rfl, Nat.le_of_ble_eq_true rfl⟩ ?_
  intro v2 L2 V2 n2 h2
  obtain ⟨rfl, rfl, m2, s2, c2⟩ := h2
  have t26 : L2 a = some (.inr (.inr (7, [none, none, none, some (.ref (a + 1)), some (.ref (a + 5)), some (.ref (a + 6)), some (.ref (a + 7))]))) := (m2 _ (by omega)).1.trans t22
  have t27 : L2 (a + 5) = some (.inr (.inl (4, [none, none, none, none]))) := (m2 _ (by omega)).1.trans t23
  have t28 : L2 (a + 6) = some (.inr (.inl (5, [none, none]))) := (m2 _ (by omega)).1.trans t24
  have t29 : L2 (a + 7) = some (.inl (0, 7)) := (m2 _ (by omega)).1.trans t25
  refine z_aastN (i := 0) dX7_init_68 t27 (fun _ => rfl) s2.1 rfl ⟨Nat.le_of_ble_eq_true rfl, Nat.le_of_ble_eq_true rfl⟩ ?_
  have t30 : (zsh L2 (a + 5) (.inr (.inl (4, [some (a + 8), none, none, none])))) a = some (.inr (.inr (7, [none, none, none, some (.ref (a + 1)), some (.ref (a + 5)), some (.ref (a + 6)), some (.ref (a + 7))]))) := (zsh_o (by omega)).trans t26
  have t31 : (zsh L2 (a + 5) (.inr (.inl (4, [some (a + 8), none, none, none])))) (a + 6) = some (.inr (.inl (5, [none, none]))) := (zsh_o (by omega)).trans t28
  have t32 : (zsh L2 (a + 5) (.inr (.inl (4, [some (a + 8), none, none, none])))) (a + 7) = some (.inl (0, 7)) := (zsh_o (by omega)).trans t29
  have t33 : (zsh L2 (a + 5) (.inr (.inl (4, [some (a + 8), none, none, none])))) (a + 5) = some (.inr (.inl (4, [some (a + 8), none, none, none]))) := zsh_s _ _ _
  refine z_iinc dX7_init_69 rfl (show nI 0 + Int32.ofInt (1) = nI 1 from by decide) rfl ?_
  refine z_goto (tgt := 51) dX7_init_72 (by decide) ?_
  refine z_iload_n dX7_init_51 rfl ?_
  refine z_iconst (v := nI 4) dX7_init_52 rfl ?_
  refine z_icmp_geN (tgt := 75) dX7_init_53 (by decide) (by omega) (by omega) (fun c => absurd c (by omega)) (fun _ => ?_)
  refine z_aload_n dX7_init_56 rfl ?_
  refine z_getR dX7_init_57 fX7_27 t30 rfl ?_
  refine z_iload_n dX7_init_60 rfl ?_
  refine z_new (N := 4) dX7_init_61 nwX7_25 rfl ⟨Nat.le_of_ble_eq_true rfl, Nat.le_of_ble_eq_true rfl⟩ ?_
  have t34 : (zsh (zsh L2 (a + 5) (.inr (.inl (4, [some (a + 8), none, none, none])))) (a + 10) (.inr (.inr (9, [none, none, none, some .null])))) a = some (.inr (.inr (7, [none, none, none, some (.ref (a + 1)), some (.ref (a + 5)), some (.ref (a + 6)), some (.ref (a + 7))]))) := (zsh_o (by omega)).trans t30
  have t35 : (zsh (zsh L2 (a + 5) (.inr (.inl (4, [some (a + 8), none, none, none])))) (a + 10) (.inr (.inr (9, [none, none, none, some .null])))) (a + 5) = some (.inr (.inl (4, [some (a + 8), none, none, none]))) := (zsh_o (by omega)).trans t33
  have t36 : (zsh (zsh L2 (a + 5) (.inr (.inl (4, [some (a + 8), none, none, none])))) (a + 10) (.inr (.inr (9, [none, none, none, some .null])))) (a + 6) = some (.inr (.inl (5, [none, none]))) := (zsh_o (by omega)).trans t31
  have t37 : (zsh (zsh L2 (a + 5) (.inr (.inl (4, [some (a + 8), none, none, none])))) (a + 10) (.inr (.inr (9, [none, none, none, some .null])))) (a + 7) = some (.inl (0, 7)) := (zsh_o (by omega)).trans t32
  refine z_dup dX7_init_64 rfl ?_
  refine z_callI0p dX7_init_65 kX9_init lX7_41 (i_X9 (a := (a + 10)) (zsh_s _ _ _) (fun _ => congrFun (zset_s _ _ _) _)) (Nat.le_of_ble_eq_true rfl) (Nat.le_of_ble_eq_true rfl) ⟨Nat.le_of_ble_eq_true rfl, Nat.le_of_ble_eq_true rfl⟩ ?_
  intro v3 L3 V3 n3 h3
  obtain ⟨rfl, rfl, m3, s3, c3⟩ := h3
  have t38 : L3 a = some (.inr (.inr (7, [none, none, none, some (.ref (a + 1)), some (.ref (a + 5)), some (.ref (a + 6)), some (.ref (a + 7))]))) := (m3 _ (by omega)).1.trans t34
  have t39 : L3 (a + 5) = some (.inr (.inl (4, [some (a + 8), none, none, none]))) := (m3 _ (by omega)).1.trans t35
  have t40 : L3 (a + 6) = some (.inr (.inl (5, [none, none]))) := (m3 _ (by omega)).1.trans t36
  have t41 : L3 (a + 7) = some (.inl (0, 7)) := (m3 _ (by omega)).1.trans t37
  refine z_aastN (i := 1) dX7_init_68 t39 (fun _ => rfl) s3.1 rfl ⟨Nat.le_of_ble_eq_true rfl, Nat.le_of_ble_eq_true rfl⟩ ?_
  have t42 : (zsh L3 (a + 5) (.inr (.inl (4, [some (a + 8), some (a + 10), none, none])))) a = some (.inr (.inr (7, [none, none, none, some (.ref (a + 1)), some (.ref (a + 5)), some (.ref (a + 6)), some (.ref (a + 7))]))) := (zsh_o (by omega)).trans t38
  have t43 : (zsh L3 (a + 5) (.inr (.inl (4, [some (a + 8), some (a + 10), none, none])))) (a + 6) = some (.inr (.inl (5, [none, none]))) := (zsh_o (by omega)).trans t40
  have t44 : (zsh L3 (a + 5) (.inr (.inl (4, [some (a + 8), some (a + 10), none, none])))) (a + 7) = some (.inl (0, 7)) := (zsh_o (by omega)).trans t41
  have t45 : (zsh L3 (a + 5) (.inr (.inl (4, [some (a + 8), some (a + 10), none, none])))) (a + 5) = some (.inr (.inl (4, [some (a + 8), some (a + 10), none, none]))) := zsh_s _ _ _
  refine z_iinc dX7_init_69 rfl (show nI 1 + Int32.ofInt (1) = nI 2 from by decide) rfl ?_
  refine z_goto (tgt := 51) dX7_init_72 (by decide) ?_
  refine z_iload_n dX7_init_51 rfl ?_
  refine z_iconst (v := nI 4) dX7_init_52 rfl ?_
  refine z_icmp_geN (tgt := 75) dX7_init_53 (by decide) (by omega) (by omega) (fun c => absurd c (by omega)) (fun _ => ?_)
  refine z_aload_n dX7_init_56 rfl ?_
  refine z_getR dX7_init_57 fX7_27 t42 rfl ?_
  refine z_iload_n dX7_init_60 rfl ?_
  refine z_new (N := 4) dX7_init_61 nwX7_25 rfl ⟨Nat.le_of_ble_eq_true rfl, Nat.le_of_ble_eq_true rfl⟩ ?_
  have t46 : (zsh (zsh L3 (a + 5) (.inr (.inl (4, [some (a + 8), some (a + 10), none, none])))) (a + 12) (.inr (.inr (9, [none, none, none, some .null])))) a = some (.inr (.inr (7, [none, none, none, some (.ref (a + 1)), some (.ref (a + 5)), some (.ref (a + 6)), some (.ref (a + 7))]))) := (zsh_o (by omega)).trans t42
  have t47 : (zsh (zsh L3 (a + 5) (.inr (.inl (4, [some (a + 8), some (a + 10), none, none])))) (a + 12) (.inr (.inr (9, [none, none, none, some .null])))) (a + 5) = some (.inr (.inl (4, [some (a + 8), some (a + 10), none, none]))) := (zsh_o (by omega)).trans t45
  have t48 : (zsh (zsh L3 (a + 5) (.inr (.inl (4, [some (a + 8), some (a + 10), none, none])))) (a + 12) (.inr (.inr (9, [none, none, none, some .null])))) (a + 6) = some (.inr (.inl (5, [none, none]))) := (zsh_o (by omega)).trans t43
  have t49 : (zsh (zsh L3 (a + 5) (.inr (.inl (4, [some (a + 8), some (a + 10), none, none])))) (a + 12) (.inr (.inr (9, [none, none, none, some .null])))) (a + 7) = some (.inl (0, 7)) := (zsh_o (by omega)).trans t44
  refine z_dup dX7_init_64 rfl ?_
  refine z_callI0p dX7_init_65 kX9_init lX7_41 (i_X9 (a := (a + 12)) (zsh_s _ _ _) (fun _ => congrFun (zset_s _ _ _) _)) (Nat.le_of_ble_eq_true rfl) (Nat.le_of_ble_eq_true rfl) ⟨Nat.le_of_ble_eq_true rfl, Nat.le_of_ble_eq_true rfl⟩ ?_
  intro v4 L4 V4 n4 h4
  obtain ⟨rfl, rfl, m4, s4, c4⟩ := h4
  have t50 : L4 a = some (.inr (.inr (7, [none, none, none, some (.ref (a + 1)), some (.ref (a + 5)), some (.ref (a + 6)), some (.ref (a + 7))]))) := (m4 _ (by omega)).1.trans t46
  have t51 : L4 (a + 5) = some (.inr (.inl (4, [some (a + 8), some (a + 10), none, none]))) := (m4 _ (by omega)).1.trans t47
  have t52 : L4 (a + 6) = some (.inr (.inl (5, [none, none]))) := (m4 _ (by omega)).1.trans t48
  have t53 : L4 (a + 7) = some (.inl (0, 7)) := (m4 _ (by omega)).1.trans t49
  refine z_aastN (i := 2) dX7_init_68 t51 (fun _ => rfl) s4.1 rfl ⟨Nat.le_of_ble_eq_true rfl, Nat.le_of_ble_eq_true rfl⟩ ?_
  have t54 : (zsh L4 (a + 5) (.inr (.inl (4, [some (a + 8), some (a + 10), some (a + 12), none])))) a = some (.inr (.inr (7, [none, none, none, some (.ref (a + 1)), some (.ref (a + 5)), some (.ref (a + 6)), some (.ref (a + 7))]))) := (zsh_o (by omega)).trans t50
  have t55 : (zsh L4 (a + 5) (.inr (.inl (4, [some (a + 8), some (a + 10), some (a + 12), none])))) (a + 6) = some (.inr (.inl (5, [none, none]))) := (zsh_o (by omega)).trans t52
  have t56 : (zsh L4 (a + 5) (.inr (.inl (4, [some (a + 8), some (a + 10), some (a + 12), none])))) (a + 7) = some (.inl (0, 7)) := (zsh_o (by omega)).trans t53
  have t57 : (zsh L4 (a + 5) (.inr (.inl (4, [some (a + 8), some (a + 10), some (a + 12), none])))) (a + 5) = some (.inr (.inl (4, [some (a + 8), some (a + 10), some (a + 12), none]))) := zsh_s _ _ _
  refine z_iinc dX7_init_69 rfl (show nI 2 + Int32.ofInt (1) = nI 3 from by decide) rfl ?_
  refine z_goto (tgt := 51) dX7_init_72 (by decide) ?_
  refine z_iload_n dX7_init_51 rfl ?_
  refine z_iconst (v := nI 4) dX7_init_52 rfl ?_
  refine z_icmp_geN (tgt := 75) dX7_init_53 (by decide) (by omega) (by omega) (fun c => absurd c (by omega)) (fun _ => ?_)
  refine z_aload_n dX7_init_56 rfl ?_
  refine z_getR dX7_init_57 fX7_27 t54 rfl ?_
  refine z_iload_n dX7_init_60 rfl ?_
  refine z_new (N := 4) dX7_init_61 nwX7_25 rfl ⟨Nat.le_of_ble_eq_true rfl, Nat.le_of_ble_eq_true rfl⟩ ?_
  have t58 : (zsh (zsh L4 (a + 5) (.inr (.inl (4, [some (a + 8), some (a + 10), some (a + 12), none])))) (a + 14) (.inr (.inr (9, [none, none, none, some .null])))) a = some (.inr (.inr (7, [none, none, none, some (.ref (a + 1)), some (.ref (a + 5)), some (.ref (a + 6)), some (.ref (a + 7))]))) := (zsh_o (by omega)).trans t54
  have t59 : (zsh (zsh L4 (a + 5) (.inr (.inl (4, [some (a + 8), some (a + 10), some (a + 12), none])))) (a + 14) (.inr (.inr (9, [none, none, none, some .null])))) (a + 5) = some (.inr (.inl (4, [some (a + 8), some (a + 10), some (a + 12), none]))) := (zsh_o (by omega)).trans t57
  have t60 : (zsh (zsh L4 (a + 5) (.inr (.inl (4, [some (a + 8), some (a + 10), some (a + 12), none])))) (a + 14) (.inr (.inr (9, [none, none, none, some .null])))) (a + 6) = some (.inr (.inl (5, [none, none]))) := (zsh_o (by omega)).trans t55
  have t61 : (zsh (zsh L4 (a + 5) (.inr (.inl (4, [some (a + 8), some (a + 10), some (a + 12), none])))) (a + 14) (.inr (.inr (9, [none, none, none, some .null])))) (a + 7) = some (.inl (0, 7)) := (zsh_o (by omega)).trans t56
  refine z_dup dX7_init_64 rfl ?_
  refine z_callI0p dX7_init_65 kX9_init lX7_41 (i_X9 (a := (a + 14)) (zsh_s _ _ _) (fun _ => congrFun (zset_s _ _ _) _)) (Nat.le_of_ble_eq_true rfl) (Nat.le_of_ble_eq_true rfl) ⟨Nat.le_of_ble_eq_true rfl, Nat.le_of_ble_eq_true rfl⟩ ?_
  intro v5 L5 V5 n5 h5
  obtain ⟨rfl, rfl, m5, s5, c5⟩ := h5
  have t62 : L5 a = some (.inr (.inr (7, [none, none, none, some (.ref (a + 1)), some (.ref (a + 5)), some (.ref (a + 6)), some (.ref (a + 7))]))) := (m5 _ (by omega)).1.trans t58
  have t63 : L5 (a + 5) = some (.inr (.inl (4, [some (a + 8), some (a + 10), some (a + 12), none]))) := (m5 _ (by omega)).1.trans t59
  have t64 : L5 (a + 6) = some (.inr (.inl (5, [none, none]))) := (m5 _ (by omega)).1.trans t60
  have t65 : L5 (a + 7) = some (.inl (0, 7)) := (m5 _ (by omega)).1.trans t61
  refine z_aastN (i := 3) dX7_init_68 t63 (fun _ => rfl) s5.1 rfl ⟨Nat.le_of_ble_eq_true rfl, Nat.le_of_ble_eq_true rfl⟩ ?_
  have t66 : (zsh L5 (a + 5) (.inr (.inl (4, [some (a + 8), some (a + 10), some (a + 12), some (a + 14)])))) a = some (.inr (.inr (7, [none, none, none, some (.ref (a + 1)), some (.ref (a + 5)), some (.ref (a + 6)), some (.ref (a + 7))]))) := (zsh_o (by omega)).trans t62
  have t67 : (zsh L5 (a + 5) (.inr (.inl (4, [some (a + 8), some (a + 10), some (a + 12), some (a + 14)])))) (a + 6) = some (.inr (.inl (5, [none, none]))) := (zsh_o (by omega)).trans t64
  have t68 : (zsh L5 (a + 5) (.inr (.inl (4, [some (a + 8), some (a + 10), some (a + 12), some (a + 14)])))) (a + 7) = some (.inl (0, 7)) := (zsh_o (by omega)).trans t65
  have t69 : (zsh L5 (a + 5) (.inr (.inl (4, [some (a + 8), some (a + 10), some (a + 12), some (a + 14)])))) (a + 5) = some (.inr (.inl (4, [some (a + 8), some (a + 10), some (a + 12), some (a + 14)]))) := zsh_s _ _ _
  refine z_iinc dX7_init_69 rfl (show nI 3 + Int32.ofInt (1) = nI 4 from by decide) rfl ?_
  refine z_goto (tgt := 51) dX7_init_72 (by decide) ?_
  refine z_iload_n dX7_init_51 rfl ?_
  refine z_iconst (v := nI 4) dX7_init_52 rfl ?_
  refine z_icmp_geN (tgt := 75) dX7_init_53 (by decide) (by omega) (by omega) (fun _ => ?_) (fun c => absurd c (by omega))
  refine z_iconst (v := nI 0) dX7_init_75 rfl ?_
  refine z_istore_n dX7_init_76 (Nat.le_of_ble_eq_true rfl) rfl ?_
  refine z_iload_n dX7_init_77 rfl ?_
  refine z_iconst (v := nI 2) dX7_init_78 rfl ?_
  refine z_icmp_geN (tgt := 101) dX7_init_79 (by decide) (by omega) (by omega) (fun c => absurd c (by omega)) (fun _ => ?_)
  refine z_aload_n dX7_init_82 rfl ?_
  refine z_getR dX7_init_83 fX7_33 t66 rfl ?_
  refine z_iload_n dX7_init_86 rfl ?_
  refine z_new (N := 9) dX7_init_87 nwX7_31 rfl ⟨Nat.le_of_ble_eq_true rfl, Nat.le_of_ble_eq_true rfl⟩ ?_
  have t70 : (zsh (zsh L5 (a + 5) (.inr (.inl (4, [some (a + 8), some (a + 10), some (a + 12), some (a + 14)])))) (a + 16) (.inr (.inr (3, [none, none, none, none, none, some .null, some .null, some .null, some .null])))) a = some (.inr (.inr (7, [none, none, none, some (.ref (a + 1)), some (.ref (a + 5)), some (.ref (a + 6)), some (.ref (a + 7))]))) := (zsh_o (by omega)).trans t66
  have t71 : (zsh (zsh L5 (a + 5) (.inr (.inl (4, [some (a + 8), some (a + 10), some (a + 12), some (a + 14)])))) (a + 16) (.inr (.inr (3, [none, none, none, none, none, some .null, some .null, some .null, some .null])))) (a + 5) = some (.inr (.inl (4, [some (a + 8), some (a + 10), some (a + 12), some (a + 14)]))) := (zsh_o (by omega)).trans t69
  have t72 : (zsh (zsh L5 (a + 5) (.inr (.inl (4, [some (a + 8), some (a + 10), some (a + 12), some (a + 14)])))) (a + 16) (.inr (.inr (3, [none, none, none, none, none, some .null, some .null, some .null, some .null])))) (a + 6) = some (.inr (.inl (5, [none, none]))) := (zsh_o (by omega)).trans t67
  have t73 : (zsh (zsh L5 (a + 5) (.inr (.inl (4, [some (a + 8), some (a + 10), some (a + 12), some (a + 14)])))) (a + 16) (.inr (.inr (3, [none, none, none, none, none, some .null, some .null, some .null, some .null])))) (a + 7) = some (.inl (0, 7)) := (zsh_o (by omega)).trans t68
  refine z_dup dX7_init_90 rfl ?_
  refine z_callIN0p dX7_init_91 kX3_init lX7_42 (i_X3 (a := (a + 16)) (zsh_s _ _ _) (fun _ => congrFun (zset_s _ _ _) _)) (Nat.le_of_ble_eq_true rfl) (Nat.le_of_ble_eq_true rfl) ⟨Nat.le_of_ble_eq_true rfl, Nat.le_of_ble_eq_true rfl⟩ ?_
  intro v6 L6 V6 n6 h6
  obtain ⟨rfl, rfl, m6, s6, c6⟩ := h6
  have t74 : L6 a = some (.inr (.inr (7, [none, none, none, some (.ref (a + 1)), some (.ref (a + 5)), some (.ref (a + 6)), some (.ref (a + 7))]))) := (m6 _ (by omega)).1.trans t70
  have t75 : L6 (a + 5) = some (.inr (.inl (4, [some (a + 8), some (a + 10), some (a + 12), some (a + 14)]))) := (m6 _ (by omega)).1.trans t71
  have t76 : L6 (a + 6) = some (.inr (.inl (5, [none, none]))) := (m6 _ (by omega)).1.trans t72
  have t77 : L6 (a + 7) = some (.inl (0, 7)) := (m6 _ (by omega)).1.trans t73
  refine z_aastN (i := 0) dX7_init_94 t76 (fun _ => rfl) s6.1 rfl ⟨Nat.le_of_ble_eq_true rfl, Nat.le_of_ble_eq_true rfl⟩ ?_
  have t78 : (zsh L6 (a + 6) (.inr (.inl (5, [some (a + 16), none])))) a = some (.inr (.inr (7, [none, none, none, some (.ref (a + 1)), some (.ref (a + 5)), some (.ref (a + 6)), some (.ref (a + 7))]))) := (zsh_o (by omega)).trans t74
  have t79 : (zsh L6 (a + 6) (.inr (.inl (5, [some (a + 16), none])))) (a + 5) = some (.inr (.inl (4, [some (a + 8), some (a + 10), some (a + 12), some (a + 14)]))) := (zsh_o (by omega)).trans t75
  have t80 : (zsh L6 (a + 6) (.inr (.inl (5, [some (a + 16), none])))) (a + 7) = some (.inl (0, 7)) := (zsh_o (by omega)).trans t77
  have t81 : (zsh L6 (a + 6) (.inr (.inl (5, [some (a + 16), none])))) (a + 6) = some (.inr (.inl (5, [some (a + 16), none]))) := zsh_s _ _ _
  refine z_iinc dX7_init_95 rfl (show nI 0 + Int32.ofInt (1) = nI 1 from by decide) rfl ?_
  refine z_goto (tgt := 77) dX7_init_98 (by decide) ?_
  refine z_iload_n dX7_init_77 rfl ?_
  refine z_iconst (v := nI 2) dX7_init_78 rfl ?_
  refine z_icmp_geN (tgt := 101) dX7_init_79 (by decide) (by omega) (by omega) (fun c => absurd c (by omega)) (fun _ => ?_)
  refine z_aload_n dX7_init_82 rfl ?_
  refine z_getR dX7_init_83 fX7_33 t78 rfl ?_
  refine z_iload_n dX7_init_86 rfl ?_
  refine z_new (N := 9) dX7_init_87 nwX7_31 rfl ⟨Nat.le_of_ble_eq_true rfl, Nat.le_of_ble_eq_true rfl⟩ ?_
  have t82 : (zsh (zsh L6 (a + 6) (.inr (.inl (5, [some (a + 16), none])))) (a + 28) (.inr (.inr (3, [none, none, none, none, none, some .null, some .null, some .null, some .null])))) a = some (.inr (.inr (7, [none, none, none, some (.ref (a + 1)), some (.ref (a + 5)), some (.ref (a + 6)), some (.ref (a + 7))]))) := (zsh_o (by omega)).trans t78
  have t83 : (zsh (zsh L6 (a + 6) (.inr (.inl (5, [some (a + 16), none])))) (a + 28) (.inr (.inr (3, [none, none, none, none, none, some .null, some .null, some .null, some .null])))) (a + 5) = some (.inr (.inl (4, [some (a + 8), some (a + 10), some (a + 12), some (a + 14)]))) := (zsh_o (by omega)).trans t79
  have t84 : (zsh (zsh L6 (a + 6) (.inr (.inl (5, [some (a + 16), none])))) (a + 28) (.inr (.inr (3, [none, none, none, none, none, some .null, some .null, some .null, some .null])))) (a + 6) = some (.inr (.inl (5, [some (a + 16), none]))) := (zsh_o (by omega)).trans t81
  have t85 : (zsh (zsh L6 (a + 6) (.inr (.inl (5, [some (a + 16), none])))) (a + 28) (.inr (.inr (3, [none, none, none, none, none, some .null, some .null, some .null, some .null])))) (a + 7) = some (.inl (0, 7)) := (zsh_o (by omega)).trans t80
  refine z_dup dX7_init_90 rfl ?_
  refine z_callIN0p dX7_init_91 kX3_init lX7_42 (i_X3 (a := (a + 28)) (zsh_s _ _ _) (fun _ => congrFun (zset_s _ _ _) _)) (Nat.le_of_ble_eq_true rfl) (Nat.le_of_ble_eq_true rfl) ⟨Nat.le_of_ble_eq_true rfl, Nat.le_of_ble_eq_true rfl⟩ ?_
  intro v7 L7 V7 n7 h7
  obtain ⟨rfl, rfl, m7, s7, c7⟩ := h7
  have t86 : L7 a = some (.inr (.inr (7, [none, none, none, some (.ref (a + 1)), some (.ref (a + 5)), some (.ref (a + 6)), some (.ref (a + 7))]))) := (m7 _ (by omega)).1.trans t82
  have t87 : L7 (a + 5) = some (.inr (.inl (4, [some (a + 8), some (a + 10), some (a + 12), some (a + 14)]))) := (m7 _ (by omega)).1.trans t83
  have t88 : L7 (a + 6) = some (.inr (.inl (5, [some (a + 16), none]))) := (m7 _ (by omega)).1.trans t84
  have t89 : L7 (a + 7) = some (.inl (0, 7)) := (m7 _ (by omega)).1.trans t85
  refine z_aastN (i := 1) dX7_init_94 t88 (fun _ => rfl) s7.1 rfl ⟨Nat.le_of_ble_eq_true rfl, Nat.le_of_ble_eq_true rfl⟩ ?_
  have t90 : (zsh L7 (a + 6) (.inr (.inl (5, [some (a + 16), some (a + 28)])))) a = some (.inr (.inr (7, [none, none, none, some (.ref (a + 1)), some (.ref (a + 5)), some (.ref (a + 6)), some (.ref (a + 7))]))) := (zsh_o (by omega)).trans t86
  have t91 : (zsh L7 (a + 6) (.inr (.inl (5, [some (a + 16), some (a + 28)])))) (a + 5) = some (.inr (.inl (4, [some (a + 8), some (a + 10), some (a + 12), some (a + 14)]))) := (zsh_o (by omega)).trans t87
  have t92 : (zsh L7 (a + 6) (.inr (.inl (5, [some (a + 16), some (a + 28)])))) (a + 7) = some (.inl (0, 7)) := (zsh_o (by omega)).trans t89
  have t93 : (zsh L7 (a + 6) (.inr (.inl (5, [some (a + 16), some (a + 28)])))) (a + 6) = some (.inr (.inl (5, [some (a + 16), some (a + 28)]))) := zsh_s _ _ _
  refine z_iinc dX7_init_95 rfl (show nI 1 + Int32.ofInt (1) = nI 2 from by decide) rfl ?_
  refine z_goto (tgt := 77) dX7_init_98 (by decide) ?_
  refine z_iload_n dX7_init_77 rfl ?_
  refine z_iconst (v := nI 2) dX7_init_78 rfl ?_
  refine z_icmp_geN (tgt := 101) dX7_init_79 (by decide) (by omega) (by omega) (fun _ => ?_) (fun c => absurd c (by omega))
  refine z_return dX7_init_101 (Nat.le_of_ble_eq_true rfl) (Nat.le_of_ble_eq_true rfl) rfl ?_
  refine ⟨rfl, rfl, fun q hq => ⟨by (repeat (first | rw [zsh_o (by omega)] | rw [(m7 _ (by omega)).1] | rw [(m6 _ (by omega)).1] | rw [(m5 _ (by omega)).1] | rw [(m4 _ (by omega)).1] | rw [(m3 _ (by omega)).1] | rw [(m2 _ (by omega)).1] | rw [(m1 _ (by omega)).1])), by (repeat (first | rw [zset_a (by omega)] | rw [zup_a (by omega)] | rw [(m7 _ (by omega)).2] | rw [(m6 _ (by omega)).2] | rw [(m5 _ (by omega)).2] | rw [(m4 _ (by omega)).2] | rw [(m3 _ (by omega)).2] | rw [(m2 _ (by omega)).2] | rw [(m1 _ (by omega)).2]))⟩, ⟨t90, s1.cg (fun q h1 h2 => by (repeat (first | rw [zsh_o (by omega)] | rw [(m7 _ (by omega)).1] | rw [(m6 _ (by omega)).1] | rw [(m5 _ (by omega)).1] | rw [(m4 _ (by omega)).1] | rw [(m3 _ (by omega)).1] | rw [(m2 _ (by omega)).1] | rw [(m1 _ (by omega)).1]))), t91, t93, t92, fun k hk => by
      rcases (show k = 0 ∨ k = 1 ∨ k = 2 ∨ k = 3 by omega) with rfl | rfl | rfl | rfl
      · exact s2.cg (fun q h1 h2 => by (repeat (first | rw [zsh_o (by omega)] | rw [(m7 _ (by omega)).1] | rw [(m6 _ (by omega)).1] | rw [(m5 _ (by omega)).1] | rw [(m4 _ (by omega)).1] | rw [(m3 _ (by omega)).1] | rw [(m2 _ (by omega)).1] | rw [(m1 _ (by omega)).1])))
      · exact s3.cg (fun q h1 h2 => by (repeat (first | rw [zsh_o (by omega)] | rw [(m7 _ (by omega)).1] | rw [(m6 _ (by omega)).1] | rw [(m5 _ (by omega)).1] | rw [(m4 _ (by omega)).1] | rw [(m3 _ (by omega)).1] | rw [(m2 _ (by omega)).1] | rw [(m1 _ (by omega)).1])))
      · exact s4.cg (fun q h1 h2 => by (repeat (first | rw [zsh_o (by omega)] | rw [(m7 _ (by omega)).1] | rw [(m6 _ (by omega)).1] | rw [(m5 _ (by omega)).1] | rw [(m4 _ (by omega)).1] | rw [(m3 _ (by omega)).1] | rw [(m2 _ (by omega)).1] | rw [(m1 _ (by omega)).1])))
      · exact s5.cg (fun q h1 h2 => by (repeat (first | rw [zsh_o (by omega)] | rw [(m7 _ (by omega)).1] | rw [(m6 _ (by omega)).1] | rw [(m5 _ (by omega)).1] | rw [(m4 _ (by omega)).1] | rw [(m3 _ (by omega)).1] | rw [(m2 _ (by omega)).1] | rw [(m1 _ (by omega)).1]))), fun k hk => by
      rcases (show k = 0 ∨ k = 1 by omega) with rfl | rfl
      · exact s6.cg (fun q h1 h2 => by (repeat (first | rw [zsh_o (by omega)] | rw [(m7 _ (by omega)).1] | rw [(m6 _ (by omega)).1] | rw [(m5 _ (by omega)).1] | rw [(m4 _ (by omega)).1] | rw [(m3 _ (by omega)).1] | rw [(m2 _ (by omega)).1] | rw [(m1 _ (by omega)).1])))
      · exact s7.cg (fun q h1 h2 => by (repeat (first | rw [zsh_o (by omega)] | rw [(m7 _ (by omega)).1] | rw [(m6 _ (by omega)).1] | rw [(m5 _ (by omega)).1] | rw [(m4 _ (by omega)).1] | rw [(m3 _ (by omega)).1] | rw [(m2 _ (by omega)).1] | rw [(m1 _ (by omega)).1])))⟩, ?_⟩
  exact ⟨⟨by (repeat (first | rw [zset_a (by omega)] | rw [(m7 _ (by omega)).2] | rw [(m6 _ (by omega)).2] | rw [(m5 _ (by omega)).2] | rw [(m4 _ (by omega)).2] | rw [(m3 _ (by omega)).2] | rw [(m2 _ (by omega)).2] | rw [(m1 _ (by omega)).2])); exact (zup_k (by decide)).trans ((zup_k (by decide)).trans (hV 0)), by (repeat (first | rw [zset_a (by omega)] | rw [(m7 _ (by omega)).2] | rw [(m6 _ (by omega)).2] | rw [(m5 _ (by omega)).2] | rw [(m4 _ (by omega)).2] | rw [(m3 _ (by omega)).2] | rw [(m2 _ (by omega)).2] | rw [(m1 _ (by omega)).2])); exact (zup_k (by decide)).trans (zup_s _ _ _ _), by (repeat (first | rw [zset_a (by omega)] | rw [(m7 _ (by omega)).2] | rw [(m6 _ (by omega)).2] | rw [(m5 _ (by omega)).2] | rw [(m4 _ (by omega)).2] | rw [(m3 _ (by omega)).2] | rw [(m2 _ (by omega)).2] | rw [(m1 _ (by omega)).2])); exact zup_s _ _ _ _, by decide, by decide, by decide, by decide⟩, VE_cg c1 (fun q h1 h2 => by first | with_reducible rfl | (repeat (first | rw [zset_a (by omega)] | rw [zup_a (by omega)] | rw [(m7 _ (by omega)).2] | rw [(m6 _ (by omega)).2] | rw [(m5 _ (by omega)).2] | rw [(m4 _ (by omega)).2] | rw [(m3 _ (by omega)).2] | rw [(m2 _ (by omega)).2] | rw [(m1 _ (by omega)).2]))), fun k hk => by
      rcases (show k = 0 ∨ k = 1 ∨ k = 2 ∨ k = 3 by omega) with rfl | rfl | rfl | rfl
      · exact TR_cg c2 (fun q h1 h2 => by first | with_reducible rfl | (repeat (first | rw [zset_a (by omega)] | rw [zup_a (by omega)] | rw [(m7 _ (by omega)).2] | rw [(m6 _ (by omega)).2] | rw [(m5 _ (by omega)).2] | rw [(m4 _ (by omega)).2] | rw [(m3 _ (by omega)).2] | rw [(m2 _ (by omega)).2] | rw [(m1 _ (by omega)).2])))
      · exact TR_cg c3 (fun q h1 h2 => by first | with_reducible rfl | (repeat (first | rw [zset_a (by omega)] | rw [zup_a (by omega)] | rw [(m7 _ (by omega)).2] | rw [(m6 _ (by omega)).2] | rw [(m5 _ (by omega)).2] | rw [(m4 _ (by omega)).2] | rw [(m3 _ (by omega)).2] | rw [(m2 _ (by omega)).2] | rw [(m1 _ (by omega)).2])))
      · exact TR_cg c4 (fun q h1 h2 => by first | with_reducible rfl | (repeat (first | rw [zset_a (by omega)] | rw [zup_a (by omega)] | rw [(m7 _ (by omega)).2] | rw [(m6 _ (by omega)).2] | rw [(m5 _ (by omega)).2] | rw [(m4 _ (by omega)).2] | rw [(m3 _ (by omega)).2] | rw [(m2 _ (by omega)).2] | rw [(m1 _ (by omega)).2])))
      · exact TR_cg c5 (fun q h1 h2 => by first | with_reducible rfl | (repeat (first | rw [zset_a (by omega)] | rw [zup_a (by omega)] | rw [(m7 _ (by omega)).2] | rw [(m6 _ (by omega)).2] | rw [(m5 _ (by omega)).2] | rw [(m4 _ (by omega)).2] | rw [(m3 _ (by omega)).2] | rw [(m2 _ (by omega)).2] | rw [(m1 _ (by omega)).2]))), fun k hk => by
      rcases (show k = 0 ∨ k = 1 by omega) with rfl | rfl
      · exact IX_z (c6.cg (fun q h1 h2 => by first | with_reducible rfl | (repeat (first | rw [zset_a (by omega)] | rw [zup_a (by omega)] | rw [(m7 _ (by omega)).2] | rw [(m6 _ (by omega)).2] | rw [(m5 _ (by omega)).2] | rw [(m4 _ (by omega)).2] | rw [(m3 _ (by omega)).2] | rw [(m2 _ (by omega)).2] | rw [(m1 _ (by omega)).2]))))
      · exact IX_z (c7.cg (fun q h1 h2 => by first | with_reducible rfl | (repeat (first | rw [zset_a (by omega)] | rw [zup_a (by omega)] | rw [(m7 _ (by omega)).2] | rw [(m6 _ (by omega)).2] | rw [(m5 _ (by omega)).2] | rw [(m4 _ (by omega)).2] | rw [(m3 _ (by omega)).2] | rw [(m2 _ (by omega)).2] | rw [(m1 _ (by omega)).2]))))⟩

