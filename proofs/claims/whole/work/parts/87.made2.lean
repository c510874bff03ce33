/-! what is made: the constructors of the class -/
/-- only these addresses have changed -/
def mkd (L L' : zL) (V V' : zV) (lo hi : Nat) : Prop := ∀ q, q < lo ∨ hi ≤ q → L' q = L q ∧ V' q = V q
def zer (V : zV) (lo hi : Nat) : Prop := ∀ q, lo ≤ q → q < hi → ∀ k, V q k = 0
theorem zer.cg {V V' : zV} {lo hi : Nat} (h : zer V lo hi) (e : ∀ q, lo ≤ q → q < hi → V' q = V q) : zer V' lo hi := fun q h1 h2 k => by
  rw [e q h1 h2]
  exact h q h1 h2 k
theorem zer.cat {V : zV} {lo mi hi : Nat} (h : zer V lo mi) (h' : zer V mi hi) : zer V lo hi := fun q h1 h2 k => by
  rcases Nat.lt_or_ge q mi with c | c
  · exact h q h1 c k
  · exact h' q c h2 k
theorem zer.one {V : zV} {lo : Nat} (h : ∀ k, V lo k = 0) : zer V lo (lo + 1) := fun q h1 h2 k => by
  rw [show q = lo by omega]
  exact h k
section ZQ
variable {D : zD} {z0 d mc ms : Nat} {y : Mt} {cells slots pc : Nat} {lv : List (Option Value)} {st : List Value} {L : zL} {V : zV} {nx : Nat} {P : zP}
theorem z_callI0p {y' : Mt} {idx d' mc' ms' b : Nat} {P' : zP} (hd : decode y.2.1 pc = .ok (.invokespecial idx, 3)) (hY : zYc y' 0) (hlk : Cond.methodLink y.1.cls idx y'.1 ∈ zT) (hS : Sp D z0 d' mc' ms' y' [.ref b] L V nx P') (hsum : (st.map fun v => v.category).sum ≤ 8) (hdd : d' + 1 ≤ d) (hcs : cells + mc' ≤ mc ∧ slots + ms' ≤ ms) (kk : ∀ v L' V' nx', P' v L' V' nx' → Z D z0 d mc ms y (cells + mc') (slots + ms') (pc + 3) lv (v.toList ++ st) L' V' nx' P) : Z D z0 d mc ms y cells slots pc lv (.ref b :: st) L V nx P := z_callI (As := []) (st := st) hd hY hlk hS rfl rfl hsum hdd hcs kk
theorem z_callIN0p {y' : Mt} {host : String} {idx d' mc' ms' b : Nat} {P' : zP} (hd : decode y.2.1 pc = .ok (.invokespecial idx, 3)) (hY : zYc y' 0) (hlk : Cond.methodLinkNest y.1.cls idx y'.1 host ∈ zNs) (hS : Sp D z0 d' mc' ms' y' [.ref b] L V nx P') (hsum : (st.map fun v => v.category).sum ≤ 8) (hdd : d' + 1 ≤ d) (hcs : cells + mc' ≤ mc ∧ slots + ms' ≤ ms) (kk : ∀ v L' V' nx', P' v L' V' nx' → Z D z0 d mc ms y (cells + mc') (slots + ms') (pc + 3) lv (v.toList ++ st) L' V' nx' P) : Z D z0 d mc ms y cells slots pc lv (.ref b :: st) L V nx P := z_callIN (As := []) (st := st) hd hY hlk hS rfl rfl hsum hdd hcs kk
theorem z_aastN {a t b ci i : Nat} {fs : List (Option Value)} {r : vw_C} {rs : List (Option Nat)} (hd : decode y.2.1 pc = .ok (.aastore, 1)) (hL : L a = some (.inr (.inl (t, rs)))) (ht : ∀ D : zD, (ztys D)[t]? = some (D.2 t, .object r.1)) (hb : L b = some (.inr (.inr (ci, fs)))) (hc : vwCl[ci]? = some r) (hi : i < rs.length ∧ rs.length < 2147483648) (kk : Z D z0 d mc ms y cells slots (pc + 1) lv st (zsh L a (.inr (.inl (t, rs.set i (some b))))) V nx P) : Z D z0 d mc ms y cells slots pc lv (.ref b :: .int (nI i) :: .ref a :: st) L V nx P := z_aast hd hL ht hb hc (vpN hi.1 hi.2) (by rw [clN hi.1 hi.2]; exact kk)
end ZQ

set_option maxHeartbeats 4000000 in
set_option maxRecDepth 100000 in
theorem i_X0 {D : zD} {z0 : Nat} {L : zL} {V : zV} {a : Nat} (hL : L a = some (.inr (.inr (0, [none, none, none])))) (hV : ∀ k, V a k = 0) : Sp D z0 1 0 0 mX0_init [.ref a] L V (a + 1) (fun v L' V' nx' => v = none ∧ nx' = a + 1 ∧ mkd L L' V V' a (a + 1) ∧ sCo L' a ∧ zer V' a (a + 1)) := by
  refine Sp.of 0 (by decide) rfl rfl (Nat.le_of_ble_eq_true rfl) ?_
  refine z_aload_n dX0_init_0 rfl ?_
  refine z_objInit dX0_init_1 lX0_3 w_oi w_oc (Nat.le_of_ble_eq_true rfl) (Nat.le_of_ble_eq_true rfl) ?_
  refine z_return dX0_init_4 (Nat.le_of_ble_eq_true rfl) (Nat.le_of_ble_eq_true rfl) rfl ?_
  exact ⟨rfl, rfl, fun q hq => ⟨rfl, rfl⟩, hL, zer.one hV⟩

set_option maxHeartbeats 4000000 in
set_option maxRecDepth 100000 in
theorem i_X4 {D : zD} {z0 : Nat} {L : zL} {V : zV} {a : Nat} (hL : L a = some (.inr (.inr (4, [some .null, some .null, none])))) (hV : ∀ k, V a k = 0) : Sp D z0 1 2 6 mX4_init [.ref a] L V (a + 1) (fun v L' V' nx' => v = none ∧ nx' = a + 3 ∧ mkd L L' V V' a (a + 3) ∧ sOr L' a ∧ zer V' a (a + 3)) := by
  refine Sp.of 0 (by decide) rfl rfl (Nat.le_of_ble_eq_true rfl) ?_
  refine z_aload_n dX4_init_0 rfl ?_
  refine z_objInit dX4_init_1 lX4_3 w_oi w_oc (Nat.le_of_ble_eq_true rfl) (Nat.le_of_ble_eq_true rfl) ?_
  refine z_aload_n dX4_init_4 rfl ?_
  refine z_iconst (v := nI 3) dX4_init_5 rfl ?_
  refine z_newa (t := 0) (N := 3) (n := nI 3) dX4_init_6 (fun _ => rfl) (by decide) w_arr_int (nI_pos (by decide)) (nI_clamp (by decide)) rfl (Nat.le_of_ble_eq_true rfl) ⟨Nat.le_of_ble_eq_true rfl, Nat.le_of_ble_eq_true rfl⟩ ?_
  have t1 : (zsh L (a + 1) (.inl (0, 3))) a = some (.inr (.inr (4, [some .null, some .null, none]))) := (zsh_o (by omega)).trans hL
  have t2 : (zsh L (a + 1) (.inl (0, 3))) (a + 1) = some (.inl (0, 3)) := zsh_s _ _ _
  refine z_putR dX4_init_8 fX4_9 (Or.inr ⟨rfl, _, _, _, rfl, rfl⟩) ⟨rfl, rfl⟩ t1 (Nat.le_of_ble_eq_true rfl) ?_
  have t3 : (zsh (zsh L (a + 1) (.inl (0, 3))) a (.inr (.inr (4, [some (.ref (a + 1)), some .null, none])))) (a + 1) = some (.inl (0, 3)) := (zsh_o (by omega)).trans t2
  have t4 : (zsh (zsh L (a + 1) (.inl (0, 3))) a (.inr (.inr (4, [some (.ref (a + 1)), some .null, none])))) a = some (.inr (.inr (4, [some (.ref (a + 1)), some .null, none]))) := zsh_s _ _ _
  refine z_aload_n dX4_init_11 rfl ?_
  refine z_iconst (v := nI 3) dX4_init_12 rfl ?_
  refine z_newa (t := 1) (N := 3) (n := nI 3) dX4_init_13 (fun _ => rfl) (by decide) w_arr_boolean (nI_pos (by decide)) (nI_clamp (by decide)) rfl (Nat.le_of_ble_eq_true rfl) ⟨Nat.le_of_ble_eq_true rfl, Nat.le_of_ble_eq_true rfl⟩ ?_
  have t5 : (zsh (zsh (zsh L (a + 1) (.inl (0, 3))) a (.inr (.inr (4, [some (.ref (a + 1)), some .null, none])))) (a + 2) (.inl (1, 3))) a = some (.inr (.inr (4, [some (.ref (a + 1)), some .null, none]))) := (zsh_o (by omega)).trans t4
  have t6 : (zsh (zsh (zsh L (a + 1) (.inl (0, 3))) a (.inr (.inr (4, [some (.ref (a + 1)), some .null, none])))) (a + 2) (.inl (1, 3))) (a + 1) = some (.inl (0, 3)) := (zsh_o (by omega)).trans t3
  have t7 : (zsh (zsh (zsh L (a + 1) (.inl (0, 3))) a (.inr (.inr (4, [some (.ref (a + 1)), some .null, none])))) (a + 2) (.inl (1, 3))) (a + 2) = some (.inl (1, 3)) := zsh_s _ _ _
  refine z_putR dX4_init_15 fX4_15 (Or.inr ⟨rfl, _, _, _, rfl, rfl⟩) ⟨rfl, rfl⟩ t5 (Nat.le_of_ble_eq_true rfl) ?_
  have t8 : (zsh (zsh (zsh (zsh L (a + 1) (.inl (0, 3))) a (.inr (.inr (4, [some (.ref (a + 1)), some .null, none])))) (a + 2) (.inl (1, 3))) a (.inr (.inr (4, [some (.ref (a + 1)), some (.ref (a + 2)), none])))) (a + 1) = some (.inl (0, 3)) := (zsh_o (by omega)).trans t6
  have t9 : (zsh (zsh (zsh (zsh L (a + 1) (.inl (0, 3))) a (.inr (.inr (4, [some (.ref (a + 1)), some .null, none])))) (a + 2) (.inl (1, 3))) a (.inr (.inr (4, [some (.ref (a + 1)), some (.ref (a + 2)), none])))) (a + 2) = some (.inl (1, 3)) := (zsh_o (by omega)).trans t7
  have t10 : (zsh (zsh (zsh (zsh L (a + 1) (.inl (0, 3))) a (.inr (.inr (4, [some (.ref (a + 1)), some .null, none])))) (a + 2) (.inl (1, 3))) a (.inr (.inr (4, [some (.ref (a + 1)), some (.ref (a + 2)), none])))) a = some (.inr (.inr (4, [some (.ref (a + 1)), some (.ref (a + 2)), none]))) := zsh_s _ _ _
  refine z_return dX4_init_18 (Nat.le_of_ble_eq_true rfl) (Nat.le_of_ble_eq_true rfl) rfl ?_
  refine ⟨rfl, rfl, fun q hq => ⟨by (repeat (first | rw [zsh_o (by omega)])), by (repeat (first | rw [zset_a (by omega)] | rw [zup_a (by omega)]))⟩, ⟨t10, t8, t9⟩, ?_⟩
  exact fun q h1 h2 k => by
    rcases (show q = a ∨ q = (a + 1) ∨ q = (a + 2) by omega) with rfl | rfl | rfl
    · first | exact hV k | ((repeat (first | rw [zset_a (by omega)] | rw [zup_a (by omega)])); exact hV k)
    · first | exact congrFun (zset_s _ _ _) k | ((repeat (first | rw [zset_a (by omega)] | rw [zup_a (by omega)])); exact congrFun (zset_s _ _ _) k)
    · first | exact congrFun (zset_s _ _ _) k | ((repeat (first | rw [zset_a (by omega)] | rw [zup_a (by omega)])); exact congrFun (zset_s _ _ _) k)

set_option maxHeartbeats 4000000 in
set_option maxRecDepth 100000 in
theorem i_X6 {D : zD} {z0 : Nat} {L : zL} {V : zV} {a : Nat} (hL : L a = some (.inr (.inr (6, [some .null, none])))) (hV : ∀ k, V a k = 0) : Sp D z0 1 1 48 mX6_init [.ref a] L V (a + 1) (fun v L' V' nx' => v = none ∧ nx' = a + 2 ∧ mkd L L' V V' a (a + 2) ∧ sSC L' a ∧ zer V' a (a + 2)) := by
  refine Sp.of 0 (by decide) rfl rfl (Nat.le_of_ble_eq_true rfl) ?_
  refine z_aload_n dX6_init_0 rfl ?_
  refine z_objInit dX6_init_1 lX6_3 w_oi w_oc (Nat.le_of_ble_eq_true rfl) (Nat.le_of_ble_eq_true rfl) ?_
  refine z_aload_n dX6_init_4 rfl ?_
  refine z_bipush (v := nI 48) dX6_init_5 rfl ?_
  refine z_newa (t := 0) (N := 48) (n := nI 48) dX6_init_7 (fun _ => rfl) (by decide) w_arr_int (nI_pos (by decide)) (nI_clamp (by decide)) rfl (Nat.le_of_ble_eq_true rfl) ⟨Nat.le_of_ble_eq_true rfl, Nat.le_of_ble_eq_true rfl⟩ ?_
  have t1 : (zsh L (a + 1) (.inl (0, 48))) a = some (.inr (.inr (6, [some .null, none]))) := (zsh_o (by omega)).trans hL
  have t2 : (zsh L (a + 1) (.inl (0, 48))) (a + 1) = some (.inl (0, 48)) := zsh_s _ _ _
  refine z_putR dX6_init_9 fX6_9 (Or.inr ⟨rfl, _, _, _, rfl, rfl⟩) ⟨rfl, rfl⟩ t1 (Nat.le_of_ble_eq_true rfl) ?_
  have t3 : (zsh (zsh L (a + 1) (.inl (0, 48))) a (.inr (.inr (6, [some (.ref (a + 1)), none])))) (a + 1) = some (.inl (0, 48)) := (zsh_o (by omega)).trans t2
  have t4 : (zsh (zsh L (a + 1) (.inl (0, 48))) a (.inr (.inr (6, [some (.ref (a + 1)), none])))) a = some (.inr (.inr (6, [some (.ref (a + 1)), none]))) := zsh_s _ _ _
  refine z_return dX6_init_12 (Nat.le_of_ble_eq_true rfl) (Nat.le_of_ble_eq_true rfl) rfl ?_
  refine ⟨rfl, rfl, fun q hq => ⟨by (repeat (first | rw [zsh_o (by omega)])), by (repeat (first | rw [zset_a (by omega)] | rw [zup_a (by omega)]))⟩, ⟨t4, t3⟩, ?_⟩
  exact fun q h1 h2 k => by
    rcases (show q = a ∨ q = (a + 1) by omega) with rfl | rfl
    · first | exact hV k | ((repeat (first | rw [zset_a (by omega)] | rw [zup_a (by omega)])); exact hV k)
    · first | exact congrFun (zset_s _ _ _) k | ((repeat (first | rw [zset_a (by omega)] | rw [zup_a (by omega)])); exact congrFun (zset_s _ _ _) k)

set_option maxHeartbeats 4000000 in
set_option maxRecDepth 100000 in
theorem i_X2 {D : zD} {z0 : Nat} {L : zL} {V : zV} {a : Nat} (hL : L a = some (.inr (.inr (2, [some .null, none, none])))) (hV : ∀ k, V a k = 0) : Sp D z0 1 1 120 mX2_init [.ref a] L V (a + 1) (fun v L' V' nx' => v = none ∧ nx' = a + 2 ∧ mkd L L' V V' a (a + 2) ∧ sLg L' a ∧ zer V' a (a + 2)) := by
  refine Sp.of 0 (by decide) rfl rfl (Nat.le_of_ble_eq_true rfl) ?_
  refine z_aload_n dX2_init_0 rfl ?_
  refine z_objInit dX2_init_1 lX2_3 w_oi w_oc (Nat.le_of_ble_eq_true rfl) (Nat.le_of_ble_eq_true rfl) ?_
  refine z_aload_n dX2_init_4 rfl ?_
  refine z_bipush (v := nI 120) dX2_init_5 rfl ?_
  refine z_newa (t := 0) (N := 120) (n := nI 120) dX2_init_7 (fun _ => rfl) (by decide) w_arr_int (nI_pos (by decide)) (nI_clamp (by decide)) rfl (Nat.le_of_ble_eq_true rfl) ⟨Nat.le_of_ble_eq_true rfl, Nat.le_of_ble_eq_true rfl⟩ ?_
  have t1 : (zsh L (a + 1) (.inl (0, 120))) a = some (.inr (.inr (2, [some .null, none, none]))) := (zsh_o (by omega)).trans hL
  have t2 : (zsh L (a + 1) (.inl (0, 120))) (a + 1) = some (.inl (0, 120)) := zsh_s _ _ _
  refine z_putR dX2_init_9 fX2_9 (Or.inr ⟨rfl, _, _, _, rfl, rfl⟩) ⟨rfl, rfl⟩ t1 (Nat.le_of_ble_eq_true rfl) ?_
  have t3 : (zsh (zsh L (a + 1) (.inl (0, 120))) a (.inr (.inr (2, [some (.ref (a + 1)), none, none])))) (a + 1) = some (.inl (0, 120)) := (zsh_o (by omega)).trans t2
  have t4 : (zsh (zsh L (a + 1) (.inl (0, 120))) a (.inr (.inr (2, [some (.ref (a + 1)), none, none])))) a = some (.inr (.inr (2, [some (.ref (a + 1)), none, none]))) := zsh_s _ _ _
  refine z_return dX2_init_12 (Nat.le_of_ble_eq_true rfl) (Nat.le_of_ble_eq_true rfl) rfl ?_
  refine ⟨rfl, rfl, fun q hq => ⟨by (repeat (first | rw [zsh_o (by omega)])), by (repeat (first | rw [zset_a (by omega)] | rw [zup_a (by omega)]))⟩, ⟨t4, t3⟩, ?_⟩
  exact fun q h1 h2 k => by
    rcases (show q = a ∨ q = (a + 1) by omega) with rfl | rfl
    · first | exact hV k | ((repeat (first | rw [zset_a (by omega)] | rw [zup_a (by omega)])); exact hV k)
    · first | exact congrFun (zset_s _ _ _) k | ((repeat (first | rw [zset_a (by omega)] | rw [zup_a (by omega)])); exact congrFun (zset_s _ _ _) k)

set_option maxHeartbeats 4000000 in
set_option maxRecDepth 100000 in
theorem i_X1 {D : zD} {z0 : Nat} {L : zL} {V : zV} {a : Nat} (hL : L a = some (.inr (.inr (1, [some .null, none, none, some .null])))) (hV : ∀ k, V a k = 0) : Sp D z0 2 4 12 mX1_init [.ref a] L V (a + 1) (fun v L' V' nx' => v = none ∧ nx' = a + 5 ∧ mkd L L' V V' a (a + 5) ∧ sDf L' a ∧ zer V' a (a + 5)) := by
  refine Sp.of 0 (by decide) rfl rfl (Nat.le_of_ble_eq_true rfl) ?_
  refine z_aload_n dX1_init_0 rfl ?_
  refine z_objInit dX1_init_1 lX1_3 w_oi w_oc (Nat.le_of_ble_eq_true rfl) (Nat.le_of_ble_eq_true rfl) ?_
  refine z_aload_n dX1_init_4 rfl ?_
  refine z_new (N := 3) dX1_init_5 nwX1_9 rfl ⟨Nat.le_of_ble_eq_true rfl, Nat.le_of_ble_eq_true rfl⟩ ?_
  have t1 : (zsh L (a + 1) (.inr (.inr (4, [some .null, some .null, none])))) a = some (.inr (.inr (1, [some .null, none, none, some .null]))) := (zsh_o (by omega)).trans hL
  refine z_dup dX1_init_8 rfl ?_
  refine z_callIN0p dX1_init_9 kX4_init lX1_11 (i_X4 (a := (a + 1)) (zsh_s _ _ _) (fun _ => congrFun (zset_s _ _ _) _)) (Nat.le_of_ble_eq_true rfl) (Nat.le_of_ble_eq_true rfl) ⟨Nat.le_of_ble_eq_true rfl, Nat.le_of_ble_eq_true rfl⟩ ?_
  intro v1 L1 V1 n1 h1
  obtain ⟨rfl, rfl, m1, s1, c1⟩ := h1
  have t2 : L1 a = some (.inr (.inr (1, [some .null, none, none, some .null]))) := (m1 _ (by omega)).1.trans t1
  refine z_putR dX1_init_12 fX1_12 (Or.inr ⟨rfl, _, _, _, rfl, rfl⟩) ⟨rfl, rfl⟩ t2 (Nat.le_of_ble_eq_true rfl) ?_
  have t3 : (zsh L1 a (.inr (.inr (1, [some (.ref (a + 1)), none, none, some .null])))) a = some (.inr (.inr (1, [some (.ref (a + 1)), none, none, some .null]))) := zsh_s _ _ _
  refine z_aload_n dX1_init_15 rfl ?_
  refine z_new (N := 3) dX1_init_16 nwX1_18 rfl ⟨Nat.le_of_ble_eq_true rfl, Nat.le_of_ble_eq_true rfl⟩ ?_
  have t4 : (zsh (zsh L1 a (.inr (.inr (1, [some (.ref (a + 1)), none, none, some .null])))) (a + 4) (.inr (.inr (0, [none, none, none])))) a = some (.inr (.inr (1, [some (.ref (a + 1)), none, none, some .null]))) := (zsh_o (by omega)).trans t3
  refine z_dup dX1_init_19 rfl ?_
  refine z_callIN0p dX1_init_20 kX0_init lX1_20 (i_X0 (a := (a + 4)) (zsh_s _ _ _) (fun _ => congrFun (zset_s _ _ _) _)) (Nat.le_of_ble_eq_true rfl) (Nat.le_of_ble_eq_true rfl) ⟨Nat.le_of_ble_eq_true rfl, Nat.le_of_ble_eq_true rfl⟩ ?_
  intro v2 L2 V2 n2 h2
  obtain ⟨rfl, rfl, m2, s2, c2⟩ := h2
  have t5 : L2 a = some (.inr (.inr (1, [some (.ref (a + 1)), none, none, some .null]))) := (m2 _ (by omega)).1.trans t4
  refine z_putR dX1_init_23 fX1_21 (Or.inr ⟨rfl, _, _, _, rfl, rfl⟩) ⟨rfl, rfl⟩ t5 (Nat.le_of_ble_eq_true rfl) ?_
  have t6 : (zsh L2 a (.inr (.inr (1, [some (.ref (a + 1)), none, none, some (.ref (a + 4))])))) a = some (.inr (.inr (1, [some (.ref (a + 1)), none, none, some (.ref (a + 4))]))) := zsh_s _ _ _
  refine z_return dX1_init_26 (Nat.le_of_ble_eq_true rfl) (Nat.le_of_ble_eq_true rfl) rfl ?_
  refine ⟨rfl, rfl, fun q hq => ⟨by (repeat (first | rw [zsh_o (by omega)] | rw [(m2 _ (by omega)).1] | rw [(m1 _ (by omega)).1])), by (repeat (first | rw [zset_a (by omega)] | rw [zup_a (by omega)] | rw [(m2 _ (by omega)).2] | rw [(m1 _ (by omega)).2]))⟩, ⟨t6, s1.cg (fun q h1 h2 => by (repeat (first | rw [zsh_o (by omega)] | rw [(m2 _ (by omega)).1] | rw [(m1 _ (by omega)).1]))), s2.cg (fun q h1 h2 => by (repeat (first | rw [zsh_o (by omega)] | rw [(m2 _ (by omega)).1] | rw [(m1 _ (by omega)).1])))⟩, ?_⟩
  exact fun q h1 h2 k => by
    rcases (show q = a ∨ ((a + 1) ≤ q ∧ q < (a + 4)) ∨ ((a + 4) ≤ q ∧ q < (a + 5)) by omega) with rfl | hq | hq
    · first | exact hV k | ((repeat (first | rw [zset_a (by omega)] | rw [zup_a (by omega)] | rw [(m2 _ (by omega)).2] | rw [(m1 _ (by omega)).2])); exact hV k)
    · first | exact c1 q hq.1 hq.2 k | ((repeat (first | rw [zset_a (by omega)] | rw [zup_a (by omega)] | rw [(m2 _ (by omega)).2] | rw [(m1 _ (by omega)).2])); exact c1 q hq.1 hq.2 k)
    · first | exact c2 q hq.1 hq.2 k | ((repeat (first | rw [zset_a (by omega)] | rw [zup_a (by omega)] | rw [(m2 _ (by omega)).2] | rw [(m1 _ (by omega)).2])); exact c2 q hq.1 hq.2 k)

set_option maxHeartbeats 4000000 in
set_option maxRecDepth 100000 in
theorem i_X3 {D : zD} {z0 : Nat} {L : zL} {V : zV} {a : Nat} (hL : L a = some (.inr (.inr (3, [none, none, none, none, none, some .null, some .null, some .null, some .null])))) (hV : ∀ k, V a k = 0) : Sp D z0 3 11 312 mX3_init [.ref a] L V (a + 1) (fun v L' V' nx' => v = none ∧ nx' = a + 12 ∧ mkd L L' V V' a (a + 12) ∧ sIx L' a ∧ zer V' a (a + 12)) := by
  refine Sp.of 0 (by decide) rfl rfl (Nat.le_of_ble_eq_true rfl) ?_
  refine z_aload_n dX3_init_0 rfl ?_
  refine z_objInit dX3_init_1 lX3_3 w_oi w_oc (Nat.le_of_ble_eq_true rfl) (Nat.le_of_ble_eq_true rfl) ?_
  refine z_aload_n dX3_init_4 rfl ?_
  refine z_new (N := 4) dX3_init_5 nwX3_9 rfl ⟨Nat.le_of_ble_eq_true rfl, Nat.le_of_ble_eq_true rfl⟩ ?_
  have t1 : (zsh L (a + 1) (.inr (.inr (1, [some .null, none, none, some .null])))) a = some (.inr (.inr (3, [none, none, none, none, none, some .null, some .null, some .null, some .null]))) := (zsh_o (by omega)).trans hL
  refine z_dup dX3_init_8 rfl ?_
  refine z_callIN0p dX3_init_9 kX1_init lX3_11 (i_X1 (a := (a + 1)) (zsh_s _ _ _) (fun _ => congrFun (zset_s _ _ _) _)) (Nat.le_of_ble_eq_true rfl) (Nat.le_of_ble_eq_true rfl) ⟨Nat.le_of_ble_eq_true rfl, Nat.le_of_ble_eq_true rfl⟩ ?_
  intro v1 L1 V1 n1 h1
  obtain ⟨rfl, rfl, m1, s1, c1⟩ := h1
  have t2 : L1 a = some (.inr (.inr (3, [none, none, none, none, none, some .null, some .null, some .null, some .null]))) := (m1 _ (by omega)).1.trans t1
  refine z_putR dX3_init_12 fX3_12 (Or.inr ⟨rfl, _, _, _, rfl, rfl⟩) ⟨rfl, rfl⟩ t2 (Nat.le_of_ble_eq_true rfl) ?_
  have t3 : (zsh L1 a (.inr (.inr (3, [none, none, none, none, none, some (.ref (a + 1)), some .null, some .null, some .null])))) a = some (.inr (.inr (3, [none, none, none, none, none, some (.ref (a + 1)), some .null, some .null, some .null]))) := zsh_s _ _ _
  refine z_aload_n dX3_init_15 rfl ?_
  refine z_new (N := 2) dX3_init_16 nwX3_18 rfl ⟨Nat.le_of_ble_eq_true rfl, Nat.le_of_ble_eq_true rfl⟩ ?_
  have t4 : (zsh (zsh L1 a (.inr (.inr (3, [none, none, none, none, none, some (.ref (a + 1)), some .null, some .null, some .null])))) (a + 6) (.inr (.inr (6, [some .null, none])))) a = some (.inr (.inr (3, [none, none, none, none, none, some (.ref (a + 1)), some .null, some .null, some .null]))) := (zsh_o (by omega)).trans t3
  refine z_dup dX3_init_19 rfl ?_
  refine z_callIN0p dX3_init_20 kX6_init lX3_20 (i_X6 (a := (a + 6)) (zsh_s _ _ _) (fun _ => congrFun (zset_s _ _ _) _)) (Nat.le_of_ble_eq_true rfl) (Nat.le_of_ble_eq_true rfl) ⟨Nat.le_of_ble_eq_true rfl, Nat.le_of_ble_eq_true rfl⟩ ?_
  intro v2 L2 V2 n2 h2
  obtain ⟨rfl, rfl, m2, s2, c2⟩ := h2
  have t5 : L2 a = some (.inr (.inr (3, [none, none, none, none, none, some (.ref (a + 1)), some .null, some .null, some .null]))) := (m2 _ (by omega)).1.trans t4
  refine z_putR dX3_init_23 fX3_21 (Or.inr ⟨rfl, _, _, _, rfl, rfl⟩) ⟨rfl, rfl⟩ t5 (Nat.le_of_ble_eq_true rfl) ?_
  have t6 : (zsh L2 a (.inr (.inr (3, [none, none, none, none, none, some (.ref (a + 1)), some (.ref (a + 6)), some .null, some .null])))) a = some (.inr (.inr (3, [none, none, none, none, none, some (.ref (a + 1)), some (.ref (a + 6)), some .null, some .null]))) := zsh_s _ _ _
  refine z_aload_n dX3_init_26 rfl ?_
  refine z_new (N := 3) dX3_init_27 nwX3_25 rfl ⟨Nat.le_of_ble_eq_true rfl, Nat.le_of_ble_eq_true rfl⟩ ?_
  have t7 : (zsh (zsh L2 a (.inr (.inr (3, [none, none, none, none, none, some (.ref (a + 1)), some (.ref (a + 6)), some .null, some .null])))) (a + 8) (.inr (.inr (2, [some .null, none, none])))) a = some (.inr (.inr (3, [none, none, none, none, none, some (.ref (a + 1)), some (.ref (a + 6)), some .null, some .null]))) := (zsh_o (by omega)).trans t6
  refine z_dup dX3_init_30 rfl ?_
  refine z_callIN0p dX3_init_31 kX2_init lX3_27 (i_X2 (a := (a + 8)) (zsh_s _ _ _) (fun _ => congrFun (zset_s _ _ _) _)) (Nat.le_of_ble_eq_true rfl) (Nat.le_of_ble_eq_true rfl) ⟨Nat.le_of_ble_eq_true rfl, Nat.le_of_ble_eq_true rfl⟩ ?_
  intro v3 L3 V3 n3 h3
  obtain ⟨rfl, rfl, m3, s3, c3⟩ := h3
  have t8 : L3 a = some (.inr (.inr (3, [none, none, none, none, none, some (.ref (a + 1)), some (.ref (a + 6)), some .null, some .null]))) := (m3 _ (by omega)).1.trans t7
  refine z_putR dX3_init_34 fX3_28 (Or.inr ⟨rfl, _, _, _, rfl, rfl⟩) ⟨rfl, rfl⟩ t8 (Nat.le_of_ble_eq_true rfl) ?_
  have t9 : (zsh L3 a (.inr (.inr (3, [none, none, none, none, none, some (.ref (a + 1)), some (.ref (a + 6)), some (.ref (a + 8)), some .null])))) a = some (.inr (.inr (3, [none, none, none, none, none, some (.ref (a + 1)), some (.ref (a + 6)), some (.ref (a + 8)), some .null]))) := zsh_s _ _ _
  refine z_aload_n dX3_init_37 rfl ?_
  refine z_new (N := 3) dX3_init_38 nwX3_25 rfl ⟨Nat.le_of_ble_eq_true rfl, Nat.le_of_ble_eq_true rfl⟩ ?_
  have t10 : (zsh (zsh L3 a (.inr (.inr (3, [none, none, none, none, none, some (.ref (a + 1)), some (.ref (a + 6)), some (.ref (a + 8)), some .null])))) (a + 10) (.inr (.inr (2, [some .null, none, none])))) a = some (.inr (.inr (3, [none, none, none, none, none, some (.ref (a + 1)), some (.ref (a + 6)), some (.ref (a + 8)), some .null]))) := (zsh_o (by omega)).trans t9
  refine z_dup dX3_init_41 rfl ?_
  refine z_callIN0p dX3_init_42 kX2_init lX3_27 (i_X2 (a := (a + 10)) (zsh_s _ _ _) (fun _ => congrFun (zset_s _ _ _) _)) (Nat.le_of_ble_eq_true rfl) (Nat.le_of_ble_eq_true rfl) ⟨Nat.le_of_ble_eq_true rfl, Nat.le_of_ble_eq_true rfl⟩ ?_
  intro v4 L4 V4 n4 h4
  obtain ⟨rfl, rfl, m4, s4, c4⟩ := h4
  have t11 : L4 a = some (.inr (.inr (3, [none, none, none, none, none, some (.ref (a + 1)), some (.ref (a + 6)), some (.ref (a + 8)), some .null]))) := (m4 _ (by omega)).1.trans t10
  refine z_putR dX3_init_45 fX3_32 (Or.inr ⟨rfl, _, _, _, rfl, rfl⟩) ⟨rfl, rfl⟩ t11 (Nat.le_of_ble_eq_true rfl) ?_
  have t12 : (zsh L4 a (.inr (.inr (3, [none, none, none, none, none, some (.ref (a + 1)), some (.ref (a + 6)), some (.ref (a + 8)), some (.ref (a + 10))])))) a = some (.inr (.inr (3, [none, none, none, none, none, some (.ref (a + 1)), some (.ref (a + 6)), some (.ref (a + 8)), some (.ref (a + 10))]))) := zsh_s _ _ _
  refine z_return dX3_init_48 (Nat.le_of_ble_eq_true rfl) (Nat.le_of_ble_eq_true rfl) rfl ?_
  refine ⟨rfl, rfl, fun q hq => ⟨by (repeat (first | rw [zsh_o (by omega)] | rw [(m4 _ (by omega)).1] | rw [(m3 _ (by omega)).1] | rw [(m2 _ (by omega)).1] | rw [(m1 _ (by omega)).1])), by (repeat (first | rw [zset_a (by omega)] | rw [zup_a (by omega)] | rw [(m4 _ (by omega)).2] | rw [(m3 _ (by omega)).2] | rw [(m2 _ (by omega)).2] | rw [(m1 _ (by omega)).2]))⟩, ⟨t12, s1.cg (fun q h1 h2 => by (repeat (first | rw [zsh_o (by omega)] | rw [(m4 _ (by omega)).1] | rw [(m3 _ (by omega)).1] | rw [(m2 _ (by omega)).1] | rw [(m1 _ (by omega)).1]))), s2.cg (fun q h1 h2 => by (repeat (first | rw [zsh_o (by omega)] | rw [(m4 _ (by omega)).1] | rw [(m3 _ (by omega)).1] | rw [(m2 _ (by omega)).1] | rw [(m1 _ (by omega)).1]))), s3.cg (fun q h1 h2 => by (repeat (first | rw [zsh_o (by omega)] | rw [(m4 _ (by omega)).1] | rw [(m3 _ (by omega)).1] | rw [(m2 _ (by omega)).1] | rw [(m1 _ (by omega)).1]))), s4.cg (fun q h1 h2 => by (repeat (first | rw [zsh_o (by omega)] | rw [(m4 _ (by omega)).1] | rw [(m3 _ (by omega)).1] | rw [(m2 _ (by omega)).1] | rw [(m1 _ (by omega)).1])))⟩, ?_⟩
  exact fun q h1 h2 k => by
    rcases (show q = a ∨ ((a + 1) ≤ q ∧ q < (a + 6)) ∨ ((a + 6) ≤ q ∧ q < (a + 8)) ∨ ((a + 8) ≤ q ∧ q < (a + 10)) ∨ ((a + 10) ≤ q ∧ q < (a + 12)) by omega) with rfl | hq | hq | hq | hq
    · first | exact hV k | ((repeat (first | rw [zset_a (by omega)] | rw [zup_a (by omega)] | rw [(m4 _ (by omega)).2] | rw [(m3 _ (by omega)).2] | rw [(m2 _ (by omega)).2] | rw [(m1 _ (by omega)).2])); exact hV k)
    · first | exact c1 q hq.1 hq.2 k | ((repeat (first | rw [zset_a (by omega)] | rw [zup_a (by omega)] | rw [(m4 _ (by omega)).2] | rw [(m3 _ (by omega)).2] | rw [(m2 _ (by omega)).2] | rw [(m1 _ (by omega)).2])); exact c1 q hq.1 hq.2 k)
    · first | exact c2 q hq.1 hq.2 k | ((repeat (first | rw [zset_a (by omega)] | rw [zup_a (by omega)] | rw [(m4 _ (by omega)).2] | rw [(m3 _ (by omega)).2] | rw [(m2 _ (by omega)).2] | rw [(m1 _ (by omega)).2])); exact c2 q hq.1 hq.2 k)
    · first | exact c3 q hq.1 hq.2 k | ((repeat (first | rw [zset_a (by omega)] | rw [zup_a (by omega)] | rw [(m4 _ (by omega)).2] | rw [(m3 _ (by omega)).2] | rw [(m2 _ (by omega)).2] | rw [(m1 _ (by omega)).2])); exact c3 q hq.1 hq.2 k)
    · first | exact c4 q hq.1 hq.2 k | ((repeat (first | rw [zset_a (by omega)] | rw [zup_a (by omega)] | rw [(m4 _ (by omega)).2] | rw [(m3 _ (by omega)).2] | rw [(m2 _ (by omega)).2] | rw [(m1 _ (by omega)).2])); exact c4 q hq.1 hq.2 k)

