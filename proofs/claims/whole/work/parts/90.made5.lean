/-! what is made: the reference -/
def wd (V : zV) (b i : Nat) : Prop := ∀ k, k < i → V b k = nI (wdt.getD k 0)
section ZK
variable {D : zD} {z0 d mc ms : Nat} {y : Mt} {cells slots pc : Nat} {lv : List (Option Value)} {st : List Value} {L : zL} {V : zV} {nx : Nat} {P : zP}
theorem z_newag {t N : Nat} {n : Int32} {aty : ArrayType} (hd : decode y.2.1 pc = .ok (.newarray aty, 2)) (hty : ∀ D : zD, (ztys D)[t]? = some (D.2 t, newarray.typeOf aty)) (ht : t < 3) (hw : Cond.arrayClass (newarray.typeOf aty) ∈ zT) (hn : ¬ n < 0) (hN : n.toNatClampNeg = N) (hdef : defaultValue (newarray.typeOf aty) = .int 0) (hbytes : N * componentBytes (newarray.typeOf aty) ≤ 536870912) (hcs : cells + 1 ≤ mc ∧ slots + N ≤ ms) (kk : ∀ (L' : zL) (V' : zV), L' nx = some (.inl (t, N)) → (∀ q, q ≠ nx → L' q = L q) → (∀ k, V' nx k = 0) → (∀ q, q ≠ nx → V' q = V q) → Z D z0 d mc ms y (cells + 1) (slots + N) (pc + 2) lv (.ref nx :: st) L' V' (nx + 1) P) : Z D z0 d mc ms y cells slots pc lv (.int n :: st) L V nx P := z_newa hd hty ht hw hn hN hdef hbytes hcs (kk _ _ (zsh_s _ _ _) (fun q h => zsh_o h) (fun k => congrFun (zset_s _ _ _) k) (fun q h => zset_a h))
theorem z_putRg {idx ci k a b : Nat} {fin : Bool} {ft : FieldType} {fs fs' : List (Option Value)} (hd : decode y.2.1 pc = .ok (.putfield idx, 3)) (hF : zF y.1.cls idx ci k fin ft) (hfin : fin = false ∨ y.1.name = "<init>" ∧ (∃ C T N, vwCl[ci]? = some (C, T, N) ∧ C = y.1.cls)) (hft : narrow ft (.ref b) = .ref b ∧ fits ft (.ref b) = true) (hL : L a = some (.inr (.inr (ci, fs)))) (hk : k < fs.length) (hs : fs.set k (some (.ref b)) = fs') (kk : ∀ L' : zL, L' a = some (.inr (.inr (ci, fs'))) → (∀ q, q ≠ a → L' q = L q) → Z D z0 d mc ms y cells slots (pc + 3) lv st L' V nx P) : Z D z0 d mc ms y cells slots pc lv (.ref b :: .ref a :: st) L V nx P := z_putR hd hF hfin hft hL hk (by rw [hs]; exact kk _ (zsh_s _ _ _) (fun q h => zsh_o h))
theorem z_wd {i b : Nat} {x : Int32} {V0 : zV} (hd : decode y.2.1 pc = .ok (.bastore, 1)) (hL : L b = some (.inl (2, 45))) (hi : i < 45) (hx : x.toInt8.toInt32 = nI (wdt.getD i 0)) (hw : wd V b i ∧ ∀ q, q ≠ b → V q = V0 q) (kk : ∀ V' : zV, (wd V' b (i + 1) ∧ ∀ q, q ≠ b → V' q = V0 q) → Z D z0 d mc ms y cells slots (pc + 1) lv st L V' nx P) : Z D z0 d mc ms y cells slots pc lv (.int x :: .int (nI i) :: .ref b :: st) L V nx P := z_bast hd hL (vpN hi (by decide)) (by
  rw [clN hi (by decide)]
  refine kk _ ⟨fun k hk => ?_, fun q hq => (zup_a hq).trans (hw.2 q hq)⟩
  by_cases e : k = i
  · rw [e, zup_s]
    exact hx
  · rw [zup_k e]
    exact hw.1 k (by omega))
end ZK
theorem MVr_0 {f : Nat → Int32} {r : Nat} (h1 : f (1920 + r) = nI 1) (h2 : f (40 * r) = 0) (h3 : f (40 * r + 1) = 0) : MVr f r [(0, none)] := ⟨h1, by simp, by simp, fun k hk => by
  have hk0 : k = 0 := by simp at hk; omega
  subst hk0
  exact ⟨h2, by decide, h3⟩⟩
theorem MT_0 {f : Nat → Int32} {b : Nat} (h : ∀ j, j < 3 → f (b + j) = 0) : MT f b (false, 0, fun _ => none) := ⟨(h 0 (by omega)).trans (zb_f (by simp)).symm, h 1 (by omega), by decide, [], h 2 (by omega), by simp, cn_0 (fun r _ => by simp), fun k hk => absurd hk (by simp), fun j k _ hk => absurd hk (by simp), fun r _ x h => by cases h⟩

set_option maxHeartbeats 4000000 in
set_option maxRecDepth 100000 in
theorem lp_i12 {D : zD} {z0 nx : Nat} {L : zL} {V : zV} {mc ms cells slots : Nat} {m : Nat} (hm : sM L m) (hr : ∀ k, V (m + 1) k = 0) {P : zP} (K : ∀ V2, (∀ q, q ≠ m + 1 → V2 q = V q) → (∀ k, V2 (m + 1) k = if 1920 ≤ k ∧ k < 1968 then nI 1 else 0) → Z D z0 3 mc ms mX12_init cells slots 409 [some (.ref m), none] [] L V2 nx P) : ∀ (fu : Nat) (i : Nat) (V1 : zV), 48 - i = fu → i ≤ 48 → (∀ q, q ≠ m + 1 → V1 q = V q) → (∀ k, V1 (m + 1) k = if 1920 ≤ k ∧ k < 1920 + i then nI 1 else 0) → Z D z0 3 mc ms mX12_init cells slots 386 [some (.ref m), some (.int (nI i))] [] L V1 nx (P) := by
  intro fu
  induction fu using Nat.strongRecOn with
  | ind fu ih =>
    intro i V1 h_fu h_0 h_1 h_2
    have hA := hm.1
    have hB := hm.2.1
    refine z_iload_n dX12_init_386 rfl ?_
    refine z_bipush (v := nI 48) dX12_init_387 rfl ?_
    refine z_icmp_geN (tgt := 409) dX12_init_389 (by decide) (by omega) (by omega) (fun c_389 => ?_) (fun c_389 => ?_)
    · refine z_fg 1 ?_
      exact K V1 h_1 (fun k => by rw [h_2, show i = 48 by omega])
    · refine z_aload_n dX12_init_392 rfl ?_
      refine z_getR dX12_init_393 fX12_13 (by first | assumption | exact And.left (by assumption)) rfl ?_
      refine z_sipush (v := nI 1920) dX12_init_396 rfl ?_
      refine z_iload_n dX12_init_399 rfl ?_
      refine z_addN dX12_init_400 ?_
      refine z_iconst (v := nI 1) dX12_init_401 rfl ?_
      refine z_iastN dX12_init_402 (by first | assumption | exact And.left (by assumption)) (by omega) (by decide) ?_
      refine z_incN dX12_init_403 rfl rfl ?_
      refine z_goto (tgt := 386) dX12_init_406 (by decide) ?_
      refine ih _ (by omega) (i + 1) _ rfl (by omega) (fun q hq => by rw [zup_a hq]; exact h_1 q hq) (fun k => ?_)
      by_cases e : k = 1920 + i
      · rw [e, zup_s, if_pos (by omega)] <;> rfl
      · rw [zup_k e, h_2]
        by_cases c : 1920 ≤ k ∧ k < 1920 + i
        · rw [if_pos c, if_pos (by omega)]
        · rw [if_neg c, if_neg (by omega)]

set_option maxHeartbeats 4000000 in
set_option maxRecDepth 100000 in
theorem i_X12 {D : zD} {z0 : Nat} {L : zL} {V : zV} {a : Nat} (hL : L a = some (.inr (.inr (12, [none, some .null, some .null, none, some .null, some .null, none, some .null, some .null, none, none, none, none, none, some .null, some .null, none, none, none, none, none, some .null, some .null, some .null, none, none, none, some .null, none, none, some .null, some .null, some .null, none])))) (hV : ∀ k, V a k = 0) : Sp D z0 3 15 59077 mX12_init [.ref a] L V (a + 1) (fun v L' V' nx' => v = none ∧ nx' = a + 16 ∧ mkd L L' V V' a (a + 16) ∧ sM L' a ∧ MW V' a w0) := by
  refine Sp.of 1 (by decide) rfl rfl (Nat.le_of_ble_eq_true rfl) ?_
  refine z_aload_n dX12_init_0 rfl ?_
  refine z_objInit dX12_init_1 lX12_7 w_oi w_oc (Nat.le_of_ble_eq_true rfl) (Nat.le_of_ble_eq_true rfl) ?_
  refine z_aload_n dX12_init_4 rfl ?_
  refine z_sipush (v := nI 16029) dX12_init_5 rfl ?_
  refine z_newag (t := 0) (N := 16029) (n := nI 16029) dX12_init_8 (fun _ => rfl) (by decide) w_arr_int (nI_pos (by decide)) (nI_clamp (by decide)) rfl (Nat.le_of_ble_eq_true rfl) ⟨Nat.le_of_ble_eq_true rfl, Nat.le_of_ble_eq_true rfl⟩ ?_
  intro L1 V1 e1 f1 g1 x1
  have t1 : L1 a = some (.inr (.inr (12, [none, some .null, some .null, none, some .null, some .null, none, some .null, some .null, none, none, none, none, none, some .null, some .null, none, none, none, none, none, some .null, some .null, some .null, none, none, none, some .null, none, none, some .null, some .null, some .null, none]))) := (f1 _ (by omega)).trans hL
  refine z_putRg (fs' := [none, some (.ref (a + 1)), some .null, none, some .null, some .null, none, some .null, some .null, none, none, none, none, none, some .null, some .null, none, none, none, none, none, some .null, some .null, some .null, none, none, none, some .null, none, none, some .null, some .null, some .null, none]) dX12_init_10 fX12_13 (Or.inr ⟨rfl, _, _, _, rfl, rfl⟩) ⟨rfl, rfl⟩ t1 (Nat.le_of_ble_eq_true rfl) rfl ?_
  intro L2 e2 f2
  have t2 : L2 (a + 1) = some (.inl (0, 16029)) := (f2 _ (by omega)).trans e1
  refine z_aload_n dX12_init_13 rfl ?_
  refine z_ldc (v := nI 42744) dX12_init_14 qX12_17 ?_
  refine z_newag (t := 0) (N := 42744) (n := nI 42744) dX12_init_16 (fun _ => rfl) (by decide) w_arr_int (nI_pos (by decide)) (nI_clamp (by decide)) rfl (Nat.le_of_ble_eq_true rfl) ⟨Nat.le_of_ble_eq_true rfl, Nat.le_of_ble_eq_true rfl⟩ ?_
  intro L3 V3 e3 f3 g3 x3
  have t3 : L3 a = some (.inr (.inr (12, [none, some (.ref (a + 1)), some .null, none, some .null, some .null, none, some .null, some .null, none, none, none, none, none, some .null, some .null, none, none, none, none, none, some .null, some .null, some .null, none, none, none, some .null, none, none, some .null, some .null, some .null, none]))) := (f3 _ (by omega)).trans e2
  have t4 : L3 (a + 1) = some (.inl (0, 16029)) := (f3 _ (by omega)).trans t2
  refine z_putRg (fs' := [none, some (.ref (a + 1)), some (.ref (a + 2)), none, some .null, some .null, none, some .null, some .null, none, none, none, none, none, some .null, some .null, none, none, none, none, none, some .null, some .null, some .null, none, none, none, some .null, none, none, some .null, some .null, some .null, none]) dX12_init_18 fX12_18 (Or.inr ⟨rfl, _, _, _, rfl, rfl⟩) ⟨rfl, rfl⟩ t3 (Nat.le_of_ble_eq_true rfl) rfl ?_
  intro L4 e4 f4
  have t5 : L4 (a + 1) = some (.inl (0, 16029)) := (f4 _ (by omega)).trans t4
  have t6 : L4 (a + 2) = some (.inl (0, 42744)) := (f4 _ (by omega)).trans e3
  refine z_aload_n dX12_init_21 rfl ?_
  refine z_iconst (v := nI 2) dX12_init_22 rfl ?_
  refine z_newag (t := 1) (N := 2) (n := nI 2) dX12_init_23 (fun _ => rfl) (by decide) w_arr_boolean (nI_pos (by decide)) (nI_clamp (by decide)) rfl (Nat.le_of_ble_eq_true rfl) ⟨Nat.le_of_ble_eq_true rfl, Nat.le_of_ble_eq_true rfl⟩ ?_
  intro L5 V5 e5 f5 g5 x5
  have t7 : L5 a = some (.inr (.inr (12, [none, some (.ref (a + 1)), some (.ref (a + 2)), none, some .null, some .null, none, some .null, some .null, none, none, none, none, none, some .null, some .null, none, none, none, none, none, some .null, some .null, some .null, none, none, none, some .null, none, none, some .null, some .null, some .null, none]))) := (f5 _ (by omega)).trans e4
  have t8 : L5 (a + 1) = some (.inl (0, 16029)) := (f5 _ (by omega)).trans t5
  have t9 : L5 (a + 2) = some (.inl (0, 42744)) := (f5 _ (by omega)).trans t6
  refine z_putRg (fs' := [none, some (.ref (a + 1)), some (.ref (a + 2)), none, some (.ref (a + 3)), some .null, none, some .null, some .null, none, none, none, none, none, some .null, some .null, none, none, none, none, none, some .null, some .null, some .null, none, none, none, some .null, none, none, some .null, some .null, some .null, none]) dX12_init_25 fX12_21 (Or.inr ⟨rfl, _, _, _, rfl, rfl⟩) ⟨rfl, rfl⟩ t7 (Nat.le_of_ble_eq_true rfl) rfl ?_
  intro L6 e6 f6
  have t10 : L6 (a + 1) = some (.inl (0, 16029)) := (f6 _ (by omega)).trans t8
  have t11 : L6 (a + 2) = some (.inl (0, 42744)) := (f6 _ (by omega)).trans t9
  have t12 : L6 (a + 3) = some (.inl (1, 2)) := (f6 _ (by omega)).trans e5
  refine z_aload_n dX12_init_28 rfl ?_
  refine z_iconst (v := nI 3) dX12_init_29 rfl ?_
  refine z_newag (t := 0) (N := 3) (n := nI 3) dX12_init_30 (fun _ => rfl) (by decide) w_arr_int (nI_pos (by decide)) (nI_clamp (by decide)) rfl (Nat.le_of_ble_eq_true rfl) ⟨Nat.le_of_ble_eq_true rfl, Nat.le_of_ble_eq_true rfl⟩ ?_
  intro L7 V7 e7 f7 g7 x7
  have t13 : L7 a = some (.inr (.inr (12, [none, some (.ref (a + 1)), some (.ref (a + 2)), none, some (.ref (a + 3)), some .null, none, some .null, some .null, none, none, none, none, none, some .null, some .null, none, none, none, none, none, some .null, some .null, some .null, none, none, none, some .null, none, none, some .null, some .null, some .null, none]))) := (f7 _ (by omega)).trans e6
  have t14 : L7 (a + 1) = some (.inl (0, 16029)) := (f7 _ (by omega)).trans t10
  have t15 : L7 (a + 2) = some (.inl (0, 42744)) := (f7 _ (by omega)).trans t11
  have t16 : L7 (a + 3) = some (.inl (1, 2)) := (f7 _ (by omega)).trans t12
  refine z_putRg (fs' := [none, some (.ref (a + 1)), some (.ref (a + 2)), none, some (.ref (a + 3)), some (.ref (a + 4)), none, some .null, some .null, none, none, none, none, none, some .null, some .null, none, none, none, none, none, some .null, some .null, some .null, none, none, none, some .null, none, none, some .null, some .null, some .null, none]) dX12_init_32 fX12_25 (Or.inr ⟨rfl, _, _, _, rfl, rfl⟩) ⟨rfl, rfl⟩ t13 (Nat.le_of_ble_eq_true rfl) rfl ?_
  intro L8 e8 f8
  have t17 : L8 (a + 1) = some (.inl (0, 16029)) := (f8 _ (by omega)).trans t14
  have t18 : L8 (a + 2) = some (.inl (0, 42744)) := (f8 _ (by omega)).trans t15
  have t19 : L8 (a + 3) = some (.inl (1, 2)) := (f8 _ (by omega)).trans t16
  have t20 : L8 (a + 4) = some (.inl (0, 3)) := (f8 _ (by omega)).trans e7
  refine z_aload_n dX12_init_35 rfl ?_
  refine z_bipush (v := nI 8) dX12_init_36 rfl ?_
  refine z_newag (t := 1) (N := 8) (n := nI 8) dX12_init_38 (fun _ => rfl) (by decide) w_arr_boolean (nI_pos (by decide)) (nI_clamp (by decide)) rfl (Nat.le_of_ble_eq_true rfl) ⟨Nat.le_of_ble_eq_true rfl, Nat.le_of_ble_eq_true rfl⟩ ?_
  intro L9 V9 e9 f9 g9 x9
  have t21 : L9 a = some (.inr (.inr (12, [none, some (.ref (a + 1)), some (.ref (a + 2)), none, some (.ref (a + 3)), some (.ref (a + 4)), none, some .null, some .null, none, none, none, none, none, some .null, some .null, none, none, none, none, none, some .null, some .null, some .null, none, none, none, some .null, none, none, some .null, some .null, some .null, none]))) := (f9 _ (by omega)).trans e8
  have t22 : L9 (a + 1) = some (.inl (0, 16029)) := (f9 _ (by omega)).trans t17
  have t23 : L9 (a + 2) = some (.inl (0, 42744)) := (f9 _ (by omega)).trans t18
  have t24 : L9 (a + 3) = some (.inl (1, 2)) := (f9 _ (by omega)).trans t19
  have t25 : L9 (a + 4) = some (.inl (0, 3)) := (f9 _ (by omega)).trans t20
  refine z_putRg (fs' := [none, some (.ref (a + 1)), some (.ref (a + 2)), none, some (.ref (a + 3)), some (.ref (a + 4)), none, some (.ref (a + 5)), some .null, none, none, none, none, none, some .null, some .null, none, none, none, none, none, some .null, some .null, some .null, none, none, none, some .null, none, none, some .null, some .null, some .null, none]) dX12_init_40 fX12_28 (Or.inr ⟨rfl, _, _, _, rfl, rfl⟩) ⟨rfl, rfl⟩ t21 (Nat.le_of_ble_eq_true rfl) rfl ?_
  intro L10 e10 f10
  have t26 : L10 (a + 1) = some (.inl (0, 16029)) := (f10 _ (by omega)).trans t22
  have t27 : L10 (a + 2) = some (.inl (0, 42744)) := (f10 _ (by omega)).trans t23
  have t28 : L10 (a + 3) = some (.inl (1, 2)) := (f10 _ (by omega)).trans t24
  have t29 : L10 (a + 4) = some (.inl (0, 3)) := (f10 _ (by omega)).trans t25
  have t30 : L10 (a + 5) = some (.inl (1, 8)) := (f10 _ (by omega)).trans e9
  refine z_aload_n dX12_init_43 rfl ?_
  refine z_bipush (v := nI 100) dX12_init_44 rfl ?_
  refine z_newag (t := 2) (N := 100) (n := nI 100) dX12_init_46 (fun _ => rfl) (by decide) w_arr_byte (nI_pos (by decide)) (nI_clamp (by decide)) rfl (Nat.le_of_ble_eq_true rfl) ⟨Nat.le_of_ble_eq_true rfl, Nat.le_of_ble_eq_true rfl⟩ ?_
  intro L11 V11 e11 f11 g11 x11
  have t31 : L11 a = some (.inr (.inr (12, [none, some (.ref (a + 1)), some (.ref (a + 2)), none, some (.ref (a + 3)), some (.ref (a + 4)), none, some (.ref (a + 5)), some .null, none, none, none, none, none, some .null, some .null, none, none, none, none, none, some .null, some .null, some .null, none, none, none, some .null, none, none, some .null, some .null, some .null, none]))) := (f11 _ (by omega)).trans e10
  have t32 : L11 (a + 1) = some (.inl (0, 16029)) := (f11 _ (by omega)).trans t26
  have t33 : L11 (a + 2) = some (.inl (0, 42744)) := (f11 _ (by omega)).trans t27
  have t34 : L11 (a + 3) = some (.inl (1, 2)) := (f11 _ (by omega)).trans t28
  have t35 : L11 (a + 4) = some (.inl (0, 3)) := (f11 _ (by omega)).trans t29
  have t36 : L11 (a + 5) = some (.inl (1, 8)) := (f11 _ (by omega)).trans t30
  refine z_putRg (fs' := [none, some (.ref (a + 1)), some (.ref (a + 2)), none, some (.ref (a + 3)), some (.ref (a + 4)), none, some (.ref (a + 5)), some (.ref (a + 6)), none, none, none, none, none, some .null, some .null, none, none, none, none, none, some .null, some .null, some .null, none, none, none, some .null, none, none, some .null, some .null, some .null, none]) dX12_init_48 fX12_31 (Or.inr ⟨rfl, _, _, _, rfl, rfl⟩) ⟨rfl, rfl⟩ t31 (Nat.le_of_ble_eq_true rfl) rfl ?_
  intro L12 e12 f12
  have t37 : L12 (a + 1) = some (.inl (0, 16029)) := (f12 _ (by omega)).trans t32
  have t38 : L12 (a + 2) = some (.inl (0, 42744)) := (f12 _ (by omega)).trans t33
  have t39 : L12 (a + 3) = some (.inl (1, 2)) := (f12 _ (by omega)).trans t34
  have t40 : L12 (a + 4) = some (.inl (0, 3)) := (f12 _ (by omega)).trans t35
  have t41 : L12 (a + 5) = some (.inl (1, 8)) := (f12 _ (by omega)).trans t36
  have t42 : L12 (a + 6) = some (.inl (2, 100)) := (f12 _ (by omega)).trans e11
  refine z_aload_n dX12_init_51 rfl ?_
  refine z_iconst (v := (-1)) dX12_init_52 rfl ?_
  refine z_putI dX12_init_53 fX12_35 e12 rfl ?_
  refine z_aload_n dX12_init_56 rfl ?_
  refine z_bipush (v := nI 13) dX12_init_57 rfl ?_
  refine z_newag (t := 0) (N := 13) (n := nI 13) dX12_init_59 (fun _ => rfl) (by decide) w_arr_int (nI_pos (by decide)) (nI_clamp (by decide)) rfl (Nat.le_of_ble_eq_true rfl) ⟨Nat.le_of_ble_eq_true rfl, Nat.le_of_ble_eq_true rfl⟩ ?_
  intro L13 V13 e13 f13 g13 x13
  have t43 : L13 a = some (.inr (.inr (12, [none, some (.ref (a + 1)), some (.ref (a + 2)), none, some (.ref (a + 3)), some (.ref (a + 4)), none, some (.ref (a + 5)), some (.ref (a + 6)), none, none, none, none, none, some .null, some .null, none, none, none, none, none, some .null, some .null, some .null, none, none, none, some .null, none, none, some .null, some .null, some .null, none]))) := (f13 _ (by omega)).trans e12
  have t44 : L13 (a + 1) = some (.inl (0, 16029)) := (f13 _ (by omega)).trans t37
  have t45 : L13 (a + 2) = some (.inl (0, 42744)) := (f13 _ (by omega)).trans t38
  have t46 : L13 (a + 3) = some (.inl (1, 2)) := (f13 _ (by omega)).trans t39
  have t47 : L13 (a + 4) = some (.inl (0, 3)) := (f13 _ (by omega)).trans t40
  have t48 : L13 (a + 5) = some (.inl (1, 8)) := (f13 _ (by omega)).trans t41
  have t49 : L13 (a + 6) = some (.inl (2, 100)) := (f13 _ (by omega)).trans t42
  refine z_putRg (fs' := [none, some (.ref (a + 1)), some (.ref (a + 2)), none, some (.ref (a + 3)), some (.ref (a + 4)), none, some (.ref (a + 5)), some (.ref (a + 6)), none, none, none, none, none, some (.ref (a + 7)), some .null, none, none, none, none, none, some .null, some .null, some .null, none, none, none, some .null, none, none, some .null, some .null, some .null, none]) dX12_init_61 fX12_38 (Or.inr ⟨rfl, _, _, _, rfl, rfl⟩) ⟨rfl, rfl⟩ t43 (Nat.le_of_ble_eq_true rfl) rfl ?_
  intro L14 e14 f14
  have t50 : L14 (a + 1) = some (.inl (0, 16029)) := (f14 _ (by omega)).trans t44
  have t51 : L14 (a + 2) = some (.inl (0, 42744)) := (f14 _ (by omega)).trans t45
  have t52 : L14 (a + 3) = some (.inl (1, 2)) := (f14 _ (by omega)).trans t46
  have t53 : L14 (a + 4) = some (.inl (0, 3)) := (f14 _ (by omega)).trans t47
  have t54 : L14 (a + 5) = some (.inl (1, 8)) := (f14 _ (by omega)).trans t48
  have t55 : L14 (a + 6) = some (.inl (2, 100)) := (f14 _ (by omega)).trans t49
  have t56 : L14 (a + 7) = some (.inl (0, 13)) := (f14 _ (by omega)).trans e13
  refine z_aload_n dX12_init_64 rfl ?_
  refine z_bipush (v := nI 45) dX12_init_65 rfl ?_
  refine z_newag (t := 2) (N := 45) (n := nI 45) dX12_init_67 (fun _ => rfl) (by decide) w_arr_byte (nI_pos (by decide)) (nI_clamp (by decide)) rfl (Nat.le_of_ble_eq_true rfl) ⟨Nat.le_of_ble_eq_true rfl, Nat.le_of_ble_eq_true rfl⟩ ?_
  intro L15 V15 e15 f15 g15 x15
  have t57 : L15 a = some (.inr (.inr (12, [none, some (.ref (a + 1)), some (.ref (a + 2)), none, some (.ref (a + 3)), some (.ref (a + 4)), none, some (.ref (a + 5)), some (.ref (a + 6)), none, none, none, none, none, some (.ref (a + 7)), some .null, none, none, none, none, none, some .null, some .null, some .null, none, none, none, some .null, none, none, some .null, some .null, some .null, none]))) := (f15 _ (by omega)).trans e14
  have t58 : L15 (a + 1) = some (.inl (0, 16029)) := (f15 _ (by omega)).trans t50
  have t59 : L15 (a + 2) = some (.inl (0, 42744)) := (f15 _ (by omega)).trans t51
  have t60 : L15 (a + 3) = some (.inl (1, 2)) := (f15 _ (by omega)).trans t52
  have t61 : L15 (a + 4) = some (.inl (0, 3)) := (f15 _ (by omega)).trans t53
  have t62 : L15 (a + 5) = some (.inl (1, 8)) := (f15 _ (by omega)).trans t54
  have t63 : L15 (a + 6) = some (.inl (2, 100)) := (f15 _ (by omega)).trans t55
  have t64 : L15 (a + 7) = some (.inl (0, 13)) := (f15 _ (by omega)).trans t56
  refine z_dup dX12_init_69 rfl ?_
  refine z_iconst (v := nI 0) dX12_init_70 rfl ?_
  refine z_bipush (v := nI 105) dX12_init_71 rfl ?_
  refine z_wd (i := 0) (V0 := V15) dX12_init_73 e15 (by decide) (by decide) ⟨fun k hk => absurd hk (by omega), fun q hq => rfl⟩ (fun Vw0 hw0 => ?_)
  refine z_dup dX12_init_74 rfl ?_
  refine z_iconst (v := nI 1) dX12_init_75 rfl ?_
  refine z_bipush (v := nI 110) dX12_init_76 rfl ?_
  refine z_wd (i := 1) dX12_init_78 e15 (by decide) (by decide) hw0 (fun Vw1 hw1 => ?_)
  refine z_dup dX12_init_79 rfl ?_
  refine z_iconst (v := nI 2) dX12_init_80 rfl ?_
  refine z_bipush (v := nI 100) dX12_init_81 rfl ?_
  refine z_wd (i := 2) dX12_init_83 e15 (by decide) (by decide) hw1 (fun Vw2 hw2 => ?_)
  refine z_dup dX12_init_84 rfl ?_
  refine z_iconst (v := nI 3) dX12_init_85 rfl ?_
  refine z_bipush (v := nI 101) dX12_init_86 rfl ?_
  refine z_wd (i := 3) dX12_init_88 e15 (by decide) (by decide) hw2 (fun Vw3 hw3 => ?_)
  refine z_dup dX12_init_89 rfl ?_
  refine z_iconst (v := nI 4) dX12_init_90 rfl ?_
  refine z_bipush (v := nI 120) dX12_init_91 rfl ?_
  refine z_wd (i := 4) dX12_init_93 e15 (by decide) (by decide) hw3 (fun Vw4 hw4 => ?_)
  refine z_dup dX12_init_94 rfl ?_
  refine z_iconst (v := nI 5) dX12_init_95 rfl ?_
  refine z_iconst (v := nI 0) dX12_init_96 rfl ?_
  refine z_wd (i := 5) dX12_init_97 e15 (by decide) (by decide) hw4 (fun Vw5 hw5 => ?_)
  refine z_dup dX12_init_98 rfl ?_
  refine z_bipush (v := nI 6) dX12_init_99 rfl ?_
  refine z_bipush (v := nI 100) dX12_init_101 rfl ?_
  refine z_wd (i := 6) dX12_init_103 e15 (by decide) (by decide) hw5 (fun Vw6 hw6 => ?_)
  refine z_dup dX12_init_104 rfl ?_
  refine z_bipush (v := nI 7) dX12_init_105 rfl ?_
  refine z_bipush (v := nI 101) dX12_init_107 rfl ?_
  refine z_wd (i := 7) dX12_init_109 e15 (by decide) (by decide) hw6 (fun Vw7 hw7 => ?_)
  refine z_dup dX12_init_110 rfl ?_
  refine z_bipush (v := nI 8) dX12_init_111 rfl ?_
  refine z_bipush (v := nI 115) dX12_init_113 rfl ?_
  refine z_wd (i := 8) dX12_init_115 e15 (by decide) (by decide) hw7 (fun Vw8 hw8 => ?_)
  refine z_dup dX12_init_116 rfl ?_
  refine z_bipush (v := nI 9) dX12_init_117 rfl ?_
  refine z_bipush (v := nI 99) dX12_init_119 rfl ?_
  refine z_wd (i := 9) dX12_init_121 e15 (by decide) (by decide) hw8 (fun Vw9 hw9 => ?_)
  refine z_dup dX12_init_122 rfl ?_
  refine z_bipush (v := nI 10) dX12_init_123 rfl ?_
  refine z_iconst (v := nI 0) dX12_init_125 rfl ?_
  refine z_wd (i := 10) dX12_init_126 e15 (by decide) (by decide) hw9 (fun Vw10 hw10 => ?_)
  refine z_dup dX12_init_127 rfl ?_
  refine z_bipush (v := nI 11) dX12_init_128 rfl ?_
  refine z_bipush (v := nI 117) dX12_init_130 rfl ?_
  refine z_wd (i := 11) dX12_init_132 e15 (by decide) (by decide) hw10 (fun Vw11 hw11 => ?_)
  refine z_dup dX12_init_133 rfl ?_
  refine z_bipush (v := nI 12) dX12_init_134 rfl ?_
  refine z_bipush (v := nI 110) dX12_init_136 rfl ?_
  refine z_wd (i := 12) dX12_init_138 e15 (by decide) (by decide) hw11 (fun Vw12 hw12 => ?_)
  refine z_dup dX12_init_139 rfl ?_
  refine z_bipush (v := nI 13) dX12_init_140 rfl ?_
  refine z_bipush (v := nI 105) dX12_init_142 rfl ?_
  refine z_wd (i := 13) dX12_init_144 e15 (by decide) (by decide) hw12 (fun Vw13 hw13 => ?_)
  refine z_dup dX12_init_145 rfl ?_
  refine z_bipush (v := nI 14) dX12_init_146 rfl ?_
  refine z_bipush (v := nI 113) dX12_init_148 rfl ?_
  refine z_wd (i := 14) dX12_init_150 e15 (by decide) (by decide) hw13 (fun Vw14 hw14 => ?_)
  refine z_dup dX12_init_151 rfl ?_
  refine z_bipush (v := nI 15) dX12_init_152 rfl ?_
  refine z_bipush (v := nI 117) dX12_init_154 rfl ?_
  refine z_wd (i := 15) dX12_init_156 e15 (by decide) (by decide) hw14 (fun Vw15 hw15 => ?_)
  refine z_dup dX12_init_157 rfl ?_
  refine z_bipush (v := nI 16) dX12_init_158 rfl ?_
  refine z_bipush (v := nI 101) dX12_init_160 rfl ?_
  refine z_wd (i := 16) dX12_init_162 e15 (by decide) (by decide) hw15 (fun Vw16 hw16 => ?_)
  refine z_dup dX12_init_163 rfl ?_
  refine z_bipush (v := nI 17) dX12_init_164 rfl ?_
  refine z_iconst (v := nI 0) dX12_init_166 rfl ?_
  refine z_wd (i := 17) dX12_init_167 e15 (by decide) (by decide) hw16 (fun Vw17 hw17 => ?_)
  refine z_dup dX12_init_168 rfl ?_
  refine z_bipush (v := nI 18) dX12_init_169 rfl ?_
  refine z_bipush (v := nI 119) dX12_init_171 rfl ?_
  refine z_wd (i := 18) dX12_init_173 e15 (by decide) (by decide) hw17 (fun Vw18 hw18 => ?_)
  refine z_dup dX12_init_174 rfl ?_
  refine z_bipush (v := nI 19) dX12_init_175 rfl ?_
  refine z_bipush (v := nI 104) dX12_init_177 rfl ?_
  refine z_wd (i := 19) dX12_init_179 e15 (by decide) (by decide) hw18 (fun Vw19 hw19 => ?_)
  refine z_dup dX12_init_180 rfl ?_
  refine z_bipush (v := nI 20) dX12_init_181 rfl ?_
  refine z_bipush (v := nI 101) dX12_init_183 rfl ?_
  refine z_wd (i := 20) dX12_init_185 e15 (by decide) (by decide) hw19 (fun Vw20 hw20 => ?_)
  refine z_dup dX12_init_186 rfl ?_
  refine z_bipush (v := nI 21) dX12_init_187 rfl ?_
  refine z_bipush (v := nI 114) dX12_init_189 rfl ?_
  refine z_wd (i := 21) dX12_init_191 e15 (by decide) (by decide) hw20 (fun Vw21 hw21 => ?_)
  refine z_dup dX12_init_192 rfl ?_
  refine z_bipush (v := nI 22) dX12_init_193 rfl ?_
  refine z_bipush (v := nI 101) dX12_init_195 rfl ?_
  refine z_wd (i := 22) dX12_init_197 e15 (by decide) (by decide) hw21 (fun Vw22 hw22 => ?_)
  refine z_dup dX12_init_198 rfl ?_
  refine z_bipush (v := nI 23) dX12_init_199 rfl ?_
  refine z_iconst (v := nI 0) dX12_init_201 rfl ?_
  refine z_wd (i := 23) dX12_init_202 e15 (by decide) (by decide) hw22 (fun Vw23 hw23 => ?_)
  refine z_dup dX12_init_203 rfl ?_
  refine z_bipush (v := nI 24) dX12_init_204 rfl ?_
  refine z_bipush (v := nI 97) dX12_init_206 rfl ?_
  refine z_wd (i := 24) dX12_init_208 e15 (by decide) (by decide) hw23 (fun Vw24 hw24 => ?_)
  refine z_dup dX12_init_209 rfl ?_
  refine z_bipush (v := nI 25) dX12_init_210 rfl ?_
  refine z_iconst (v := nI 0) dX12_init_212 rfl ?_
  refine z_wd (i := 25) dX12_init_213 e15 (by decide) (by decide) hw24 (fun Vw25 hw25 => ?_)
  refine z_dup dX12_init_214 rfl ?_
  refine z_bipush (v := nI 26) dX12_init_215 rfl ?_
  refine z_bipush (v := nI 98) dX12_init_217 rfl ?_
  refine z_wd (i := 26) dX12_init_219 e15 (by decide) (by decide) hw25 (fun Vw26 hw26 => ?_)
  refine z_dup dX12_init_220 rfl ?_
  refine z_bipush (v := nI 27) dX12_init_221 rfl ?_
  refine z_iconst (v := nI 0) dX12_init_223 rfl ?_
  refine z_wd (i := 27) dX12_init_224 e15 (by decide) (by decide) hw26 (fun Vw27 hw27 => ?_)
  refine z_dup dX12_init_225 rfl ?_
  refine z_bipush (v := nI 28) dX12_init_226 rfl ?_
  refine z_bipush (v := nI 99) dX12_init_228 rfl ?_
  refine z_wd (i := 28) dX12_init_230 e15 (by decide) (by decide) hw27 (fun Vw28 hw28 => ?_)
  refine z_dup dX12_init_231 rfl ?_
  refine z_bipush (v := nI 29) dX12_init_232 rfl ?_
  refine z_iconst (v := nI 0) dX12_init_234 rfl ?_
  refine z_wd (i := 29) dX12_init_235 e15 (by decide) (by decide) hw28 (fun Vw29 hw29 => ?_)
  refine z_dup dX12_init_236 rfl ?_
  refine z_bipush (v := nI 30) dX12_init_237 rfl ?_
  refine z_bipush (v := nI 102) dX12_init_239 rfl ?_
  refine z_wd (i := 30) dX12_init_241 e15 (by decide) (by decide) hw29 (fun Vw30 hw30 => ?_)
  refine z_dup dX12_init_242 rfl ?_
  refine z_bipush (v := nI 31) dX12_init_243 rfl ?_
  refine z_bipush (v := nI 105) dX12_init_245 rfl ?_
  refine z_wd (i := 31) dX12_init_247 e15 (by decide) (by decide) hw30 (fun Vw31 hw31 => ?_)
  refine z_dup dX12_init_248 rfl ?_
  refine z_bipush (v := nI 32) dX12_init_249 rfl ?_
  refine z_bipush (v := nI 110) dX12_init_251 rfl ?_
  refine z_wd (i := 32) dX12_init_253 e15 (by decide) (by decide) hw31 (fun Vw32 hw32 => ?_)
  refine z_dup dX12_init_254 rfl ?_
  refine z_bipush (v := nI 33) dX12_init_255 rfl ?_
  refine z_bipush (v := nI 100) dX12_init_257 rfl ?_
  refine z_wd (i := 33) dX12_init_259 e15 (by decide) (by decide) hw32 (fun Vw33 hw33 => ?_)
  refine z_dup dX12_init_260 rfl ?_
  refine z_bipush (v := nI 34) dX12_init_261 rfl ?_
  refine z_iconst (v := nI 0) dX12_init_263 rfl ?_
  refine z_wd (i := 34) dX12_init_264 e15 (by decide) (by decide) hw33 (fun Vw34 hw34 => ?_)
  refine z_dup dX12_init_265 rfl ?_
  refine z_bipush (v := nI 35) dX12_init_266 rfl ?_
  refine z_bipush (v := nI 97) dX12_init_268 rfl ?_
  refine z_wd (i := 35) dX12_init_270 e15 (by decide) (by decide) hw34 (fun Vw35 hw35 => ?_)
  refine z_dup dX12_init_271 rfl ?_
  refine z_bipush (v := nI 36) dX12_init_272 rfl ?_
  refine z_bipush (v := nI 110) dX12_init_274 rfl ?_
  refine z_wd (i := 36) dX12_init_276 e15 (by decide) (by decide) hw35 (fun Vw36 hw36 => ?_)
  refine z_dup dX12_init_277 rfl ?_
  refine z_bipush (v := nI 37) dX12_init_278 rfl ?_
  refine z_bipush (v := nI 100) dX12_init_280 rfl ?_
  refine z_wd (i := 37) dX12_init_282 e15 (by decide) (by decide) hw36 (fun Vw37 hw37 => ?_)
  refine z_dup dX12_init_283 rfl ?_
  refine z_bipush (v := nI 38) dX12_init_284 rfl ?_
  refine z_iconst (v := nI 0) dX12_init_286 rfl ?_
  refine z_wd (i := 38) dX12_init_287 e15 (by decide) (by decide) hw37 (fun Vw38 hw38 => ?_)
  refine z_dup dX12_init_288 rfl ?_
  refine z_bipush (v := nI 39) dX12_init_289 rfl ?_
  refine z_bipush (v := nI 111) dX12_init_291 rfl ?_
  refine z_wd (i := 39) dX12_init_293 e15 (by decide) (by decide) hw38 (fun Vw39 hw39 => ?_)
  refine z_dup dX12_init_294 rfl ?_
  refine z_bipush (v := nI 40) dX12_init_295 rfl ?_
  refine z_bipush (v := nI 114) dX12_init_297 rfl ?_
  refine z_wd (i := 40) dX12_init_299 e15 (by decide) (by decide) hw39 (fun Vw40 hw40 => ?_)
  refine z_dup dX12_init_300 rfl ?_
  refine z_bipush (v := nI 41) dX12_init_301 rfl ?_
  refine z_bipush (v := nI 100) dX12_init_303 rfl ?_
  refine z_wd (i := 41) dX12_init_305 e15 (by decide) (by decide) hw40 (fun Vw41 hw41 => ?_)
  refine z_dup dX12_init_306 rfl ?_
  refine z_bipush (v := nI 42) dX12_init_307 rfl ?_
  refine z_bipush (v := nI 101) dX12_init_309 rfl ?_
  refine z_wd (i := 42) dX12_init_311 e15 (by decide) (by decide) hw41 (fun Vw42 hw42 => ?_)
  refine z_dup dX12_init_312 rfl ?_
  refine z_bipush (v := nI 43) dX12_init_313 rfl ?_
  refine z_bipush (v := nI 114) dX12_init_315 rfl ?_
  refine z_wd (i := 43) dX12_init_317 e15 (by decide) (by decide) hw42 (fun Vw43 hw43 => ?_)
  refine z_dup dX12_init_318 rfl ?_
  refine z_bipush (v := nI 44) dX12_init_319 rfl ?_
  refine z_iconst (v := nI 0) dX12_init_321 rfl ?_
  refine z_wd (i := 44) dX12_init_322 e15 (by decide) (by decide) hw43 (fun Vw44 hw44 => ?_)
  refine z_putRg (fs' := [none, some (.ref (a + 1)), some (.ref (a + 2)), none, some (.ref (a + 3)), some (.ref (a + 4)), none, some (.ref (a + 5)), some (.ref (a + 6)), none, none, none, none, none, some (.ref (a + 7)), some (.ref (a + 8)), none, none, none, none, none, some .null, some .null, some .null, none, none, none, some .null, none, none, some .null, some .null, some .null, none]) dX12_init_323 fX12_41 (Or.inr ⟨rfl, _, _, _, rfl, rfl⟩) ⟨rfl, rfl⟩ t57 (Nat.le_of_ble_eq_true rfl) rfl ?_
  intro L16 e16 f16
  have t65 : L16 (a + 1) = some (.inl (0, 16029)) := (f16 _ (by omega)).trans t58
  have t66 : L16 (a + 2) = some (.inl (0, 42744)) := (f16 _ (by omega)).trans t59
  have t67 : L16 (a + 3) = some (.inl (1, 2)) := (f16 _ (by omega)).trans t60
  have t68 : L16 (a + 4) = some (.inl (0, 3)) := (f16 _ (by omega)).trans t61
  have t69 : L16 (a + 5) = some (.inl (1, 8)) := (f16 _ (by omega)).trans t62
  have t70 : L16 (a + 6) = some (.inl (2, 100)) := (f16 _ (by omega)).trans t63
  have t71 : L16 (a + 7) = some (.inl (0, 13)) := (f16 _ (by omega)).trans t64
  have t72 : L16 (a + 8) = some (.inl (2, 45)) := (f16 _ (by omega)).trans e15
  refine z_aload_n dX12_init_326 rfl ?_
  refine z_bipush (v := nI 12) dX12_init_327 rfl ?_
  refine z_newag (t := 0) (N := 12) (n := nI 12) dX12_init_329 (fun _ => rfl) (by decide) w_arr_int (nI_pos (by decide)) (nI_clamp (by decide)) rfl (Nat.le_of_ble_eq_true rfl) ⟨Nat.le_of_ble_eq_true rfl, Nat.le_of_ble_eq_true rfl⟩ ?_
  intro L17 V17 e17 f17 g17 x17
  have t73 : L17 a = some (.inr (.inr (12, [none, some (.ref (a + 1)), some (.ref (a + 2)), none, some (.ref (a + 3)), some (.ref (a + 4)), none, some (.ref (a + 5)), some (.ref (a + 6)), none, none, none, none, none, some (.ref (a + 7)), some (.ref (a + 8)), none, none, none, none, none, some .null, some .null, some .null, none, none, none, some .null, none, none, some .null, some .null, some .null, none]))) := (f17 _ (by omega)).trans e16
  have t74 : L17 (a + 1) = some (.inl (0, 16029)) := (f17 _ (by omega)).trans t65
  have t75 : L17 (a + 2) = some (.inl (0, 42744)) := (f17 _ (by omega)).trans t66
  have t76 : L17 (a + 3) = some (.inl (1, 2)) := (f17 _ (by omega)).trans t67
  have t77 : L17 (a + 4) = some (.inl (0, 3)) := (f17 _ (by omega)).trans t68
  have t78 : L17 (a + 5) = some (.inl (1, 8)) := (f17 _ (by omega)).trans t69
  have t79 : L17 (a + 6) = some (.inl (2, 100)) := (f17 _ (by omega)).trans t70
  have t80 : L17 (a + 7) = some (.inl (0, 13)) := (f17 _ (by omega)).trans t71
  have t81 : L17 (a + 8) = some (.inl (2, 45)) := (f17 _ (by omega)).trans t72
  refine z_putRg (fs' := [none, some (.ref (a + 1)), some (.ref (a + 2)), none, some (.ref (a + 3)), some (.ref (a + 4)), none, some (.ref (a + 5)), some (.ref (a + 6)), none, none, none, none, none, some (.ref (a + 7)), some (.ref (a + 8)), none, none, none, none, none, some (.ref (a + 9)), some .null, some .null, none, none, none, some .null, none, none, some .null, some .null, some .null, none]) dX12_init_331 fX12_44 (Or.inr ⟨rfl, _, _, _, rfl, rfl⟩) ⟨rfl, rfl⟩ t73 (Nat.le_of_ble_eq_true rfl) rfl ?_
  intro L18 e18 f18
  have t82 : L18 (a + 1) = some (.inl (0, 16029)) := (f18 _ (by omega)).trans t74
  have t83 : L18 (a + 2) = some (.inl (0, 42744)) := (f18 _ (by omega)).trans t75
  have t84 : L18 (a + 3) = some (.inl (1, 2)) := (f18 _ (by omega)).trans t76
  have t85 : L18 (a + 4) = some (.inl (0, 3)) := (f18 _ (by omega)).trans t77
  have t86 : L18 (a + 5) = some (.inl (1, 8)) := (f18 _ (by omega)).trans t78
  have t87 : L18 (a + 6) = some (.inl (2, 100)) := (f18 _ (by omega)).trans t79
  have t88 : L18 (a + 7) = some (.inl (0, 13)) := (f18 _ (by omega)).trans t80
  have t89 : L18 (a + 8) = some (.inl (2, 45)) := (f18 _ (by omega)).trans t81
  have t90 : L18 (a + 9) = some (.inl (0, 12)) := (f18 _ (by omega)).trans e17
  refine z_aload_n dX12_init_334 rfl ?_
  refine z_iconst (v := nI 3) dX12_init_335 rfl ?_
  refine z_newag (t := 0) (N := 3) (n := nI 3) dX12_init_336 (fun _ => rfl) (by decide) w_arr_int (nI_pos (by decide)) (nI_clamp (by decide)) rfl (Nat.le_of_ble_eq_true rfl) ⟨Nat.le_of_ble_eq_true rfl, Nat.le_of_ble_eq_true rfl⟩ ?_
  intro L19 V19 e19 f19 g19 x19
  have t91 : L19 a = some (.inr (.inr (12, [none, some (.ref (a + 1)), some (.ref (a + 2)), none, some (.ref (a + 3)), some (.ref (a + 4)), none, some (.ref (a + 5)), some (.ref (a + 6)), none, none, none, none, none, some (.ref (a + 7)), some (.ref (a + 8)), none, none, none, none, none, some (.ref (a + 9)), some .null, some .null, none, none, none, some .null, none, none, some .null, some .null, some .null, none]))) := (f19 _ (by omega)).trans e18
  have t92 : L19 (a + 1) = some (.inl (0, 16029)) := (f19 _ (by omega)).trans t82
  have t93 : L19 (a + 2) = some (.inl (0, 42744)) := (f19 _ (by omega)).trans t83
  have t94 : L19 (a + 3) = some (.inl (1, 2)) := (f19 _ (by omega)).trans t84
  have t95 : L19 (a + 4) = some (.inl (0, 3)) := (f19 _ (by omega)).trans t85
  have t96 : L19 (a + 5) = some (.inl (1, 8)) := (f19 _ (by omega)).trans t86
  have t97 : L19 (a + 6) = some (.inl (2, 100)) := (f19 _ (by omega)).trans t87
  have t98 : L19 (a + 7) = some (.inl (0, 13)) := (f19 _ (by omega)).trans t88
  have t99 : L19 (a + 8) = some (.inl (2, 45)) := (f19 _ (by omega)).trans t89
  have t100 : L19 (a + 9) = some (.inl (0, 12)) := (f19 _ (by omega)).trans t90
  refine z_putRg (fs' := [none, some (.ref (a + 1)), some (.ref (a + 2)), none, some (.ref (a + 3)), some (.ref (a + 4)), none, some (.ref (a + 5)), some (.ref (a + 6)), none, none, none, none, none, some (.ref (a + 7)), some (.ref (a + 8)), none, none, none, none, none, some (.ref (a + 9)), some (.ref (a + 10)), some .null, none, none, none, some .null, none, none, some .null, some .null, some .null, none]) dX12_init_338 fX12_47 (Or.inr ⟨rfl, _, _, _, rfl, rfl⟩) ⟨rfl, rfl⟩ t91 (Nat.le_of_ble_eq_true rfl) rfl ?_
  intro L20 e20 f20
  have t101 : L20 (a + 1) = some (.inl (0, 16029)) := (f20 _ (by omega)).trans t92
  have t102 : L20 (a + 2) = some (.inl (0, 42744)) := (f20 _ (by omega)).trans t93
  have t103 : L20 (a + 3) = some (.inl (1, 2)) := (f20 _ (by omega)).trans t94
  have t104 : L20 (a + 4) = some (.inl (0, 3)) := (f20 _ (by omega)).trans t95
  have t105 : L20 (a + 5) = some (.inl (1, 8)) := (f20 _ (by omega)).trans t96
  have t106 : L20 (a + 6) = some (.inl (2, 100)) := (f20 _ (by omega)).trans t97
  have t107 : L20 (a + 7) = some (.inl (0, 13)) := (f20 _ (by omega)).trans t98
  have t108 : L20 (a + 8) = some (.inl (2, 45)) := (f20 _ (by omega)).trans t99
  have t109 : L20 (a + 9) = some (.inl (0, 12)) := (f20 _ (by omega)).trans t100
  have t110 : L20 (a + 10) = some (.inl (0, 3)) := (f20 _ (by omega)).trans e19
  refine z_aload_n dX12_init_341 rfl ?_
  refine z_bipush (v := nI 15) dX12_init_342 rfl ?_
  refine z_newag (t := 0) (N := 15) (n := nI 15) dX12_init_344 (fun _ => rfl) (by decide) w_arr_int (nI_pos (by decide)) (nI_clamp (by decide)) rfl (Nat.le_of_ble_eq_true rfl) ⟨Nat.le_of_ble_eq_true rfl, Nat.le_of_ble_eq_true rfl⟩ ?_
  intro L21 V21 e21 f21 g21 x21
  have t111 : L21 a = some (.inr (.inr (12, [none, some (.ref (a + 1)), some (.ref (a + 2)), none, some (.ref (a + 3)), some (.ref (a + 4)), none, some (.ref (a + 5)), some (.ref (a + 6)), none, none, none, none, none, some (.ref (a + 7)), some (.ref (a + 8)), none, none, none, none, none, some (.ref (a + 9)), some (.ref (a + 10)), some .null, none, none, none, some .null, none, none, some .null, some .null, some .null, none]))) := (f21 _ (by omega)).trans e20
  have t112 : L21 (a + 1) = some (.inl (0, 16029)) := (f21 _ (by omega)).trans t101
  have t113 : L21 (a + 2) = some (.inl (0, 42744)) := (f21 _ (by omega)).trans t102
  have t114 : L21 (a + 3) = some (.inl (1, 2)) := (f21 _ (by omega)).trans t103
  have t115 : L21 (a + 4) = some (.inl (0, 3)) := (f21 _ (by omega)).trans t104
  have t116 : L21 (a + 5) = some (.inl (1, 8)) := (f21 _ (by omega)).trans t105
  have t117 : L21 (a + 6) = some (.inl (2, 100)) := (f21 _ (by omega)).trans t106
  have t118 : L21 (a + 7) = some (.inl (0, 13)) := (f21 _ (by omega)).trans t107
  have t119 : L21 (a + 8) = some (.inl (2, 45)) := (f21 _ (by omega)).trans t108
  have t120 : L21 (a + 9) = some (.inl (0, 12)) := (f21 _ (by omega)).trans t109
  have t121 : L21 (a + 10) = some (.inl (0, 3)) := (f21 _ (by omega)).trans t110
  refine z_putRg (fs' := [none, some (.ref (a + 1)), some (.ref (a + 2)), none, some (.ref (a + 3)), some (.ref (a + 4)), none, some (.ref (a + 5)), some (.ref (a + 6)), none, none, none, none, none, some (.ref (a + 7)), some (.ref (a + 8)), none, none, none, none, none, some (.ref (a + 9)), some (.ref (a + 10)), some (.ref (a + 11)), none, none, none, some .null, none, none, some .null, some .null, some .null, none]) dX12_init_346 fX12_50 (Or.inr ⟨rfl, _, _, _, rfl, rfl⟩) ⟨rfl, rfl⟩ t111 (Nat.le_of_ble_eq_true rfl) rfl ?_
  intro L22 e22 f22
  have t122 : L22 (a + 1) = some (.inl (0, 16029)) := (f22 _ (by omega)).trans t112
  have t123 : L22 (a + 2) = some (.inl (0, 42744)) := (f22 _ (by omega)).trans t113
  have t124 : L22 (a + 3) = some (.inl (1, 2)) := (f22 _ (by omega)).trans t114
  have t125 : L22 (a + 4) = some (.inl (0, 3)) := (f22 _ (by omega)).trans t115
  have t126 : L22 (a + 5) = some (.inl (1, 8)) := (f22 _ (by omega)).trans t116
  have t127 : L22 (a + 6) = some (.inl (2, 100)) := (f22 _ (by omega)).trans t117
  have t128 : L22 (a + 7) = some (.inl (0, 13)) := (f22 _ (by omega)).trans t118
  have t129 : L22 (a + 8) = some (.inl (2, 45)) := (f22 _ (by omega)).trans t119
  have t130 : L22 (a + 9) = some (.inl (0, 12)) := (f22 _ (by omega)).trans t120
  have t131 : L22 (a + 10) = some (.inl (0, 3)) := (f22 _ (by omega)).trans t121
  have t132 : L22 (a + 11) = some (.inl (0, 15)) := (f22 _ (by omega)).trans e21
  refine z_aload_n dX12_init_349 rfl ?_
  refine z_iconst (v := (-1)) dX12_init_350 rfl ?_
  refine z_putI dX12_init_351 fX12_53 e22 rfl ?_
  refine z_aload_n dX12_init_354 rfl ?_
  refine z_bipush (v := nI 48) dX12_init_355 rfl ?_
  refine z_newag (t := 0) (N := 48) (n := nI 48) dX12_init_357 (fun _ => rfl) (by decide) w_arr_int (nI_pos (by decide)) (nI_clamp (by decide)) rfl (Nat.le_of_ble_eq_true rfl) ⟨Nat.le_of_ble_eq_true rfl, Nat.le_of_ble_eq_true rfl⟩ ?_
  intro L23 V23 e23 f23 g23 x23
  have t133 : L23 a = some (.inr (.inr (12, [none, some (.ref (a + 1)), some (.ref (a + 2)), none, some (.ref (a + 3)), some (.ref (a + 4)), none, some (.ref (a + 5)), some (.ref (a + 6)), none, none, none, none, none, some (.ref (a + 7)), some (.ref (a + 8)), none, none, none, none, none, some (.ref (a + 9)), some (.ref (a + 10)), some (.ref (a + 11)), none, none, none, some .null, none, none, some .null, some .null, some .null, none]))) := (f23 _ (by omega)).trans e22
  have t134 : L23 (a + 1) = some (.inl (0, 16029)) := (f23 _ (by omega)).trans t122
  have t135 : L23 (a + 2) = some (.inl (0, 42744)) := (f23 _ (by omega)).trans t123
  have t136 : L23 (a + 3) = some (.inl (1, 2)) := (f23 _ (by omega)).trans t124
  have t137 : L23 (a + 4) = some (.inl (0, 3)) := (f23 _ (by omega)).trans t125
  have t138 : L23 (a + 5) = some (.inl (1, 8)) := (f23 _ (by omega)).trans t126
  have t139 : L23 (a + 6) = some (.inl (2, 100)) := (f23 _ (by omega)).trans t127
  have t140 : L23 (a + 7) = some (.inl (0, 13)) := (f23 _ (by omega)).trans t128
  have t141 : L23 (a + 8) = some (.inl (2, 45)) := (f23 _ (by omega)).trans t129
  have t142 : L23 (a + 9) = some (.inl (0, 12)) := (f23 _ (by omega)).trans t130
  have t143 : L23 (a + 10) = some (.inl (0, 3)) := (f23 _ (by omega)).trans t131
  have t144 : L23 (a + 11) = some (.inl (0, 15)) := (f23 _ (by omega)).trans t132
  refine z_putRg (fs' := [none, some (.ref (a + 1)), some (.ref (a + 2)), none, some (.ref (a + 3)), some (.ref (a + 4)), none, some (.ref (a + 5)), some (.ref (a + 6)), none, none, none, none, none, some (.ref (a + 7)), some (.ref (a + 8)), none, none, none, none, none, some (.ref (a + 9)), some (.ref (a + 10)), some (.ref (a + 11)), none, none, none, some (.ref (a + 12)), none, none, some .null, some .null, some .null, none]) dX12_init_359 fX12_56 (Or.inr ⟨rfl, _, _, _, rfl, rfl⟩) ⟨rfl, rfl⟩ t133 (Nat.le_of_ble_eq_true rfl) rfl ?_
  intro L24 e24 f24
  have t145 : L24 (a + 1) = some (.inl (0, 16029)) := (f24 _ (by omega)).trans t134
  have t146 : L24 (a + 2) = some (.inl (0, 42744)) := (f24 _ (by omega)).trans t135
  have t147 : L24 (a + 3) = some (.inl (1, 2)) := (f24 _ (by omega)).trans t136
  have t148 : L24 (a + 4) = some (.inl (0, 3)) := (f24 _ (by omega)).trans t137
  have t149 : L24 (a + 5) = some (.inl (1, 8)) := (f24 _ (by omega)).trans t138
  have t150 : L24 (a + 6) = some (.inl (2, 100)) := (f24 _ (by omega)).trans t139
  have t151 : L24 (a + 7) = some (.inl (0, 13)) := (f24 _ (by omega)).trans t140
  have t152 : L24 (a + 8) = some (.inl (2, 45)) := (f24 _ (by omega)).trans t141
  have t153 : L24 (a + 9) = some (.inl (0, 12)) := (f24 _ (by omega)).trans t142
  have t154 : L24 (a + 10) = some (.inl (0, 3)) := (f24 _ (by omega)).trans t143
  have t155 : L24 (a + 11) = some (.inl (0, 15)) := (f24 _ (by omega)).trans t144
  have t156 : L24 (a + 12) = some (.inl (0, 48)) := (f24 _ (by omega)).trans e23
  refine z_aload_n dX12_init_362 rfl ?_
  refine z_iconst (v := nI 4) dX12_init_363 rfl ?_
  refine z_newag (t := 1) (N := 4) (n := nI 4) dX12_init_364 (fun _ => rfl) (by decide) w_arr_boolean (nI_pos (by decide)) (nI_clamp (by decide)) rfl (Nat.le_of_ble_eq_true rfl) ⟨Nat.le_of_ble_eq_true rfl, Nat.le_of_ble_eq_true rfl⟩ ?_
  intro L25 V25 e25 f25 g25 x25
  have t157 : L25 a = some (.inr (.inr (12, [none, some (.ref (a + 1)), some (.ref (a + 2)), none, some (.ref (a + 3)), some (.ref (a + 4)), none, some (.ref (a + 5)), some (.ref (a + 6)), none, none, none, none, none, some (.ref (a + 7)), some (.ref (a + 8)), none, none, none, none, none, some (.ref (a + 9)), some (.ref (a + 10)), some (.ref (a + 11)), none, none, none, some (.ref (a + 12)), none, none, some .null, some .null, some .null, none]))) := (f25 _ (by omega)).trans e24
  have t158 : L25 (a + 1) = some (.inl (0, 16029)) := (f25 _ (by omega)).trans t145
  have t159 : L25 (a + 2) = some (.inl (0, 42744)) := (f25 _ (by omega)).trans t146
  have t160 : L25 (a + 3) = some (.inl (1, 2)) := (f25 _ (by omega)).trans t147
  have t161 : L25 (a + 4) = some (.inl (0, 3)) := (f25 _ (by omega)).trans t148
  have t162 : L25 (a + 5) = some (.inl (1, 8)) := (f25 _ (by omega)).trans t149
  have t163 : L25 (a + 6) = some (.inl (2, 100)) := (f25 _ (by omega)).trans t150
  have t164 : L25 (a + 7) = some (.inl (0, 13)) := (f25 _ (by omega)).trans t151
  have t165 : L25 (a + 8) = some (.inl (2, 45)) := (f25 _ (by omega)).trans t152
  have t166 : L25 (a + 9) = some (.inl (0, 12)) := (f25 _ (by omega)).trans t153
  have t167 : L25 (a + 10) = some (.inl (0, 3)) := (f25 _ (by omega)).trans t154
  have t168 : L25 (a + 11) = some (.inl (0, 15)) := (f25 _ (by omega)).trans t155
  have t169 : L25 (a + 12) = some (.inl (0, 48)) := (f25 _ (by omega)).trans t156
  refine z_putRg (fs' := [none, some (.ref (a + 1)), some (.ref (a + 2)), none, some (.ref (a + 3)), some (.ref (a + 4)), none, some (.ref (a + 5)), some (.ref (a + 6)), none, none, none, none, none, some (.ref (a + 7)), some (.ref (a + 8)), none, none, none, none, none, some (.ref (a + 9)), some (.ref (a + 10)), some (.ref (a + 11)), none, none, none, some (.ref (a + 12)), none, none, some (.ref (a + 13)), some .null, some .null, none]) dX12_init_366 fX12_59 (Or.inr ⟨rfl, _, _, _, rfl, rfl⟩) ⟨rfl, rfl⟩ t157 (Nat.le_of_ble_eq_true rfl) rfl ?_
  intro L26 e26 f26
  have t170 : L26 (a + 1) = some (.inl (0, 16029)) := (f26 _ (by omega)).trans t158
  have t171 : L26 (a + 2) = some (.inl (0, 42744)) := (f26 _ (by omega)).trans t159
  have t172 : L26 (a + 3) = some (.inl (1, 2)) := (f26 _ (by omega)).trans t160
  have t173 : L26 (a + 4) = some (.inl (0, 3)) := (f26 _ (by omega)).trans t161
  have t174 : L26 (a + 5) = some (.inl (1, 8)) := (f26 _ (by omega)).trans t162
  have t175 : L26 (a + 6) = some (.inl (2, 100)) := (f26 _ (by omega)).trans t163
  have t176 : L26 (a + 7) = some (.inl (0, 13)) := (f26 _ (by omega)).trans t164
  have t177 : L26 (a + 8) = some (.inl (2, 45)) := (f26 _ (by omega)).trans t165
  have t178 : L26 (a + 9) = some (.inl (0, 12)) := (f26 _ (by omega)).trans t166
  have t179 : L26 (a + 10) = some (.inl (0, 3)) := (f26 _ (by omega)).trans t167
  have t180 : L26 (a + 11) = some (.inl (0, 15)) := (f26 _ (by omega)).trans t168
  have t181 : L26 (a + 12) = some (.inl (0, 48)) := (f26 _ (by omega)).trans t169
  have t182 : L26 (a + 13) = some (.inl (1, 4)) := (f26 _ (by omega)).trans e25
  refine z_aload_n dX12_init_369 rfl ?_
  refine z_iconst (v := nI 3) dX12_init_370 rfl ?_
  refine z_newag (t := 0) (N := 3) (n := nI 3) dX12_init_371 (fun _ => rfl) (by decide) w_arr_int (nI_pos (by decide)) (nI_clamp (by decide)) rfl (Nat.le_of_ble_eq_true rfl) ⟨Nat.le_of_ble_eq_true rfl, Nat.le_of_ble_eq_true rfl⟩ ?_
  intro L27 V27 e27 f27 g27 x27
  have t183 : L27 a = some (.inr (.inr (12, [none, some (.ref (a + 1)), some (.ref (a + 2)), none, some (.ref (a + 3)), some (.ref (a + 4)), none, some (.ref (a + 5)), some (.ref (a + 6)), none, none, none, none, none, some (.ref (a + 7)), some (.ref (a + 8)), none, none, none, none, none, some (.ref (a + 9)), some (.ref (a + 10)), some (.ref (a + 11)), none, none, none, some (.ref (a + 12)), none, none, some (.ref (a + 13)), some .null, some .null, none]))) := (f27 _ (by omega)).trans e26
  have t184 : L27 (a + 1) = some (.inl (0, 16029)) := (f27 _ (by omega)).trans t170
  have t185 : L27 (a + 2) = some (.inl (0, 42744)) := (f27 _ (by omega)).trans t171
  have t186 : L27 (a + 3) = some (.inl (1, 2)) := (f27 _ (by omega)).trans t172
  have t187 : L27 (a + 4) = some (.inl (0, 3)) := (f27 _ (by omega)).trans t173
  have t188 : L27 (a + 5) = some (.inl (1, 8)) := (f27 _ (by omega)).trans t174
  have t189 : L27 (a + 6) = some (.inl (2, 100)) := (f27 _ (by omega)).trans t175
  have t190 : L27 (a + 7) = some (.inl (0, 13)) := (f27 _ (by omega)).trans t176
  have t191 : L27 (a + 8) = some (.inl (2, 45)) := (f27 _ (by omega)).trans t177
  have t192 : L27 (a + 9) = some (.inl (0, 12)) := (f27 _ (by omega)).trans t178
  have t193 : L27 (a + 10) = some (.inl (0, 3)) := (f27 _ (by omega)).trans t179
  have t194 : L27 (a + 11) = some (.inl (0, 15)) := (f27 _ (by omega)).trans t180
  have t195 : L27 (a + 12) = some (.inl (0, 48)) := (f27 _ (by omega)).trans t181
  have t196 : L27 (a + 13) = some (.inl (1, 4)) := (f27 _ (by omega)).trans t182
  refine z_putRg (fs' := [none, some (.ref (a + 1)), some (.ref (a + 2)), none, some (.ref (a + 3)), some (.ref (a + 4)), none, some (.ref (a + 5)), some (.ref (a + 6)), none, none, none, none, none, some (.ref (a + 7)), some (.ref (a + 8)), none, none, none, none, none, some (.ref (a + 9)), some (.ref (a + 10)), some (.ref (a + 11)), none, none, none, some (.ref (a + 12)), none, none, some (.ref (a + 13)), some (.ref (a + 14)), some .null, none]) dX12_init_373 fX12_62 (Or.inr ⟨rfl, _, _, _, rfl, rfl⟩) ⟨rfl, rfl⟩ t183 (Nat.le_of_ble_eq_true rfl) rfl ?_
  intro L28 e28 f28
  have t197 : L28 (a + 1) = some (.inl (0, 16029)) := (f28 _ (by omega)).trans t184
  have t198 : L28 (a + 2) = some (.inl (0, 42744)) := (f28 _ (by omega)).trans t185
  have t199 : L28 (a + 3) = some (.inl (1, 2)) := (f28 _ (by omega)).trans t186
  have t200 : L28 (a + 4) = some (.inl (0, 3)) := (f28 _ (by omega)).trans t187
  have t201 : L28 (a + 5) = some (.inl (1, 8)) := (f28 _ (by omega)).trans t188
  have t202 : L28 (a + 6) = some (.inl (2, 100)) := (f28 _ (by omega)).trans t189
  have t203 : L28 (a + 7) = some (.inl (0, 13)) := (f28 _ (by omega)).trans t190
  have t204 : L28 (a + 8) = some (.inl (2, 45)) := (f28 _ (by omega)).trans t191
  have t205 : L28 (a + 9) = some (.inl (0, 12)) := (f28 _ (by omega)).trans t192
  have t206 : L28 (a + 10) = some (.inl (0, 3)) := (f28 _ (by omega)).trans t193
  have t207 : L28 (a + 11) = some (.inl (0, 15)) := (f28 _ (by omega)).trans t194
  have t208 : L28 (a + 12) = some (.inl (0, 48)) := (f28 _ (by omega)).trans t195
  have t209 : L28 (a + 13) = some (.inl (1, 4)) := (f28 _ (by omega)).trans t196
  have t210 : L28 (a + 14) = some (.inl (0, 3)) := (f28 _ (by omega)).trans e27
  refine z_aload_n dX12_init_376 rfl ?_
  refine z_bipush (v := nI 48) dX12_init_377 rfl ?_
  refine z_newag (t := 0) (N := 48) (n := nI 48) dX12_init_379 (fun _ => rfl) (by decide) w_arr_int (nI_pos (by decide)) (nI_clamp (by decide)) rfl (Nat.le_of_ble_eq_true rfl) ⟨Nat.le_of_ble_eq_true rfl, Nat.le_of_ble_eq_true rfl⟩ ?_
  intro L29 V29 e29 f29 g29 x29
  have t211 : L29 a = some (.inr (.inr (12, [none, some (.ref (a + 1)), some (.ref (a + 2)), none, some (.ref (a + 3)), some (.ref (a + 4)), none, some (.ref (a + 5)), some (.ref (a + 6)), none, none, none, none, none, some (.ref (a + 7)), some (.ref (a + 8)), none, none, none, none, none, some (.ref (a + 9)), some (.ref (a + 10)), some (.ref (a + 11)), none, none, none, some (.ref (a + 12)), none, none, some (.ref (a + 13)), some (.ref (a + 14)), some .null, none]))) := (f29 _ (by omega)).trans e28
  have t212 : L29 (a + 1) = some (.inl (0, 16029)) := (f29 _ (by omega)).trans t197
  have t213 : L29 (a + 2) = some (.inl (0, 42744)) := (f29 _ (by omega)).trans t198
  have t214 : L29 (a + 3) = some (.inl (1, 2)) := (f29 _ (by omega)).trans t199
  have t215 : L29 (a + 4) = some (.inl (0, 3)) := (f29 _ (by omega)).trans t200
  have t216 : L29 (a + 5) = some (.inl (1, 8)) := (f29 _ (by omega)).trans t201
  have t217 : L29 (a + 6) = some (.inl (2, 100)) := (f29 _ (by omega)).trans t202
  have t218 : L29 (a + 7) = some (.inl (0, 13)) := (f29 _ (by omega)).trans t203
  have t219 : L29 (a + 8) = some (.inl (2, 45)) := (f29 _ (by omega)).trans t204
  have t220 : L29 (a + 9) = some (.inl (0, 12)) := (f29 _ (by omega)).trans t205
  have t221 : L29 (a + 10) = some (.inl (0, 3)) := (f29 _ (by omega)).trans t206
  have t222 : L29 (a + 11) = some (.inl (0, 15)) := (f29 _ (by omega)).trans t207
  have t223 : L29 (a + 12) = some (.inl (0, 48)) := (f29 _ (by omega)).trans t208
  have t224 : L29 (a + 13) = some (.inl (1, 4)) := (f29 _ (by omega)).trans t209
  have t225 : L29 (a + 14) = some (.inl (0, 3)) := (f29 _ (by omega)).trans t210
  refine z_putRg (fs' := [none, some (.ref (a + 1)), some (.ref (a + 2)), none, some (.ref (a + 3)), some (.ref (a + 4)), none, some (.ref (a + 5)), some (.ref (a + 6)), none, none, none, none, none, some (.ref (a + 7)), some (.ref (a + 8)), none, none, none, none, none, some (.ref (a + 9)), some (.ref (a + 10)), some (.ref (a + 11)), none, none, none, some (.ref (a + 12)), none, none, some (.ref (a + 13)), some (.ref (a + 14)), some (.ref (a + 15)), none]) dX12_init_381 fX12_65 (Or.inr ⟨rfl, _, _, _, rfl, rfl⟩) ⟨rfl, rfl⟩ t211 (Nat.le_of_ble_eq_true rfl) rfl ?_
  intro L30 e30 f30
  have t226 : L30 (a + 1) = some (.inl (0, 16029)) := (f30 _ (by omega)).trans t212
  have t227 : L30 (a + 2) = some (.inl (0, 42744)) := (f30 _ (by omega)).trans t213
  have t228 : L30 (a + 3) = some (.inl (1, 2)) := (f30 _ (by omega)).trans t214
  have t229 : L30 (a + 4) = some (.inl (0, 3)) := (f30 _ (by omega)).trans t215
  have t230 : L30 (a + 5) = some (.inl (1, 8)) := (f30 _ (by omega)).trans t216
  have t231 : L30 (a + 6) = some (.inl (2, 100)) := (f30 _ (by omega)).trans t217
  have t232 : L30 (a + 7) = some (.inl (0, 13)) := (f30 _ (by omega)).trans t218
  have t233 : L30 (a + 8) = some (.inl (2, 45)) := (f30 _ (by omega)).trans t219
  have t234 : L30 (a + 9) = some (.inl (0, 12)) := (f30 _ (by omega)).trans t220
  have t235 : L30 (a + 10) = some (.inl (0, 3)) := (f30 _ (by omega)).trans t221
  have t236 : L30 (a + 11) = some (.inl (0, 15)) := (f30 _ (by omega)).trans t222
  have t237 : L30 (a + 12) = some (.inl (0, 48)) := (f30 _ (by omega)).trans t223
  have t238 : L30 (a + 13) = some (.inl (1, 4)) := (f30 _ (by omega)).trans t224
  have t239 : L30 (a + 14) = some (.inl (0, 3)) := (f30 _ (by omega)).trans t225
  have t240 : L30 (a + 15) = some (.inl (0, 48)) := (f30 _ (by omega)).trans e29
  refine z_iconst (v := nI 0) dX12_init_384 rfl ?_
  refine z_istore_n dX12_init_385 (Nat.le_of_ble_eq_true rfl) rfl ?_
  have hm : sM L30 a := ⟨e30, t226, t227, t228, t229, t230, t231, t232, t233, t234, t235, t236, t237, t238, t239, t240⟩
  have hr : ∀ k, V29 (a + 1) k = 0 := fun k => by ((repeat (first | rw [x29 _ (by omega)] | rw [x27 _ (by omega)] | rw [x25 _ (by omega)] | rw [x23 _ (by omega)] | rw [zup_a (by omega)] | rw [x21 _ (by omega)] | rw [x19 _ (by omega)] | rw [x17 _ (by omega)] | rw [hw44.2 _ (by omega)] | rw [x15 _ (by omega)] | rw [x13 _ (by omega)] | rw [x11 _ (by omega)] | rw [x9 _ (by omega)] | rw [x7 _ (by omega)] | rw [x5 _ (by omega)] | rw [x3 _ (by omega)] | rw [x1 _ (by omega)])); exact g1 k)
  refine lp_i12 hm hr (fun V80 k1 k2 => ?_) _ 0 _ rfl (by omega) (fun q hq => rfl) (fun k => by rw [hr k, if_neg (by omega)])
  refine z_iconst (v := nI 0) dX12_init_409 rfl ?_
  refine z_istore_n dX12_init_410 (Nat.le_of_ble_eq_true rfl) rfl ?_
  refine z_iload_n dX12_init_411 rfl ?_
  refine z_iconst (v := nI 2) dX12_init_412 rfl ?_
  refine z_icmp_geN (tgt := 428) dX12_init_413 (by decide) (by omega) (by omega) (fun c => absurd c (by omega)) (fun _ => ?_)
  refine z_aload_n dX12_init_416 rfl ?_
  refine z_iload_n dX12_init_417 rfl ?_
  refine z_iconst (v := nI 0) dX12_init_418 rfl ?_
  refine z_callV2w dX12_init_419 kX12_empties lX12_68 hm.1 rfl (s_mEmp hm (i := 0) (by omega) (by omega)) (Nat.le_of_ble_eq_true rfl) (Nat.le_of_ble_eq_true rfl) ⟨Nat.le_of_ble_eq_true rfl, Nat.le_of_ble_eq_true rfl⟩ ?_
  intro V81 m1
  refine z_iinc dX12_init_422 rfl (show nI 0 + Int32.ofInt (1) = nI 1 from by decide) rfl ?_
  refine z_goto (tgt := 411) dX12_init_425 (by decide) ?_
  refine z_iload_n dX12_init_411 rfl ?_
  refine z_iconst (v := nI 2) dX12_init_412 rfl ?_
  refine z_icmp_geN (tgt := 428) dX12_init_413 (by decide) (by omega) (by omega) (fun c => absurd c (by omega)) (fun _ => ?_)
  refine z_aload_n dX12_init_416 rfl ?_
  refine z_iload_n dX12_init_417 rfl ?_
  refine z_iconst (v := nI 0) dX12_init_418 rfl ?_
  refine z_callV2w dX12_init_419 kX12_empties lX12_68 hm.1 rfl (s_mEmp hm (i := 1) (by omega) (by omega)) (Nat.le_of_ble_eq_true rfl) (Nat.le_of_ble_eq_true rfl) ⟨Nat.le_of_ble_eq_true rfl, Nat.le_of_ble_eq_true rfl⟩ ?_
  intro V82 m2
  refine z_iinc dX12_init_422 rfl (show nI 1 + Int32.ofInt (1) = nI 2 from by decide) rfl ?_
  refine z_goto (tgt := 411) dX12_init_425 (by decide) ?_
  refine z_iload_n dX12_init_411 rfl ?_
  refine z_iconst (v := nI 2) dX12_init_412 rfl ?_
  refine z_icmp_geN (tgt := 428) dX12_init_413 (by decide) (by omega) (by omega) (fun _ => ?_) (fun c => absurd c (by omega))
  refine z_aload_n dX12_init_428 rfl ?_
  refine z_getR dX12_init_429 fX12_13 hm.1 rfl ?_
  refine z_sipush (v := nI 5341) dX12_init_432 rfl ?_
  refine z_iconst (v := nI 3) dX12_init_435 rfl ?_
  refine z_iastN (i := 5341) dX12_init_436 hm.2.1 (by decide) (by decide) ?_
  refine z_aload_n dX12_init_437 rfl ?_
  refine z_getR dX12_init_438 fX12_13 hm.1 rfl ?_
  refine z_sipush (v := nI 5342) dX12_init_441 rfl ?_
  refine z_iconst (v := nI 5) dX12_init_444 rfl ?_
  refine z_iastN (i := 5342) dX12_init_445 hm.2.1 (by decide) (by decide) ?_
  refine z_return dX12_init_446 (Nat.le_of_ble_eq_true rfl) (Nat.le_of_ble_eq_true rfl) rfl ?_
  
  generalize hV9 : (zup (zup V82 (a + 1) 5341 (nI 3)) (a + 1) 5342 (nI 5)) = V9
  have hz : ∀ q, q ≠ a + 1 → V9 q = V82 q := fun q hq => by rw [← hV9, zup_a hq, zup_a hq]
  have y3 : V9 a 3 = 0 := by ((repeat (first | rw [zup_k (by decide)] | rw [hz _ (by omega)] | rw [m2.1.1 _ (by omega) (by omega)] | rw [m1.1.1 _ (by omega) (by omega)] | rw [k1 _ (by omega)] | rw [x29 _ (by omega)] | rw [x27 _ (by omega)] | rw [x25 _ (by omega)] | rw [x23 _ (by omega)] | rw [zup_a (by omega)] | rw [x21 _ (by omega)] | rw [x19 _ (by omega)] | rw [x17 _ (by omega)] | rw [hw44.2 _ (by omega)] | rw [x15 _ (by omega)] | rw [x13 _ (by omega)] | rw [x11 _ (by omega)] | rw [x9 _ (by omega)] | rw [x7 _ (by omega)] | rw [x5 _ (by omega)] | rw [x3 _ (by omega)] | rw [x1 _ (by omega)])); exact hV 3)
  have y6 : V9 a 6 = 0 := by ((repeat (first | rw [zup_k (by decide)] | rw [hz _ (by omega)] | rw [m2.1.1 _ (by omega) (by omega)] | rw [m1.1.1 _ (by omega) (by omega)] | rw [k1 _ (by omega)] | rw [x29 _ (by omega)] | rw [x27 _ (by omega)] | rw [x25 _ (by omega)] | rw [x23 _ (by omega)] | rw [zup_a (by omega)] | rw [x21 _ (by omega)] | rw [x19 _ (by omega)] | rw [x17 _ (by omega)] | rw [hw44.2 _ (by omega)] | rw [x15 _ (by omega)] | rw [x13 _ (by omega)] | rw [x11 _ (by omega)] | rw [x9 _ (by omega)] | rw [x7 _ (by omega)] | rw [x5 _ (by omega)] | rw [x3 _ (by omega)] | rw [x1 _ (by omega)])); exact hV 6)
  have y9 : V9 a 9 = 0 := by ((repeat (first | rw [zup_k (by decide)] | rw [hz _ (by omega)] | rw [m2.1.1 _ (by omega) (by omega)] | rw [m1.1.1 _ (by omega) (by omega)] | rw [k1 _ (by omega)] | rw [x29 _ (by omega)] | rw [x27 _ (by omega)] | rw [x25 _ (by omega)] | rw [x23 _ (by omega)] | rw [zup_a (by omega)] | rw [x21 _ (by omega)] | rw [x19 _ (by omega)] | rw [x17 _ (by omega)] | rw [hw44.2 _ (by omega)] | rw [x15 _ (by omega)] | rw [x13 _ (by omega)] | rw [x11 _ (by omega)] | rw [x9 _ (by omega)] | rw [x7 _ (by omega)] | rw [x5 _ (by omega)] | rw [x3 _ (by omega)] | rw [x1 _ (by omega)])); exact hV 9)
  have y12 : V9 a 12 = 0 := by ((repeat (first | rw [zup_k (by decide)] | rw [hz _ (by omega)] | rw [m2.1.1 _ (by omega) (by omega)] | rw [m1.1.1 _ (by omega) (by omega)] | rw [k1 _ (by omega)] | rw [x29 _ (by omega)] | rw [x27 _ (by omega)] | rw [x25 _ (by omega)] | rw [x23 _ (by omega)] | rw [zup_a (by omega)] | rw [x21 _ (by omega)] | rw [x19 _ (by omega)] | rw [x17 _ (by omega)] | rw [hw44.2 _ (by omega)] | rw [x15 _ (by omega)] | rw [x13 _ (by omega)] | rw [x11 _ (by omega)] | rw [x9 _ (by omega)] | rw [x7 _ (by omega)] | rw [x5 _ (by omega)] | rw [x3 _ (by omega)] | rw [x1 _ (by omega)])); exact hV 12)
  have y13 : V9 a 13 = -1 := by ((repeat (first | rw [zup_k (by decide)] | rw [hz _ (by omega)] | rw [m2.1.1 _ (by omega) (by omega)] | rw [m1.1.1 _ (by omega) (by omega)] | rw [k1 _ (by omega)] | rw [x29 _ (by omega)] | rw [x27 _ (by omega)] | rw [x25 _ (by omega)] | rw [x23 _ (by omega)] | rw [zup_a (by omega)] | rw [x21 _ (by omega)] | rw [x19 _ (by omega)] | rw [x17 _ (by omega)] | rw [hw44.2 _ (by omega)] | rw [x15 _ (by omega)] | rw [x13 _ (by omega)] | rw [x11 _ (by omega)] | rw [x9 _ (by omega)] | rw [x7 _ (by omega)] | rw [x5 _ (by omega)] | rw [x3 _ (by omega)] | rw [x1 _ (by omega)])); exact zup_s _ _ _ _)
  have y24 : V9 a 24 = -1 := by ((repeat (first | rw [zup_k (by decide)] | rw [hz _ (by omega)] | rw [m2.1.1 _ (by omega) (by omega)] | rw [m1.1.1 _ (by omega) (by omega)] | rw [k1 _ (by omega)] | rw [x29 _ (by omega)] | rw [x27 _ (by omega)] | rw [x25 _ (by omega)] | rw [x23 _ (by omega)] | rw [zup_a (by omega)] | rw [x21 _ (by omega)] | rw [x19 _ (by omega)] | rw [x17 _ (by omega)] | rw [hw44.2 _ (by omega)] | rw [x15 _ (by omega)] | rw [x13 _ (by omega)] | rw [x11 _ (by omega)] | rw [x9 _ (by omega)] | rw [x7 _ (by omega)] | rw [x5 _ (by omega)] | rw [x3 _ (by omega)] | rw [x1 _ (by omega)])); exact zup_s _ _ _ _)
  have u3 : ∀ k, V9 (a + 3) k = 0 := fun k => by ((repeat (first | rw [hz _ (by omega)] | rw [m2.1.1 _ (by omega) (by omega)] | rw [m1.1.1 _ (by omega) (by omega)] | rw [k1 _ (by omega)] | rw [x29 _ (by omega)] | rw [x27 _ (by omega)] | rw [x25 _ (by omega)] | rw [x23 _ (by omega)] | rw [zup_a (by omega)] | rw [x21 _ (by omega)] | rw [x19 _ (by omega)] | rw [x17 _ (by omega)] | rw [hw44.2 _ (by omega)] | rw [x15 _ (by omega)] | rw [x13 _ (by omega)] | rw [x11 _ (by omega)] | rw [x9 _ (by omega)] | rw [x7 _ (by omega)] | rw [x3 _ (by omega)] | rw [x1 _ (by omega)])); exact g5 k)
  have u8 : wd V9 (a + 8) 45 := fun k hk => by ((repeat (first | rw [hz _ (by omega)] | rw [m2.1.1 _ (by omega) (by omega)] | rw [m1.1.1 _ (by omega) (by omega)] | rw [k1 _ (by omega)] | rw [x29 _ (by omega)] | rw [x27 _ (by omega)] | rw [x25 _ (by omega)] | rw [x23 _ (by omega)] | rw [zup_a (by omega)] | rw [x21 _ (by omega)] | rw [x19 _ (by omega)] | rw [x17 _ (by omega)] | rw [x15 _ (by omega)] | rw [x13 _ (by omega)] | rw [x11 _ (by omega)] | rw [x9 _ (by omega)] | rw [x7 _ (by omega)] | rw [x5 _ (by omega)] | rw [x3 _ (by omega)] | rw [x1 _ (by omega)])); exact hw44.1 k hk)
  have hb : ∀ j, V9 (a + 1) j = if j = 5342 then nI 5 else if j = 5341 then nI 3 else V82 (a + 1) j := fun j => by
    rw [← hV9]
    by_cases h1 : j = 5342
    · rw [h1, zup_s, if_pos rfl]
    · rw [zup_k h1, if_neg h1]
      by_cases h2 : j = 5341
      · rw [h2, zup_s, if_pos rfl]
      · rw [zup_k h2, if_neg h2]
  have hb0 : ∀ j, j < 2140 → V9 (a + 1) j = if 1920 ≤ j ∧ j < 1968 then nI 1 else 0 := fun j hj => by rw [hb, if_neg (by omega), if_neg (by omega), m2.1.2 j (by omega), m1.1.2 j (by omega), k2]
  have hx0 : MX (V9 (a + 1)) 2140 (xClear 0) := MX.cg m1.2 (fun j h1 h2 => by rw [hb, if_neg (by omega), if_neg (by omega), m2.1.2 j (by omega)])
  have hx1 : MX (V9 (a + 1)) 3740 (xClear 0) := MX.cg m2.2 (fun j h1 h2 => by rw [hb, if_neg (by omega), if_neg (by omega)])
  have hn0 : V9 (a + 1) 5340 = 0 := by rw [hb, if_neg (by omega), if_neg (by omega), m2.1.2 _ (by omega), m1.1.2 _ (by omega), k2, if_neg (by omega)]
  have hB : MB (V9 (a + 1)) st0 := ⟨⟨hn0, by rw [hb, if_neg (by omega), if_pos rfl] <;> rfl, by rw [hb, if_pos rfl] <;> rfl, by decide, by decide, by decide, by decide⟩, fun r hr => MVr_0 (by rw [hb0 _ (by omega), if_pos (by omega)]) (by rw [hb0 _ (by omega), if_neg (by omega)]) (by rw [hb0 _ (by omega), if_neg (by omega)]), fun t ht => MT_0 (fun j hj => by rw [hb0 _ (by omega), if_neg (by omega)]), fun i hi => by
    rcases (show i = 0 ∨ i = 1 by omega) with rfl | rfl
    · exact hx0
    · exact hx1⟩
  refine ⟨rfl, rfl, fun q hq => ⟨by (repeat (first | rw [f30 _ (by omega)] | rw [f29 _ (by omega)] | rw [f28 _ (by omega)] | rw [f27 _ (by omega)] | rw [f26 _ (by omega)] | rw [f25 _ (by omega)] | rw [f24 _ (by omega)] | rw [f23 _ (by omega)] | rw [f22 _ (by omega)] | rw [f21 _ (by omega)] | rw [f20 _ (by omega)] | rw [f19 _ (by omega)] | rw [f18 _ (by omega)] | rw [f17 _ (by omega)] | rw [f16 _ (by omega)] | rw [f15 _ (by omega)] | rw [f14 _ (by omega)] | rw [f13 _ (by omega)] | rw [f12 _ (by omega)] | rw [f11 _ (by omega)] | rw [f10 _ (by omega)] | rw [f9 _ (by omega)] | rw [f8 _ (by omega)] | rw [f7 _ (by omega)] | rw [f6 _ (by omega)] | rw [f5 _ (by omega)] | rw [f4 _ (by omega)] | rw [f3 _ (by omega)] | rw [f2 _ (by omega)] | rw [f1 _ (by omega)])), by (repeat (first | rw [hz _ (by omega)] | rw [m2.1.1 _ (by omega) (by omega)] | rw [m1.1.1 _ (by omega) (by omega)] | rw [k1 _ (by omega)] | rw [x29 _ (by omega)] | rw [x27 _ (by omega)] | rw [x25 _ (by omega)] | rw [x23 _ (by omega)] | rw [zup_a (by omega)] | rw [x21 _ (by omega)] | rw [x19 _ (by omega)] | rw [x17 _ (by omega)] | rw [hw44.2 _ (by omega)] | rw [x15 _ (by omega)] | rw [x13 _ (by omega)] | rw [x11 _ (by omega)] | rw [x9 _ (by omega)] | rw [x7 _ (by omega)] | rw [x5 _ (by omega)] | rw [x3 _ (by omega)] | rw [x1 _ (by omega)]))⟩, hm, ?_⟩
  exact ⟨hB, ⟨by decide, y3, fun k hk => absurd hk (by simp [w0])⟩, fun i hi => ⟨(u3 i).trans (zb_f (by simp [w0])).symm, fun s hs => by cases hs⟩, ⟨y9, y12, y13, by decide, by decide, fun j hj => absurd hj (by simp [w0])⟩, ⟨y6, by decide⟩, y24, u8⟩

