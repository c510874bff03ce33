/-! the law's own logic: as Z, with the script known -/
def zX (b n : Nat) (xs : Nat → Int32) (z0 : Nat) (s : State) : Prop := va_X b n xs s s.heap ∧ b < z0
def YL (yb yl : Nat) (yx : Nat → Int32) (D : zD) (z0 d mc ms : Nat) (y : Mt) (cells slots pc : Nat) (lv : List (Option Value)) (st : List Value) (L : zL) (V : zV) (nx : Nat) (P : zP) : Prop :=
  ∀ (p : Program) (l : Launch) (e : Env) (s : State) (m : MethodId) (args : Array Value) (below : List Frame) (meth : Method) (c : Code) (H : Heap) (locs : List Loc) (Q : State → Prop) (ls : Array Slot),
    zX yb yl yx z0 s → zC D z0 y p s m args meth c → zl y.2.2.1 lv ls → zr D z0 L V nx H → zH z0 s H locs → zfin D z0 d mc ms y P p l e s m args below meth c Q →
    W p l e (zR d mc ms) s m args below meth c H locs cells slots Q (F0 m pc ls st)
section ZY
variable {yb yl : Nat} {yx : Nat → Int32} {D : zD} {z0 d mc ms : Nat} {y : Mt} {cells slots pc : Nat} {lv : List (Option Value)} {st : List Value} {L : zL} {V : zV} {nx : Nat} {P : zP}
theorem y_iconst {n : Int} {v : Int32} (hd : decode y.2.1 pc = .ok (.iconst n, 1)) (hv : Int32.ofInt n = v) (k : YL yb yl yx D z0 d mc ms y cells slots (pc + 1) lv (.int v :: st) L V nx P) : YL yb yl yx D z0 d mc ms y cells slots pc lv st L V nx P := fun p l e s m args below meth c H locs Q ls hX hC hl hr hH hf => lv_iconst hC.1 hC.2.1 hd hv (k p l e s m args below meth c H locs Q ls hX hC hl hr hH hf)
theorem y_bipush {n : Int} {v : Int32} (hd : decode y.2.1 pc = .ok (.bipush n, 2)) (hv : (Int8.ofInt n).toInt32 = v) (k : YL yb yl yx D z0 d mc ms y cells slots (pc + 2) lv (.int v :: st) L V nx P) : YL yb yl yx D z0 d mc ms y cells slots pc lv st L V nx P := fun p l e s m args below meth c H locs Q ls hX hC hl hr hH hf => lv_bipush hC.1 hC.2.1 hd hv (k p l e s m args below meth c H locs Q ls hX hC hl hr hH hf)
theorem y_iload_n {n : Fin 4} {x : Int32} (hd : decode y.2.1 pc = .ok (.iload_n n, 1)) (hx : lv[(n : Nat)]? = some (some (.int x))) (k : YL yb yl yx D z0 d mc ms y cells slots (pc + 1) lv (.int x :: st) L V nx P) : YL yb yl yx D z0 d mc ms y cells slots pc lv st L V nx P := fun p l e s m args below meth c H locs Q ls hX hC hl hr hH hf => lv_iload_n hC.1 hC.2.1 hd rfl (hl.2.2.2 _ _ hx) (k p l e s m args below meth c H locs Q ls hX hC hl hr hH hf)
theorem y_aload_n {n : Fin 4} {x : Nat} (hd : decode y.2.1 pc = .ok (.aload_n n, 1)) (hx : lv[(n : Nat)]? = some (some (.ref x))) (k : YL yb yl yx D z0 d mc ms y cells slots (pc + 1) lv (.ref x :: st) L V nx P) : YL yb yl yx D z0 d mc ms y cells slots pc lv st L V nx P := fun p l e s m args below meth c H locs Q ls hX hC hl hr hH hf => lv_aload_n hC.1 hC.2.1 hd rfl (hl.2.2.2 _ _ hx) (k p l e s m args below meth c H locs Q ls hX hC hl hr hH hf)
theorem y_istore_n {n : Fin 4} {x : Int32} (hd : decode y.2.1 pc = .ok (.istore_n n, 1)) (hi : (n : Nat) < lv.length) (hc : zc1 lv = true) (k : YL yb yl yx D z0 d mc ms y cells slots (pc + 1) (lv.set (n : Nat) (some (.int x))) st L V nx P) : YL yb yl yx D z0 d mc ms y cells slots pc lv (.int x :: st) L V nx P := fun p l e s m args below meth c H locs Q ls hX hC hl hr hH hf => lv_istore_n (i := (n : Nat)) hC.1 hC.2.1 hd rfl (zl_has hl) (Nat.lt_of_lt_of_eq hi hl.2.1) rfl (fun ls2 h2 => k p l e s m args below meth c H locs Q ls2 hX hC (zl_set hl hc hi h2) hr hH hf)
theorem y_astore_n {n : Fin 4} {x : Nat} (hd : decode y.2.1 pc = .ok (.astore_n n, 1)) (hi : (n : Nat) < lv.length) (hc : zc1 lv = true) (k : YL yb yl yx D z0 d mc ms y cells slots (pc + 1) (lv.set (n : Nat) (some (.ref x))) st L V nx P) : YL yb yl yx D z0 d mc ms y cells slots pc lv (.ref x :: st) L V nx P := fun p l e s m args below meth c H locs Q ls hX hC hl hr hH hf => lv_astore_n (i := (n : Nat)) hC.1 hC.2.1 hd rfl (zl_has hl) (Nat.lt_of_lt_of_eq hi hl.2.1) rfl (fun ls2 h2 => k p l e s m args below meth c H locs Q ls2 hX hC (zl_set hl hc hi h2) hr hH hf)
theorem y_iinc {i : Nat} {n : Int} {x v : Int32} (hd : decode y.2.1 pc = .ok (.iinc i n, 3)) (hx : lv[i]? = some (some (.int x))) (hv : x + Int32.ofInt n = v) (hc : zc1 lv = true) (k : YL yb yl yx D z0 d mc ms y cells slots (pc + 3) (lv.set i (some (.int v))) st L V nx P) : YL yb yl yx D z0 d mc ms y cells slots pc lv st L V nx P := by
  intro p l e s m args below meth c H locs Q ls hX hC hl hr hH hf
  have hm : (i, Value.int x) ∈ zas lv := zas_mem.mpr hx
  obtain ⟨q, hq⟩ := List.mem_iff_getElem?.mp hm
  have hi : i < lv.length := (List.getElem?_eq_some_iff.mp hx).1
  exact lv_iinc hC.1 hC.2.1 hd (zl_has hl) hq hv (Nat.lt_of_lt_of_eq hi hl.2.1) rfl (fun ls2 h2 => k p l e s m args below meth c H locs Q ls2 hX hC (zl_set hl hc hi h2) hr hH hf)
theorem y_iadd {x z : Int32} (hd : decode y.2.1 pc = .ok (.iadd, 1)) (k : YL yb yl yx D z0 d mc ms y cells slots (pc + 1) lv (.int (x + z) :: st) L V nx P) : YL yb yl yx D z0 d mc ms y cells slots pc lv (.int z :: .int x :: st) L V nx P := fun p l e s m args below meth c H locs Q ls hX hC hl hr hH hf => lv_iadd hC.1 hC.2.1 hd (k p l e s m args below meth c H locs Q ls hX hC hl hr hH hf)
theorem y_isub {x z : Int32} (hd : decode y.2.1 pc = .ok (.isub, 1)) (k : YL yb yl yx D z0 d mc ms y cells slots (pc + 1) lv (.int (x - z) :: st) L V nx P) : YL yb yl yx D z0 d mc ms y cells slots pc lv (.int z :: .int x :: st) L V nx P := fun p l e s m args below meth c H locs Q ls hX hC hl hr hH hf => lv_isub hC.1 hC.2.1 hd (k p l e s m args below meth c H locs Q ls hX hC hl hr hH hf)
theorem y_iand {x z : Int32} (hd : decode y.2.1 pc = .ok (.iand, 1)) (k : YL yb yl yx D z0 d mc ms y cells slots (pc + 1) lv (.int (x &&& z) :: st) L V nx P) : YL yb yl yx D z0 d mc ms y cells slots pc lv (.int z :: .int x :: st) L V nx P := fun p l e s m args below meth c H locs Q ls hX hC hl hr hH hf => lv_iand hC.1 hC.2.1 hd (k p l e s m args below meth c H locs Q ls hX hC hl hr hH hf)
theorem y_dup {va : Value} (hd : decode y.2.1 pc = .ok (.dup, 1)) (hva : va.category = 1) (k : YL yb yl yx D z0 d mc ms y cells slots (pc + 1) lv (va :: va :: st) L V nx P) : YL yb yl yx D z0 d mc ms y cells slots pc lv (va :: st) L V nx P := fun p l e s m args below meth c H locs Q ls hX hC hl hr hH hf => lv_dup hC.1 hC.2.1 hd hva (k p l e s m args below meth c H locs Q ls hX hC hl hr hH hf)
theorem y_icmp_eq {x z : Int32} {off : Int} {tgt : Nat} (hd : decode y.2.1 pc = .ok (.if_icmp .eq off, 3)) (ht : (pc : Int) + off = (tgt : Int)) (kt : x = z → YL yb yl yx D z0 d mc ms y cells slots tgt lv st L V nx P) (kf : ¬ x = z → YL yb yl yx D z0 d mc ms y cells slots (pc + 3) lv st L V nx P) : YL yb yl yx D z0 d mc ms y cells slots pc lv (.int z :: .int x :: st) L V nx P := fun p l e s m args below meth c H locs Q ls hX hC hl hr hH hf => lv_icmp_eq hC.1 hC.2.1 hd ht (fun q => kt q p l e s m args below meth c H locs Q ls hX hC hl hr hH hf) (fun q => kf q p l e s m args below meth c H locs Q ls hX hC hl hr hH hf)
theorem y_icmp_gt {x z : Int32} {off : Int} {tgt : Nat} (hd : decode y.2.1 pc = .ok (.if_icmp .gt off, 3)) (ht : (pc : Int) + off = (tgt : Int)) (kt : z < x → YL yb yl yx D z0 d mc ms y cells slots tgt lv st L V nx P) (kf : ¬ z < x → YL yb yl yx D z0 d mc ms y cells slots (pc + 3) lv st L V nx P) : YL yb yl yx D z0 d mc ms y cells slots pc lv (.int z :: .int x :: st) L V nx P := fun p l e s m args below meth c H locs Q ls hX hC hl hr hH hf => lv_icmp_gt hC.1 hC.2.1 hd ht (fun q => kt q p l e s m args below meth c H locs Q ls hX hC hl hr hH hf) (fun q => kf q p l e s m args below meth c H locs Q ls hX hC hl hr hH hf)
theorem y_goto {off : Int} {tgt : Nat} (hd : decode y.2.1 pc = .ok (.goto off, 3)) (ht : (pc : Int) + off = (tgt : Int)) (k : YL yb yl yx D z0 d mc ms y cells slots tgt lv st L V nx P) : YL yb yl yx D z0 d mc ms y cells slots pc lv st L V nx P := fun p l e s m args below meth c H locs Q ls hX hC hl hr hH hf => lv_goto hC.1 hC.2.1 hd ht (k p l e s m args below meth c H locs Q ls hX hC hl hr hH hf)
theorem y_tableIn {dflt lo hi : Int} {offs : Array Int} {len : Nat} {x : Int32} {off : Int} {tgt : Nat} (hd : decode y.2.1 pc = .ok (.tableswitch dflt lo hi offs, len)) (h1 : ¬ x.toInt < lo) (h2 : ¬ hi < x.toInt) (ho : offs[(x.toInt - lo).toNat]? = some off) (ht : (pc : Int) + off = (tgt : Int)) (k : YL yb yl yx D z0 d mc ms y cells slots tgt lv st L V nx P) : YL yb yl yx D z0 d mc ms y cells slots pc lv (.int x :: st) L V nx P := fun p l e s m args below meth c H locs Q ls hX hC hl hr hH hf => lv_tableIn hC.1 hC.2.1 hd h1 h2 ho ht (k p l e s m args below meth c H locs Q ls hX hC hl hr hH hf)
theorem y_tableOut {dflt lo hi : Int} {offs : Array Int} {len : Nat} {x : Int32} {tgt : Nat} (hd : decode y.2.1 pc = .ok (.tableswitch dflt lo hi offs, len)) (h : x.toInt < lo ∨ hi < x.toInt) (ht : (pc : Int) + dflt = (tgt : Int)) (k : YL yb yl yx D z0 d mc ms y cells slots tgt lv st L V nx P) : YL yb yl yx D z0 d mc ms y cells slots pc lv (.int x :: st) L V nx P := fun p l e s m args below meth c H locs Q ls hX hC hl hr hH hf => lv_tableOut hC.1 hC.2.1 hd h ht (k p l e s m args below meth c H locs Q ls hX hC hl hr hH hf)
theorem y_addN {a b : Nat} (hd : decode y.2.1 pc = .ok (.iadd, 1)) (k : YL yb yl yx D z0 d mc ms y cells slots (pc + 1) lv (.int (nI (a + b)) :: st) L V nx P) : YL yb yl yx D z0 d mc ms y cells slots pc lv (.int (nI b) :: .int (nI a) :: st) L V nx P := y_iadd hd (by rw [nI_add]; exact k)
theorem y_icmp_gtN {a b : Nat} {off : Int} {tgt : Nat} (hd : decode y.2.1 pc = .ok (.if_icmp .gt off, 3)) (ht : (pc : Int) + off = (tgt : Int)) (ha : a < 2147483648) (hb : b < 2147483648) (kt : b < a → YL yb yl yx D z0 d mc ms y cells slots tgt lv st L V nx P) (kf : a ≤ b → YL yb yl yx D z0 d mc ms y cells slots (pc + 3) lv st L V nx P) : YL yb yl yx D z0 d mc ms y cells slots pc lv (.int (nI b) :: .int (nI a) :: st) L V nx P := y_icmp_gt hd ht (fun q => kt ((nI_ltI hb ha).mp q)) (fun q => kf (by have : ¬ (b < a) := fun r => q ((nI_ltI hb ha).mpr r); omega))
theorem y_run {st0 : List Value} {P' : zP} {mc' ms' : Nat} {av : Array Value}
    (hrun : ∀ (p : Program) (l : Launch) (e : Env) (s : State) (m : MethodId) (args : Array Value) (below : List Frame) (meth : Method) (c : Code) (H : Heap) (locs : List Loc) (ls : Array Slot), zC D z0 y p s m args meth c → zl y.2.2.1 lv ls → zr D z0 L V nx H → zH z0 s H locs → va_Run p l e (zR d mc ms) s m args below meth c H locs cells slots mc' ms' (F0 m pc ls st0) st (zQc D z0 P' av) (fun q => z0 ≤ q))
    (kk : ∀ v L' V' nx', P' v L' V' nx' → YL yb yl yx D z0 d mc ms y (cells + mc') (slots + ms') (pc + 3) lv (v.toList ++ st) L' V' nx' P) : YL yb yl yx D z0 d mc ms y cells slots pc lv st0 L V nx P := by
  intro p l e s m args below meth c H locs Q ls hX hC hl hr hH hf T hT X
  obtain ⟨v, st₀, t, T', Lo, h0, X', hL, e1, e2, ⟨⟨v', L', V', nx', hv, hp, hr'⟩, hk⟩, stp⟩ := hrun p l e s m args below meth c H locs ls hC hl hr hH T hT X
  cases hv
  rw [h0] at hk
  obtain ⟨t2, a1, b1⟩ := kk v L' V' nx' hp p l e s m args below meth c T'.heap (locs ++ Lo) Q ls hX hC hl (by rw [e1]; exact hr') ⟨fun q hq => by
      rcases List.mem_append.mp hq with h | h
      · exact hH.1 q h
      · exact hL q h, fun q hq => by rw [e1, hk q hq]; exact hH.2 q hq⟩ hf T' rfl X'
  exact ⟨t2, stp t2 a1, b1⟩
theorem y_callV {y' : Mt} {idx n d' mc' ms' b ci : Nat} {fs : List (Option Value)} {As st0 : List Value} {P' : zP} (hd : decode y.2.1 pc = .ok (.invokevirtual idx, 3)) (hY : zYi y' n) (hlk : Cond.methodLink y.1.cls idx y'.1 ∈ zT) (hL : L b = some (.inr (.inr (ci, fs)))) (hcl : (vwCl[ci]?).map (fun q => q.1) = some y'.1.cls) (hS : Sp D z0 d' mc' ms' y' (.ref b :: As) L V nx P') (hn : As.length = n) (hst : st0 = As.reverse ++ .ref b :: st) (hsum : (st.map fun v => v.category).sum ≤ 8) (hdd : d' + 1 ≤ d) (hcs : cells + mc' ≤ mc ∧ slots + ms' ≤ ms)
    (kk : ∀ v L' V' nx', P' v L' V' nx' → YL yb yl yx D z0 d mc ms y (cells + mc') (slots + ms') (pc + 3) lv (v.toList ++ st) L' V' nx' P) : YL yb yl yx D z0 d mc ms y cells slots pc lv st0 L V nx P := by
  refine y_run (av := (Value.ref b :: As).toArray) ?_ kk
  intro p l e s m args below meth c H locs ls hC hl hr hH
  have hk := hC.2.2.2.2.2.2.2.2
  have hts := hC.2.2.2.2.2.2.2.1
  exact va_runV (C := y'.1.cls) (As := As) (rest := st) ⟨hC.1, hC.2.1, hC.2.2.2.1, hC.2.2.2.2.1, hts⟩ (hS l) ⟨z_cb hts hY.1 hlk hdd (by show 40 * (d' + 1) ≤ 40 * d; omega), hts _ hY.2.1, hts _ hY.2.2⟩ ⟨zPc_blind, z_rcv hk hr hL hcl, (z_pre hk hr hH).2⟩ rfl hn hl.1 hst (lv_room hsum) hd hcs
theorem y_callI {y' : Mt} {idx n d' mc' ms' b : Nat} {As st0 : List Value} {P' : zP} (hd : decode y.2.1 pc = .ok (.invokespecial idx, 3)) (hY : zYc y' n) (hlk : Cond.methodLink y.1.cls idx y'.1 ∈ zT) (hS : Sp D z0 d' mc' ms' y' (.ref b :: As) L V nx P') (hn : As.length = n) (hst : st0 = As.reverse ++ .ref b :: st) (hsum : (st.map fun v => v.category).sum ≤ 8) (hdd : d' + 1 ≤ d) (hcs : cells + mc' ≤ mc ∧ slots + ms' ≤ ms)
    (kk : ∀ v L' V' nx', P' v L' V' nx' → YL yb yl yx D z0 d mc ms y (cells + mc') (slots + ms') (pc + 3) lv (v.toList ++ st) L' V' nx' P) : YL yb yl yx D z0 d mc ms y cells slots pc lv st0 L V nx P := by
  refine y_run (av := (Value.ref b :: As).toArray) ?_ kk
  intro p l e s m args below meth c H locs ls hC hl hr hH
  have hk := hC.2.2.2.2.2.2.2.2
  have hts := hC.2.2.2.2.2.2.2.1
  have hb := z_cb (mc' := mc') (ms' := ms') (R := zR d mc ms) (s := s) (args := args) hts hY.1 hlk hdd (by show 40 * (d' + 1) ≤ 40 * d; omega)
  rw [hY.2.2.2] at hb
  exact va_runI (As := As) (rest := st) ⟨hC.1, hC.2.1, hC.2.2.2.1, hC.2.2.2.2.1, hts⟩ (hS l) ⟨hb, hY.2.2.1, hts _ hY.2.1⟩ (z_pre hk hr hH) rfl hn hl.1 hst (lv_room hsum) hd hcs
theorem y_callI0p {y' : Mt} {idx d' mc' ms' b : Nat} {P' : zP} (hd : decode y.2.1 pc = .ok (.invokespecial idx, 3)) (hY : zYc y' 0) (hlk : Cond.methodLink y.1.cls idx y'.1 ∈ zT) (hS : Sp D z0 d' mc' ms' y' [.ref b] L V nx P') (hsum : (st.map fun v => v.category).sum ≤ 8) (hdd : d' + 1 ≤ d) (hcs : cells + mc' ≤ mc ∧ slots + ms' ≤ ms) (kk : ∀ v L' V' nx', P' v L' V' nx' → YL yb yl yx D z0 d mc ms y (cells + mc') (slots + ms') (pc + 3) lv (v.toList ++ st) L' V' nx' P) : YL yb yl yx D z0 d mc ms y cells slots pc lv (.ref b :: st) L V nx P := y_callI (As := []) (st := st) hd hY hlk hS rfl rfl hsum hdd hcs kk
theorem y_new {idx ci N : Nat} {fs : List (Option Value)} (hd : decode y.2.1 pc = .ok (.new idx, 3)) (hN : zN y.1.cls idx ci fs) (hl0 : fs.length = N) (hcs : cells + 1 ≤ mc ∧ slots + N ≤ ms) (kk : YL yb yl yx D z0 d mc ms y (cells + 1) (slots + N) (pc + 3) lv (.ref nx :: st) (zsh L nx (.inr (.inr (ci, fs)))) (zset V nx (fun _ => 0)) (nx + 1) P) : YL yb yl yx D z0 d mc ms y cells slots pc lv st L V nx P := by
  intro p l e s m args below meth c H locs Q ls hX hC hl hr hH hf
  obtain ⟨C, T, N', ty, f1, f2, f3, f4, f5, f6, f7, f8⟩ := hN
  have hNN : N' = N := f7.symm.trans hl0
  subst hNN
  have hts := hC.2.2.2.2.2.2.2.1
  have hK : va_K D.1 vwCl (ztys D) s := hC.2.2.2.2.2.2.2.2.1
  have hKn := hK.1 ci _ f1
  refine W.newcK hC.1 hC.2.1 hC.2.2.2.2.1 (hts _ f4) (hts _ f5) (hts _ f6) rfl hd hcs.1 hcs.2 hKn.2.1 hr.2.1 fun H1 kC hkC e1 z1 o1 => ?_
  exact kk p l e s m args below meth c H1 locs Q ls hX hC hl (zr_new hr z1 o1 ⟨_, f1, (u_born ty hts f2 hKn hkC e1 f3).to f8⟩) (hH.new hr.2.2 o1) hf
theorem y_sld {i : Nat} (hd : decode y.2.1 pc = .ok (.iaload, 1)) (hi : i < yl) (hn : yl < 2147483648) (kk : YL yb yl yx D z0 d mc ms y cells slots (pc + 1) lv (.int (yx i) :: st) L V nx P) : YL yb yl yx D z0 d mc ms y cells slots pc lv (.int (nI i) :: .ref yb :: st) L V nx P := by
  intro p l e s m args below meth c H locs Q ls hX hC hl hr hH hf
  obtain ⟨scr, h1, h2, h3, h4, h5⟩ := id hX.1
  have hb := hX.2
  have e1 := clN hi hn
  exact W.iald (v := .int (yx i)) hC.1 hC.2.1 (by rw [hH.2 yb hb]; exact h1) h2 h3 (by rw [h4]; exact vpN hi hn) (by rw [e1]; exact h5 _ hi) rfl rfl hd (kk p l e s m args below meth c H locs Q ls hX hC hl hr hH hf)
theorem y_slen (hd : decode y.2.1 pc = .ok (.arraylength, 1)) (kk : YL yb yl yx D z0 d mc ms y cells slots (pc + 1) lv (.int (nI yl) :: st) L V nx P) : YL yb yl yx D z0 d mc ms y cells slots pc lv (.ref yb :: st) L V nx P := by
  intro p l e s m args below meth c H locs Q ls hX hC hl hr hH hf
  obtain ⟨scr, h1, h2, h3, h4, h5⟩ := id hX.1
  have hb := hX.2
  exact W.alen (n := Int32.ofNat yl) hC.1 hC.2.1 (by rw [hH.2 yb hb]; exact h1) h2 (by rw [h4] <;> rfl) rfl rfl hd (kk p l e s m args below meth c H locs Q ls hX hC hl hr hH hf)
/-- a number of the script -/
theorem y_arg {i k : Nat} {n : Int} {a m : Nat} (h1 : decode y.2.1 pc = .ok (.aload_n 0, 1)) (h2 : decode y.2.1 (pc + 1) = .ok (.iload_n 3, 1)) (h3 : decode y.2.1 (pc + 2) = .ok (.iconst n, 1)) (h4 : decode y.2.1 (pc + 3) = .ok (.iadd, 1)) (h5 : decode y.2.1 (pc + 4) = .ok (.iaload, 1)) (hk : Int32.ofInt n = nI k) (hi : i + k < yl) (hn : yl < 2147483648) (kk : YL yb yl yx D z0 d mc ms y cells slots (pc + 5) [some (.ref yb), some (.ref a), some (.ref m), some (.int (nI i))] (.int (yx (i + k)) :: st) L V nx P) : YL yb yl yx D z0 d mc ms y cells slots pc [some (.ref yb), some (.ref a), some (.ref m), some (.int (nI i))] st L V nx P := by
  refine y_aload_n h1 rfl ?_
  refine y_iload_n h2 rfl ?_
  refine y_iconst (v := nI k) h3 hk ?_
  refine y_addN h4 ?_
  exact y_sld h5 hi hn kk
/-- the law's end -/
theorem y_end {x : Int32} (hd : decode y.2.1 pc = .ok (.ireturn, 1)) (hc : cells ≤ mc) (hs : slots ≤ ms) (ty : FieldType) (hr0 : y.2.2.2 = some ty) (hx : narrow ty (.int x) = .int x) (hp : P (some (.int x)) L V nx) : YL yb yl yx D z0 d mc ms y cells slots pc lv [.int x] L V nx P := fun p l e s m args below meth c H locs Q ls _ hC hl hr hH hf => W.widen hc hs (hf H locs (some (.int x)) L V nx pc ls hp hr hH ⟨hd, x, ty, rfl, hr0, hx⟩)
end ZY
def mL (nm : String) : Mt := (⟨RL, nm, "([I)Z"⟩, cL_law, 4, ret)
