/-! what is made, and rows of references; arrays copied -/
section ZM
variable {D : zD} {z0 d mc ms : Nat} {y : Mt} {cells slots pc : Nat} {lv : List (Option Value)} {st : List Value} {L : zL} {V : zV} {nx : Nat} {P : zP}
/-- a class whose objects are made -/
def zN (own : String) (idx ci : Nat) (fs : List (Option Value)) : Prop := ∃ (C : String) (T : u_T) (N : Nat) (ty : Nat → FieldType), vwCl[ci]? = some (C, T, N) ∧ (∀ w ∈ u_ws C T N, w ∈ zT) ∧ (∀ j, j < N → parseFieldDescriptor (T j).2.2.1 = some (ty j)) ∧ Cond.classLink own idx C ∈ zT ∧ Cond.instantiable C N ∈ zT ∧ Cond.initialized C ∈ zT ∧ fs.length = N ∧ ∀ j, j < N → defaultValue (ty j) = vp_V (zfs fs (fun _ => 0)) j
theorem z_new {idx ci N : Nat} {fs : List (Option Value)} (hd : decode y.2.1 pc = .ok (.new idx, 3)) (hN : zN y.1.cls idx ci fs) (hl0 : fs.length = N) (hcs : cells + 1 ≤ mc ∧ slots + N ≤ ms) (kk : Z D z0 d mc ms y (cells + 1) (slots + N) (pc + 3) lv (.ref nx :: st) (zsh L nx (.inr (.inr (ci, fs)))) (zset V nx (fun _ => 0)) (nx + 1) P) : Z D z0 d mc ms y cells slots pc lv st L V nx P := by
  intro p l e s m args below meth c H locs Q ls hC hl hr hH hf
  obtain ⟨C, T, N', ty, f1, f2, f3, f4, f5, f6, f7, f8⟩ := hN
  have hNN : N' = N := f7.symm.trans hl0
  subst hNN
  have hts := hC.2.2.2.2.2.2.2.1
  have hK : va_K D.1 vwCl (ztys D) s := hC.2.2.2.2.2.2.2.2.1
  have hKn := hK.1 ci _ f1
  refine W.newcK hC.1 hC.2.1 hC.2.2.2.2.1 (hts _ f4) (hts _ f5) (hts _ f6) rfl hd hcs.1 hcs.2 hKn.2.1 hr.2.1 fun H1 kC hkC e1 z1 o1 => ?_
  exact kk p l e s m args below meth c H1 locs Q ls hC hl (zr_new hr z1 o1 ⟨_, f1, (u_born ty hts f2 hKn hkC e1 f3).to f8⟩) (hH.new hr.2.2 o1) hf
theorem z_newa {t N : Nat} {n : Int32} {aty : ArrayType} (hd : decode y.2.1 pc = .ok (.newarray aty, 2)) (hty : ∀ D : zD, (ztys D)[t]? = some (D.2 t, newarray.typeOf aty)) (ht : t < 3) (hw : Cond.arrayClass (newarray.typeOf aty) ∈ zT) (hn : ¬ n < 0) (hN : n.toNatClampNeg = N) (hdef : defaultValue (newarray.typeOf aty) = .int 0) (hbytes : N * componentBytes (newarray.typeOf aty) ≤ 536870912) (hcs : cells + 1 ≤ mc ∧ slots + N ≤ ms) (kk : Z D z0 d mc ms y (cells + 1) (slots + N) (pc + 2) lv (.ref nx :: st) (zsh L nx (.inl (t, N))) (zset V nx (fun _ => 0)) (nx + 1) P) : Z D z0 d mc ms y cells slots pc lv (.int n :: st) L V nx P := by
  intro p l e s m args below meth c H locs Q ls hC hl hr hH hf
  have hts := hC.2.2.2.2.2.2.2.1
  have hK : va_K D.1 vwCl (ztys D) s := hC.2.2.2.2.2.2.2.2.1
  refine va_newaK hC.1 hC.2.1 (hts _ hw) rfl hd rfl hn hN hbytes hcs.1 hcs.2 hr.2.1 fun H1 cA e1 z1 o1 hAr hNm => ?_
  have hRA := (hK.2 t _ (hty D)).2
  have hcA : cA = D.2 t := by
    have : s.vm.findClass ("[" ++ (newarray.typeOf aty).toString) = some (D.2 t) := by
      revert hRA
      cases aty <;> exact fun h => h
    exact Option.some.inj (hNm.symm.trans this)
  subst hcA
  refine kk p l e s m args below meth c H1 locs Q ls hC hl (zr_new hr z1 o1 ?_) (hH.new hr.2.2 o1) hf
  show H1[nx]? = some (vp_cell _ _)
  rw [e1, hdef]
  rfl
theorem z_newq {idx t N : Nat} {n : Int32} {C : String} (hd : decode y.2.1 pc = .ok (.anewarray idx, 3)) (hty : ∀ D : zD, (ztys D)[t]? = some (D.2 t, .object C)) (hw : Cond.classLink y.1.cls idx C ∈ zT) (hC0 : C ∈ zAO) (hn : ¬ n < 0) (hN : n.toNatClampNeg = N) (hbytes : N * 4 ≤ 536870912) (hcs : cells + 1 ≤ mc ∧ slots + N ≤ ms) (kk : Z D z0 d mc ms y (cells + 1) (slots + N) (pc + 3) lv (.ref nx :: st) (zsh L nx (.inr (.inl (t, List.replicate N none)))) (zset V nx (fun _ => 0)) (nx + 1) P) : Z D z0 d mc ms y cells slots pc lv (.int n :: st) L V nx P := by
  intro p l e s m args below meth c H locs Q ls hC hl hr hH hf
  have hts := hC.2.2.2.2.2.2.2.1
  have hk := hC.2.2.2.2.2.2.2.2
  subst hN
  refine W.anew hC.1 hC.2.1 hC.2.2.2.2.1 (hts _ hw) (va_AO.use (hk.2.2.1 C hC0)) rfl hd rfl hn hbytes hcs.1 hcs.2 fun cA kA comp f1 f2 f3 f4 => ?_
  obtain ⟨kA', comp', k1, k2, k3, k4⟩ := (hk.1.2 t _ (hty D)).2
  have hcA : cA = D.2 t := Option.some.inj (f1.symm.trans k4)
  subst hcA
  have hs := hr.2.1
  generalize hH1 : H.push ({ cls := D.2 t, slots := Array.replicate n.toNatClampNeg .null, vm := .none } : Cell) = H1
  have z1 : H1.size = nx + 1 := by rw [← hH1, Array.size_push, hs]
  have e1 : H1[nx]? = some (arrV (D.2 t) n.toNatClampNeg (fun _ => .null)) := by rw [← hH1, ← hs, Array.getElem?_push_size, ← arrV_new]
  have o1 : ∀ q : Nat, q < nx → H1[q]? = H[q]? := fun q hq => by rw [← hH1, Array.getElem?_push, if_neg (by rw [hs]; exact Nat.ne_of_lt hq)]
  have := kk p l e s m args below meth c H1 locs Q ls hC hl (zr_new hr z1 o1 (by
    show H1[nx]? = some (vp_cell _ _)
    rw [e1]
    show _ = some (vp_cell (D.2 t) ((List.replicate n.toNatClampNeg (none : Option Nat)).length, _))
    rw [List.length_replicate, vp_cell_q]
    congr 2
    funext j
    have : (List.replicate n.toNatClampNeg (none : Option Nat)).getD j none = none := by
      rw [List.getD_eq_getElem?_getD, List.getElem?_replicate]
      split <;> rfl
    rw [this]
    rfl)) (hH.new hr.2.2 o1) hf
  rw [← hs] at this
  exact this
theorem z_aast {a t b ci : Nat} {fs : List (Option Value)} {i : Int32} {r : vw_C} {rs : List (Option Nat)} (hd : decode y.2.1 pc = .ok (.aastore, 1)) (hL : L a = some (.inr (.inl (t, rs)))) (ht : ∀ D : zD, (ztys D)[t]? = some (D.2 t, .object r.1)) (hb : L b = some (.inr (.inr (ci, fs)))) (hc : vwCl[ci]? = some r) (hin : vp_in i rs.length) (kk : Z D z0 d mc ms y cells slots (pc + 1) lv st (zsh L a (.inr (.inl (t, rs.set i.toNatClampNeg (some b))))) V nx P) : Z D z0 d mc ms y cells slots pc lv (.ref b :: .int i :: .ref a :: st) L V nx P := by
  intro p l e s m args below meth c H locs Q ls hC hl hr hH hf
  have hk := hC.2.2.2.2.2.2.2.2
  have hlt : i.toNatClampNeg < rs.length := Nat.not_le.mp fun q => hin (Or.inr q)
  have h0 : ¬ i < 0 := fun q => hin (Or.inl q)
  obtain ⟨-, r', hr', cellV, g1, g2, g3, -⟩ := hr.1 b _ hb
  have hcls := (hk.1.1 ci r hc).2
  obtain ⟨kA, comp, k1, k2, k3, -⟩ := (hk.1.2 t _ (ht D)).2
  have hcomp : comp = D.1.1 ci := Option.some.inj (k3.symm.trans hcls.1)
  subst hcomp
  have hco : H[a]? = some (vp_cell (D.2 t) (rs.length, .inr (.inr (.inr (.inr (fun i => rs.getD i none)))))) := (hr.1 a _ hL).2
  obtain ⟨kV, hkV, hkind⟩ := hcls.2
  refine W.aast hC.1 hC.2.1 (cell := vp_cell (D.2 t) (rs.length, .inr (.inr (.inr (.inr (fun i => rs.getD i none)))))) (cv := cellV) hco (fun q h => by cases h) (fun h => by cases h) k1 k2 rfl hkV ⟨h0, by rw [vp_cell_q, arrV_size]; exact hlt⟩ g1 (fun q h => by rw [g3] at h; cases h) (by rw [g2]; exact hkV) (by rw [g2]; exact va_assign hcls) rfl rfl hd fun H1 e1 z oq => ?_
  refine kk p l e s m args below meth c H1 (locs ++ [⟨a, i.toNatClampNeg⟩]) Q ls hC hl (by
    have h2 := zr_put hr hL (sh' := .inr (.inl (t, rs.set i.toNatClampNeg (some b)))) (f := V a) z oq (by
      show H1[a]? = some (vp_cell _ _)
      rw [e1, vp_cell_q, arrV_store]
      show _ = some (vp_cell (D.2 t) ((rs.set i.toNatClampNeg (some b)).length, _))
      rw [List.length_set, vp_cell_q]
      congr 2
      funext q
      by_cases hq : q = i.toNatClampNeg
      · subst hq
        simp [updV, hlt, va_rf]
      · simp [updV, hq, List.getElem?_set_ne (fun h : i.toNatClampNeg = q => hq h.symm)])
    rwa [zset_self] at h2) (hH.put (hr.1 a _ hL).1 oq) hf
theorem z_copy {idx a b n0 n1 : Nat} {sp dp n : Int32} (hd : decode y.2.1 pc = .ok (.invokestatic idx, 3)) (hlk : Cond.methodLink y.1.cls idx arraycopyName ∈ zT) (h1 : Cond.native arraycopyName ∈ zT) (h2 : Cond.static arraycopyName ∈ zT) (h3 : Cond.initialized "java/lang/System" ∈ zT) (ha : L a = some (.inl (0, n0))) (hb : L b = some (.inl (0, n1))) (g1 : ¬ sp < 0) (g2 : ¬ dp < 0) (g3 : ¬ n < 0) (g4 : sp.toNatClampNeg + n.toNatClampNeg ≤ n0) (g5 : dp.toNatClampNeg + n.toNatClampNeg ≤ n1) (hdd : 1 ≤ d) (hsum : (st.map fun v => v.category).sum ≤ 8) (kk : Z D z0 d mc ms y cells slots (pc + 3) lv st L (zset V b (va_cpy (V a) (V b) sp.toNatClampNeg dp.toNatClampNeg n.toNatClampNeg)) nx P) : Z D z0 d mc ms y cells slots pc lv (.int n :: .int dp :: .ref b :: .int sp :: .ref a :: st) L V nx P := by
  intro p l e s m args below meth c H locs Q ls hC hl hr hH hf
  have hts := hC.2.2.2.2.2.2.2.1
  have hk := hC.2.2.2.2.2.2.2.2
  have nn : ∀ z : Int32, ¬ z < 0 → z.toInt = (z.toNatClampNeg : Int) := by
    intro z hz
    have hz0 : (0 : Int) ≤ z.toInt := by
      have := Int32.not_lt.mp hz
      simpa using Int32.le_iff_toInt_le.mp this
    show z.toInt = ((z.toInt.toNat : Nat) : Int)
    omega
  intro T hT X
  have hc0 : H[a]? = some (vp_cell (D.2 0) (n0, .inl (V a))) := (hr.1 a _ ha).2
  have hc1 : H[b]? = some (vp_cell (D.2 0) (n1, .inl (V b))) := (hr.1 b _ hb).2
  obtain ⟨-, k0, hk0, cm0, hkk0⟩ := z_arr hk (t := 0) rfl (n := n0) (fun j => .int (V a j))
  obtain ⟨-, k1, hk1, cm1, hkk1⟩ := z_arr hk (t := 0) rfl (n := n1) (fun j => .int (V b j))
  obtain ⟨vm', X', step⟩ := X.arraycopy hC.1 hC.2.2.2.2.1 (hts _ hlk) (hts _ h1) (hts _ h2) (hts _ h3) (src := a) (dst := b) (cs := vp_cell (D.2 0) (n0, .inl (V a))) (cd := vp_cell (D.2 0) (n1, .inl (V b))) (srcPos := sp) (destPos := dp) (n := n) (by rw [hT]; exact hc0) (by rw [hT]; exact hc1)
    (fun _ h => by cases h) (fun _ h => by cases h) (fun h => by cases h) (fun h => by cases h) hk0 hk1 hkk0 hkk1 (by simp [refKind]) g1 g2 g3
    (by rw [nn sp g1, nn n g3]; show ¬ _ > ((arrV (D.2 0) n0 (fun j => .int (V a j))).slots.size : Int); rw [arrV_size]; omega)
    (by rw [nn dp g2, nn n g3]; show ¬ _ > ((arrV (D.2 0) n1 (fun j => .int (V b j))).slots.size : Int); rw [arrV_size]; omega)
    (fun vm₁ _ i hi => by
      have e : (vp_cell (D.2 0) (n0, .inl (V a))).slots.getD (sp.toNatClampNeg + i) .null = .int (V a (sp.toNatClampNeg + i)) := by
        show (arrV (D.2 0) n0 (fun j => .int (V a j))).slots.getD _ _ = _
        rw [Array.getD_eq_getD_getElem?, arrV_read _ _ (by omega)]
        rfl
      refine ⟨?_, ?_⟩
      · rw [e]
        rfl
      · rw [e]
        exact trivial)
    (g := F0 m pc ls (.int n :: .int dp :: .ref b :: .int sp :: .ref a :: st)) rfl (by show ls.size = _; rw [hl.1, hC.2.2.2.1]) (rest := st) rfl (by rw [hC.2.1]; exact hd) hdd (by
      have hq : nativeFrameWords "java/lang/System" "arraycopy" 5 + 11 ≤ 32 := by decide +kernel
      show 2 * 0 + _ + _ ≤ 40 * d; omega)
  have e1 : copied (vp_cell (D.2 0) (n0, .inl (V a))) (vp_cell (D.2 0) (n1, .inl (V b))) sp dp n = vp_cell (D.2 0) (n1, .inl (va_cpy (V a) (V b) sp.toNatClampNeg dp.toNatClampNeg n.toNatClampNeg)) := va_copied (fun z => .int z) (D.2 0) (D.2 0) (V a) (V b) g4
  rw [e1] at X' step
  have hlb : b < H.size := (Array.getElem?_eq_some_iff.mp hc1).1
  have hheap : ((T.setVm vm').setCell b (vp_cell (D.2 0) (n1, .inl (va_cpy (V a) (V b) sp.toNatClampNeg dp.toNatClampNeg n.toNatClampNeg)))).heap = H.setIfInBounds b (vp_cell (D.2 0) (n1, .inl (va_cpy (V a) (V b) sp.toNatClampNeg dp.toNatClampNeg n.toNatClampNeg))) := by rw [← hT]; rfl
  have oq : ∀ q : Nat, q ≠ b → (H.setIfInBounds b (vp_cell (D.2 0) (n1, .inl (va_cpy (V a) (V b) sp.toNatClampNeg dp.toNatClampNeg n.toNatClampNeg))))[q]? = H[q]? := fun q hq => by simp [Array.getElem?_setIfInBounds, Ne.symm hq]
  have hr2 := zr_put hr hb (sh' := .inl (0, n1)) (f := va_cpy (V a) (V b) sp.toNatClampNeg dp.toNatClampNeg n.toNatClampNeg) (H' := H.setIfInBounds b (vp_cell (D.2 0) (n1, .inl (va_cpy (V a) (V b) sp.toNatClampNeg dp.toNatClampNeg n.toNatClampNeg)))) (by simp) oq (show (H.setIfInBounds b _)[b]? = some _ by simp [Array.getElem?_setIfInBounds, hlb])
  rw [zsh_same hb] at hr2
  have hzb : z0 ≤ b := (hr.1 b _ hb).1
  obtain ⟨t, a1, b1⟩ := kk p l e s m args below meth c _ _ Q ls hC hl hr2 ⟨fun q hq => by
      rcases List.mem_append.mp hq with h | h
      · exact hH.1 q h
      · obtain ⟨z, -, hz⟩ := List.mem_map.mp h
        rw [← hz]
        exact hzb, fun q hq => by rw [oq q (by omega)]; exact hH.2 q hq⟩ hf _ hheap X'
  exact ⟨t, step t a1, b1⟩
end ZM
