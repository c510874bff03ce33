/-! fields, arrays, what is made -/
theorem zfs_get {fs : List (Option Value)} {v : Nat → Int32} {k : Nat} {o : Option Value} (h : fs[k]? = some o) : (zfs fs v)[k]? = some (o.getD (.int (v k))) := by
  simp [zfs, List.getElem?_mapIdx, h]
theorem zfs_setI {fs : List (Option Value)} {v : Nat → Int32} {k : Nat} {x : Int32} (h : fs[k]? = some none) : (zfs fs v).set k (.int x) = zfs fs (upd v k x) := by
  apply List.ext_getElem?
  intro j
  by_cases e : k = j
  · subst e
    have hl : k < (zfs fs v).length := by simp [zfs]; exact (List.getElem?_eq_some_iff.mp h).1
    rw [List.getElem?_set_self hl]
    simp [zfs, List.getElem?_mapIdx, h, upd]
  · rw [List.getElem?_set_ne e]
    simp only [zfs, List.getElem?_mapIdx]
    have : upd v k x j = v j := by simp only [upd]; rw [if_neg (fun q : j = k => e q.symm)]
    rw [this]
theorem zfs_setR {fs : List (Option Value)} {v : Nat → Int32} {k : Nat} {w : Value} (hk : k < fs.length) : (zfs fs v).set k w = zfs (fs.set k (some w)) v := by
  apply List.ext_getElem?
  intro j
  by_cases e : k = j
  · subst e
    have hl : k < (zfs fs v).length := by simp [zfs]; exact hk
    rw [List.getElem?_set_self hl]
    simp [zfs, List.getElem?_mapIdx, hk]
  · rw [List.getElem?_set_ne e]
    simp only [zfs, List.getElem?_mapIdx, List.getElem?_set_ne e]
theorem zr_put {D : zD} {z0 : Nat} {L : zL} {V : zV} {nx : Nat} {H H' : Heap} (h : zr D z0 L V nx H) {a : Nat} {sh : Sh} (ha : L a = some sh) {sh' : Sh} {f : Nat → Int32} (hz : H'.size = H.size) (ho : ∀ q : Nat, q ≠ a → H'[q]? = H[q]?) (hc : va_at D.1 vwCl (a, ze D sh' f) H') : zr D z0 (zsh L a sh') (zset V a f) nx H' := by
  refine ⟨fun b s2 hb => ?_, hz.trans h.2.1, h.2.2⟩
  by_cases e : b = a
  · subst e
    have hs : sh' = s2 := by simpa [zsh] using hb
    subst hs
    refine ⟨(h.1 b sh ha).1, ?_⟩
    simpa [zset] using hc
  · have hb' : L b = some s2 := by simpa [zsh, e] using hb
    obtain ⟨h1, h2⟩ := h.1 b s2 hb'
    refine ⟨h1, ?_⟩
    have : zset V a f b = V b := by simp [zset, e]
    rw [this]
    exact h2.kept (ho b e)
theorem zsh_same {L : zL} {a : Nat} {sh : Sh} (h : L a = some sh) : zsh L a sh = L := by
  funext q
  by_cases e : q = a
  · subst e; simp [zsh, h]
  · simp [zsh, e]
theorem zset_up (V : zV) (a k : Nat) (x : Int32) : zset V a (upd (V a) k x) = zup V a k x := by
  funext q j
  by_cases e : q = a
  · subst e; simp [zset, zup, upd]
  · simp [zset, zup, e]
theorem zr_upd {D : zD} {z0 : Nat} {L : zL} {V : zV} {nx : Nat} {H H' : Heap} (h : zr D z0 L V nx H) {a : Nat} {sh : Sh} (ha : L a = some sh) {k : Nat} {x : Int32} (hz : H'.size = H.size) (ho : ∀ q : Nat, q ≠ a → H'[q]? = H[q]?) (hc : va_at D.1 vwCl (a, ze D sh (upd (V a) k x)) H') : zr D z0 L (zup V a k x) nx H' := by
  have := zr_put h ha hz ho hc
  rwa [zsh_same ha, zset_up] at this
theorem zr_new {D : zD} {z0 : Nat} {L : zL} {V : zV} {nx : Nat} {H H' : Heap} (h : zr D z0 L V nx H) {sh : Sh} {f : Nat → Int32} (hz : H'.size = nx + 1) (ho : ∀ q : Nat, q < nx → H'[q]? = H[q]?) (hc : va_at D.1 vwCl (nx, ze D sh f) H') : zr D z0 (zsh L nx sh) (zset V nx f) (nx + 1) H' := by
  refine ⟨fun b s2 hb => ?_, hz, Nat.le_succ_of_le h.2.2⟩
  by_cases e : b = nx
  · subst e
    have hs : sh = s2 := by simpa [zsh] using hb
    subst hs
    exact ⟨h.2.2, by simpa [zset] using hc⟩
  · have hb' : L b = some s2 := by simpa [zsh, e] using hb
    obtain ⟨h1, h2⟩ := h.1 b s2 hb'
    have hlt : b < H.size := h2.lt
    rw [h.2.1] at hlt
    refine ⟨h1, ?_⟩
    have : zset V nx f b = V b := by simp [zset, e]
    rw [this]
    exact h2.kept (ho b hlt)
theorem zH.put {z0 a k : Nat} {s : State} {H H' : Heap} {locs : List Loc} (h : zH z0 s H locs) (ha : z0 ≤ a) (ho : ∀ q : Nat, q ≠ a → H'[q]? = H[q]?) : zH z0 s H' (locs ++ [⟨a, k⟩]) := by
  refine ⟨fun q hq => ?_, fun q hq => by rw [ho q (by omega)]; exact h.2 q hq⟩
  rcases List.mem_append.mp hq with h1 | h1
  · exact h.1 q h1
  · rw [List.mem_singleton.mp h1]; exact ha
theorem zH.new {z0 nx : Nat} {s : State} {H H' : Heap} {locs : List Loc} (h : zH z0 s H locs) (ha : z0 ≤ nx) (ho : ∀ q : Nat, q < nx → H'[q]? = H[q]?) : zH z0 s H' locs := ⟨h.1, fun q hq => by rw [ho q (by omega)]; exact h.2 q hq⟩
/-- a field as an instruction of a class names it: class ci, field k, final or not, its type -/
def zF (own : String) (idx ci k : Nat) (fin : Bool) (ft : FieldType) : Prop := ∃ (C : String) (T : u_T) (N : Nat) (ty : Nat → FieldType), vwCl[ci]? = some (C, T, N) ∧ k < N ∧ (∀ w ∈ u_ws C T N, w ∈ zT) ∧ (∀ j, j < N → parseFieldDescriptor (T j).2.2.1 = some (ty j)) ∧ (∀ a, a < N → ∀ b, b < N → a ≠ b → (T a).2.1 ≠ (T b).2.1) ∧ Cond.fieldLink own idx (T k).1 (T k).2.1 (T k).2.2.1 ∈ zT ∧ (T k).2.2.2 = fin ∧ ty k = ft ∧ (T k).1 = C
section ZH
variable {D : zD} {z0 d mc ms : Nat} {y : Mt} {cells slots pc : Nat} {lv : List (Option Value)} {st : List Value} {L : zL} {V : zV} {nx : Nat} {P : zP}
theorem z_getA {idx ci k a : Nat} {fin : Bool} {ft : FieldType} {fs : List (Option Value)} {o : Option Value} (hd : decode y.2.1 pc = .ok (.getfield idx, 3)) (hF : zF y.1.cls idx ci k fin ft) (hL : L a = some (.inr (.inr (ci, fs)))) (ho : fs[k]? = some o) (kk : Z D z0 d mc ms y cells slots (pc + 3) lv (o.getD (.int (V a k)) :: st) L V nx P) : Z D z0 d mc ms y cells slots pc lv (.ref a :: st) L V nx P := by
  intro p l e s m args below meth c H locs Q ls hC hl hr hH hf
  obtain ⟨C, T, N, ty, f1, f2, f3, f4, f5, f6, -⟩ := hF
  have hP : va_P D.1 vwCl [(a, ze D (.inr (.inr (ci, fs))) (V a))] H := fun j q hq => by
    match j, hq with
    | 0, hq => cases hq; exact (hr.1 a _ hL).2
    | j + 1, hq => simp at hq
  exact va_get hC.1 hC.2.1 hC.2.2.2.2.2.2.2.1 f3 hC.2.2.2.2.1 hC.2.2.2.2.2.2.2.2.1 hP 0 rfl f1 k f2 (hC.2.2.2.2.2.2.2.1 _ f6) (fun x h => h) (zfs_get ho) hd (kk p l e s m args below meth c H locs Q ls hC hl hr hH hf)
theorem z_getI {idx ci k a : Nat} {fin : Bool} {ft : FieldType} {fs : List (Option Value)} (hd : decode y.2.1 pc = .ok (.getfield idx, 3)) (hF : zF y.1.cls idx ci k fin ft) (hL : L a = some (.inr (.inr (ci, fs)))) (ho : fs[k]? = some none) (kk : Z D z0 d mc ms y cells slots (pc + 3) lv (.int (V a k) :: st) L V nx P) : Z D z0 d mc ms y cells slots pc lv (.ref a :: st) L V nx P := z_getA hd hF hL ho kk
theorem z_getR {idx ci k a : Nat} {fin : Bool} {ft : FieldType} {fs : List (Option Value)} {v : Value} (hd : decode y.2.1 pc = .ok (.getfield idx, 3)) (hF : zF y.1.cls idx ci k fin ft) (hL : L a = some (.inr (.inr (ci, fs)))) (ho : fs[k]? = some (some v)) (kk : Z D z0 d mc ms y cells slots (pc + 3) lv (v :: st) L V nx P) : Z D z0 d mc ms y cells slots pc lv (.ref a :: st) L V nx P := z_getA hd hF hL ho kk
theorem z_putV {idx ci k a : Nat} {fin : Bool} {ft : FieldType} {fs fs' : List (Option Value)} {f' : Nat → Int32} {v : Value} (hd : decode y.2.1 pc = .ok (.putfield idx, 3)) (hF : zF y.1.cls idx ci k fin ft) (hfin : fin = false ∨ y.1.name = "<init>" ∧ (∃ C T N, vwCl[ci]? = some (C, T, N) ∧ C = y.1.cls)) (hL : L a = some (.inr (.inr (ci, fs)))) (hk : k < fs.length) (hn : narrow ft v = v) (hfit : fits ft v = true) (he : (zfs fs (V a)).set k v = zfs fs' f') (kk : Z D z0 d mc ms y cells slots (pc + 3) lv st (zsh L a (.inr (.inr (ci, fs')))) (zset V a f') nx P) : Z D z0 d mc ms y cells slots pc lv (v :: .ref a :: st) L V nx P := by
  intro p l e s m args below meth c H locs Q ls hC hl hr hH hf
  obtain ⟨C, T, N, ty, f1, f2, f3, f4, f5, f6, f7, f8, f9⟩ := hF
  have hts := hC.2.2.2.2.2.2.2.1
  have hown := hC.2.2.2.2.1
  have hK : va_K D.1 vwCl (ztys D) s := hC.2.2.2.2.2.2.2.2.1
  have hap := va_apart (own := y.1.cls) hts f3 ty f4 f5 hK f1
  obtain ⟨hz, r, h1, cell, q1, q2, q3, q4⟩ := hr.1 a _ hL
  have hr0 : r = (C, T, N) := Option.some.inj (h1.symm.trans f1)
  subst hr0
  obtain ⟨hS, hfc, kC, hkC, hkind⟩ := hK.1 ci _ f1
  obtain ⟨cf, kf, fi, f, hi, hsl⟩ := hS k f2
  have hst := (u_facts hfc hkC (u_lays hts f3 f2) hi).1
  have hty : parseFieldDescriptor (T k).2.2.1 = some ft := by rw [f4 k f2, f8]
  have hlen : k < (zfs fs (V a)).length := by simp [zfs]; exact hk
  have fin2 : ∀ H' : Heap, H'[a]? = some (cell.setSlot f.slot v) → H'.size = H.size → (∀ q : Nat, q ≠ a → H'[q]? = H[q]?) → W p l e (zR d mc ms) s m args below meth c H' (locs ++ [⟨a, f.slot⟩]) cells slots Q (F0 m (pc + 3) ls st) := by
    intro H' e1 e2 e3
    rw [hsl] at e1 ⊢
    refine kk p l e s m args below meth c H' _ Q ls hC hl (zr_put hr hL e2 e3 ⟨_, f1, ?_⟩) (hH.put hz e3) hf
    have := t_OB.to (V := updV (vp_V (zfs fs (V a))) k v) (V' := vp_V ((zfs fs (V a)).set k v)) ⟨_, e1, q2, q3, t_set q4 hap f2 v⟩ (fun j _ => vp_updV_set hlen v j)
    rw [he] at this
    exact this
  have hlay := hts _ (f3 _ (u_in_lay f2))
  unfold u_lay at hlay
  by_cases hq : (T k).2.2.2 = true
  · rw [if_pos hq] at hlay
    obtain ⟨hin, C', T', N', g1, g2⟩ : y.1.name = "<init>" ∧ (∃ C T N, vwCl[ci]? = some (C, T, N) ∧ C = y.1.cls) := by
      rcases hfin with h | h
      · rw [← f7, hq] at h; cases h
      · exact h
    have hCC : C = y.1.cls := by
      have := g1.symm.trans f1
      cases this
      exact g2
    have hcf : m.cls = cf := by
      obtain ⟨_, _, c', _, _, _, -, -, hf', -, -, -, hown2, -⟩ := Cond.laysFinal_spec hlay
      have e1 : c' = cf := by have := hi.symm.trans hf'; simp at this; exact this.1.symm
      rw [f9, hCC] at hown2
      rw [← e1]; exact Option.some.inj (hown.symm.trans hown2)
    have h6 := u_fits hfc hkC hkind (Or.inr hlay) hi hty hn hfit
    exact W.putFinK hC.1 hC.2.1 hown (hts _ f6) hi hst hcf (hC.2.2.2.2.2.2.1.trans hin) (by rw [q2]; exact h6) q1 q3 (by rw [hsl]; exact k2_hasslot (q4 k f2)) rfl rfl hd fin2
  · rw [if_neg hq] at hlay
    have h6 := u_store hfc hkC hkind hlay hi hty hn hfit
    exact W.putK hC.1 hC.2.1 (f := f) ⟨hown, hts _ f6, ⟨_, _, _, hi⟩, hst⟩ (by rw [q2]; exact h6) q1 q3 (by rw [hsl]; exact k2_hasslot (q4 k f2)) rfl rfl hd fin2
theorem z_putI {idx ci k a : Nat} {fs : List (Option Value)} {x : Int32} (hd : decode y.2.1 pc = .ok (.putfield idx, 3)) (hF : zF y.1.cls idx ci k false .int) (hL : L a = some (.inr (.inr (ci, fs)))) (ho : fs[k]? = some none) (kk : Z D z0 d mc ms y cells slots (pc + 3) lv st L (zup V a k x) nx P) : Z D z0 d mc ms y cells slots pc lv (.int x :: .ref a :: st) L V nx P := by
  refine z_putV hd hF (Or.inl rfl) hL (List.getElem?_eq_some_iff.mp ho).1 (vp_nar_int x) (by rfl) (zfs_setI ho) ?_
  rw [zsh_same hL, zset_up]
  exact kk
theorem z_putZ {idx ci k a : Nat} {fs : List (Option Value)} {x : Int32} (hd : decode y.2.1 pc = .ok (.putfield idx, 3)) (hF : zF y.1.cls idx ci k false .boolean) (hL : L a = some (.inr (.inr (ci, fs)))) (ho : fs[k]? = some none) (hx : x = 0 ∨ x = 1) (kk : Z D z0 d mc ms y cells slots (pc + 3) lv st L (zup V a k x) nx P) : Z D z0 d mc ms y cells slots pc lv (.int x :: .ref a :: st) L V nx P := by
  refine z_putV hd hF (Or.inl rfl) hL (List.getElem?_eq_some_iff.mp ho).1 (by rcases hx with rfl | rfl <;> rfl) (by rcases hx with rfl | rfl <;> rfl) (zfs_setI ho) ?_
  rw [zsh_same hL, zset_up]
  exact kk
theorem zset_self (V : zV) (a : Nat) : zset V a (V a) = V := by
  funext q
  by_cases e : q = a
  · subst e; simp [zset]
  · simp [zset, e]
theorem z_putR {idx ci k a b : Nat} {fin : Bool} {ft : FieldType} {fs : List (Option Value)} (hd : decode y.2.1 pc = .ok (.putfield idx, 3)) (hF : zF y.1.cls idx ci k fin ft) (hfin : fin = false ∨ y.1.name = "<init>" ∧ (∃ C T N, vwCl[ci]? = some (C, T, N) ∧ C = y.1.cls)) (hft : narrow ft (.ref b) = .ref b ∧ fits ft (.ref b) = true) (hL : L a = some (.inr (.inr (ci, fs)))) (hk : k < fs.length) (kk : Z D z0 d mc ms y cells slots (pc + 3) lv st (zsh L a (.inr (.inr (ci, fs.set k (some (.ref b)))))) V nx P) : Z D z0 d mc ms y cells slots pc lv (.ref b :: .ref a :: st) L V nx P := by
  refine z_putV hd hF hfin hL hk hft.1 hft.2 (zfs_setR hk) ?_
  rw [zset_self]
  exact kk
/-- arrays of numbers -/
theorem z_arr {D : zD} {s : State} {t n : Nat} {ty : FieldType} (h : zk D z0 s) (ht : (ztys D)[t]? = some (D.2 t, ty)) (f : Nat → Value) : s.isArrayOf (arrV (D.2 t) n f) ty := (h.1.2 t _ ht).1 n f
theorem z_iald {a n : Nat} {i : Int32} (hd : decode y.2.1 pc = .ok (.iaload, 1)) (hL : L a = some (.inl (0, n))) (hin : vp_in i n) (kk : Z D z0 d mc ms y cells slots (pc + 1) lv (.int (V a i.toNatClampNeg) :: st) L V nx P) : Z D z0 d mc ms y cells slots pc lv (.int i :: .ref a :: st) L V nx P := by
  intro p l e s m args below meth c H locs Q ls hC hl hr hH hf
  have hlt : i.toNatClampNeg < n := Nat.not_le.mp fun q => hin (Or.inr q)
  exact W.iald (v := .int (V a i.toNatClampNeg)) hC.1 hC.2.1 (hr.1 a _ hL).2 (z_arr hC.2.2.2.2.2.2.2.2 (t := 0) rfl (n := n) (fun j => .int (V a j))) (fun q => by cases q) (by show ¬ (i < 0 ∨ (arrV _ _ _).slots.size ≤ _); rw [arrV_size]; exact hin) (by show (arrV _ _ _).slots[_]? = _; rw [arrV_read _ _ hlt]) rfl rfl hd (kk p l e s m args below meth c H locs Q ls hC hl hr hH hf)
theorem z_zald {a n : Nat} {i : Int32} (hd : decode y.2.1 pc = .ok (.baload, 1)) (hL : L a = some (.inl (1, n))) (hin : vp_in i n) (kk : Z D z0 d mc ms y cells slots (pc + 1) lv (.int (V a i.toNatClampNeg) :: st) L V nx P) : Z D z0 d mc ms y cells slots pc lv (.int i :: .ref a :: st) L V nx P := by
  intro p l e s m args below meth c H locs Q ls hC hl hr hH hf
  have hlt : i.toNatClampNeg < n := Nat.not_le.mp fun q => hin (Or.inr q)
  exact W.zald (v := .int (V a i.toNatClampNeg)) hC.1 hC.2.1 (hr.1 a _ hL).2 (z_arr hC.2.2.2.2.2.2.2.2 (t := 1) rfl (n := n) (fun j => .int (V a j))) (fun q => by cases q) (by show ¬ (i < 0 ∨ (arrV _ _ _).slots.size ≤ _); rw [arrV_size]; exact hin) (by show (arrV _ _ _).slots[_]? = _; rw [arrV_read _ _ hlt]) rfl rfl hd (kk p l e s m args below meth c H locs Q ls hC hl hr hH hf)
theorem z_bald {a n : Nat} {i : Int32} (hd : decode y.2.1 pc = .ok (.baload, 1)) (hL : L a = some (.inl (2, n))) (hin : vp_in i n) (kk : Z D z0 d mc ms y cells slots (pc + 1) lv (.int (V a i.toNatClampNeg) :: st) L V nx P) : Z D z0 d mc ms y cells slots pc lv (.int i :: .ref a :: st) L V nx P := by
  intro p l e s m args below meth c H locs Q ls hC hl hr hH hf
  have hlt : i.toNatClampNeg < n := Nat.not_le.mp fun q => hin (Or.inr q)
  exact W.bald (v := .int (V a i.toNatClampNeg)) hC.1 hC.2.1 (hr.1 a _ hL).2 (z_arr hC.2.2.2.2.2.2.2.2 (t := 2) rfl (n := n) (fun j => .int (V a j))) (fun q => by cases q) (by show ¬ (i < 0 ∨ (arrV _ _ _).slots.size ≤ _); rw [arrV_size]; exact hin) (by show (arrV _ _ _).slots[_]? = _; rw [arrV_read _ _ hlt]) rfl rfl hd (kk p l e s m args below meth c H locs Q ls hC hl hr hH hf)
theorem z_cell {D : zD} {t n k : Nat} {f : Nat → Int32} {x : Int32} : (arrV (D.2 t) n (fun j => .int (f j))).setSlot k (.int x) = vp_cell (D.2 t) (n, .inl (upd f k x)) := by
  rw [vp_cell_i, arrV_store]
  congr 2
  funext q
  by_cases hq : q = k
  · subst hq; simp [updV, upd]
  · simp [updV, upd, hq]
theorem z_iast {a n : Nat} {i x : Int32} (hd : decode y.2.1 pc = .ok (.iastore, 1)) (hL : L a = some (.inl (0, n))) (hin : vp_in i n) (kk : Z D z0 d mc ms y cells slots (pc + 1) lv st L (zup V a i.toNatClampNeg x) nx P) : Z D z0 d mc ms y cells slots pc lv (.int x :: .int i :: .ref a :: st) L V nx P := by
  intro p l e s m args below meth c H locs Q ls hC hl hr hH hf
  refine W.iast hC.1 hC.2.1 (hr.1 a _ hL).2 (z_arr hC.2.2.2.2.2.2.2.2 (t := 0) rfl (n := n) (fun j => .int (V a j))) (fun q => by cases q) (by show ¬ (i < 0 ∨ (arrV _ _ _).slots.size ≤ _); rw [arrV_size]; exact hin) rfl rfl hd fun H1 e1 z oq => ?_
  refine kk p l e s m args below meth c H1 _ Q ls hC hl (zr_upd hr hL z oq ?_) (hH.put (hr.1 a _ hL).1 oq) hf
  show H1[a]? = some (vp_cell _ _)
  rw [e1]
  exact congrArg some z_cell
theorem z_zast {a n : Nat} {i x : Int32} (hd : decode y.2.1 pc = .ok (.bastore, 1)) (hL : L a = some (.inl (1, n))) (hin : vp_in i n) (hx : x = 0 ∨ x = 1) (kk : Z D z0 d mc ms y cells slots (pc + 1) lv st L (zup V a i.toNatClampNeg x) nx P) : Z D z0 d mc ms y cells slots pc lv (.int x :: .int i :: .ref a :: st) L V nx P := by
  intro p l e s m args below meth c H locs Q ls hC hl hr hH hf
  refine W.zast hC.1 hC.2.1 (hr.1 a _ hL).2 (z_arr hC.2.2.2.2.2.2.2.2 (t := 1) rfl (n := n) (fun j => .int (V a j))) (fun q => by cases q) (by show ¬ (i < 0 ∨ (arrV _ _ _).slots.size ≤ _); rw [arrV_size]; exact hin) rfl rfl hd fun H1 e1 z oq => ?_
  refine kk p l e s m args below meth c H1 _ Q ls hC hl (zr_upd hr hL z oq ?_) (hH.put (hr.1 a _ hL).1 oq) hf
  show H1[a]? = some (vp_cell _ _)
  have hn : narrow .boolean (.int x) = .int x := by rcases hx with rfl | rfl <;> rfl
  rw [e1, hn]
  exact congrArg some z_cell
theorem z_bast {a n : Nat} {i x : Int32} (hd : decode y.2.1 pc = .ok (.bastore, 1)) (hL : L a = some (.inl (2, n))) (hin : vp_in i n) (kk : Z D z0 d mc ms y cells slots (pc + 1) lv st L (zup V a i.toNatClampNeg x.toInt8.toInt32) nx P) : Z D z0 d mc ms y cells slots pc lv (.int x :: .int i :: .ref a :: st) L V nx P := by
  intro p l e s m args below meth c H locs Q ls hC hl hr hH hf
  refine W.bast hC.1 hC.2.1 (hr.1 a _ hL).2 (z_arr hC.2.2.2.2.2.2.2.2 (t := 2) rfl (n := n) (fun j => .int (V a j))) (fun q => by cases q) (by show ¬ (i < 0 ∨ (arrV _ _ _).slots.size ≤ _); rw [arrV_size]; exact hin) rfl rfl hd fun H1 e1 z oq => ?_
  refine kk p l e s m args below meth c H1 _ Q ls hC hl (zr_upd hr hL z oq ?_) (hH.put (hr.1 a _ hL).1 oq) hf
  show H1[a]? = some (vp_cell _ _)
  rw [e1]
  exact congrArg some z_cell
theorem z_alen {a n t : Nat} {ty : FieldType} (hd : decode y.2.1 pc = .ok (.arraylength, 1)) (hL : L a = some (.inl (t, n))) (ht : ∀ D : zD, (ztys D)[t]? = some (D.2 t, ty)) (kk : Z D z0 d mc ms y cells slots (pc + 1) lv (.int (nI n) :: st) L V nx P) : Z D z0 d mc ms y cells slots pc lv (.ref a :: st) L V nx P := by
  intro p l e s m args below meth c H locs Q ls hC hl hr hH hf
  exact W.alen (n := nI n) (ty := ty) hC.1 hC.2.1 (hr.1 a _ hL).2 (z_arr hC.2.2.2.2.2.2.2.2 (t := t) (ht D) (n := n) (fun j => .int (V a j))) (by show (arrV _ _ _).slots.size.toInt32 = _; rw [arrV_size]; rfl) rfl rfl hd (kk p l e s m args below meth c H locs Q ls hC hl hr hH hf)
theorem z_aald {a t b : Nat} {C : String} {i : Int32} {rs : List (Option Nat)} (hd : decode y.2.1 pc = .ok (.aaload, 1)) (hL : L a = some (.inr (.inl (t, rs)))) (ht : ∀ D : zD, (ztys D)[t]? = some (D.2 t, .object C)) (hin : vp_in i rs.length) (hb : rs.getD i.toNatClampNeg none = some b) (kk : Z D z0 d mc ms y cells slots (pc + 1) lv (.ref b :: st) L V nx P) : Z D z0 d mc ms y cells slots pc lv (.int i :: .ref a :: st) L V nx P := by
  intro p l e s m args below meth c H locs Q ls hC hl hr hH hf
  have hlt : i.toNatClampNeg < rs.length := Nat.not_le.mp fun q => hin (Or.inr q)
  exact W.aald (v := .ref b) (ty := .object C) hC.1 hC.2.1 (hr.1 a _ hL).2 (z_arr hC.2.2.2.2.2.2.2.2 (t := t) (ht D) (n := rs.length) (fun j => va_rf (rs.getD j none))) rfl (fun q => by cases q) (by show ¬ (i < 0 ∨ (arrV _ _ _).slots.size ≤ _); rw [arrV_size]; exact hin) (by show (arrV _ _ _).slots[_]? = _; rw [arrV_read _ _ hlt]; show some (va_rf (rs.getD i.toNatClampNeg none)) = _; rw [hb]; rfl) rfl rfl hd (kk p l e s m args below meth c H locs Q ls hC hl hr hH hf)
end ZH
