/-! THE LOGIC OF THIS CLAIM: a world is a shape (what lies at an address: an object, its references; an array, its length) and its numbers; Z: the machine at a place of a method comes to a return with P; Sp: a method's contract -/
def zT : List Cond := lw_tbl.filter goodWord
theorem zin {w : Cond} (i : Nat) (h : tables_1[i]? = some w) (hg : goodWord w = true) : w ∈ zT := List.mem_filter.mpr ⟨List.mem_append_right _ (List.mem_of_getElem? h), hg⟩
theorem zinP {w : Cond} (i : Nat) (h : (k2_sels lw_privs)[i]? = some w) (hg : goodWord w = true) : w ∈ zT := List.mem_filter.mpr ⟨List.mem_append_left _ (List.mem_of_getElem? h), hg⟩
theorem zT_good {w : Cond} (h : w ∈ zT) : (w.onTables && w.keeps) = true ∨ ∃ ty, w = .arrayClass ty := good_of_word (List.mem_filter.mp h).2
def zW (y : Mt) : List Cond := .code y.1 y.2.1 y.2.2.1 y.2.2.2 :: zT
abbrev Sh : Type := (Nat × Nat) ⊕ ((Nat × List (Option Nat)) ⊕ (Nat × List (Option Value)))
abbrev zD : Type := va_G × (Nat → ClassId)
abbrev zL : Type := Nat → Option Sh
abbrev zV : Type := Nat → Nat → Int32
abbrev zP : Type := Option Value → zL → zV → Nat → Prop
/-- the classes of arrays, by their tags -/
def ztys (D : zD) : List (ClassId × FieldType) := [(D.2 0, .int), (D.2 1, .boolean), (D.2 2, .byte), (D.2 3, .object RX7), (D.2 4, .object RX9), (D.2 5, .object RX3), (D.2 6, .object RX0)]
def zfs (fs : List (Option Value)) (v : Nat → Int32) : List Value := fs.mapIdx (fun k o => o.getD (.int (v k)))
def ze (D : zD) (sh : Sh) (v : Nat → Int32) : va_E := match sh with
  | .inl (t, n) => .inl (D.2 t, n, .inl v)
  | .inr (.inl (t, rs)) => .inl (D.2 t, rs.length, .inr (.inr (.inr (.inr (fun i => rs.getD i none)))))
  | .inr (.inr (ci, fs)) => .inr (ci, zfs fs v)
/-- the heap holds the world -/
def zr (D : zD) (z0 : Nat) (L : zL) (V : zV) (nx : Nat) (H : Heap) : Prop := (∀ a sh, L a = some sh → z0 ≤ a ∧ va_at D.1 vwCl (a, ze D sh (V a)) H) ∧ H.size = nx ∧ z0 ≤ nx
def zup (V : zV) (a k : Nat) (x : Int32) : zV := fun q j => if q = a ∧ j = k then x else V q j
def zset (V : zV) (a : Nat) (f : Nat → Int32) : zV := fun q => if q = a then f else V q
def zsh (L : zL) (a : Nat) (sh : Sh) : zL := fun q => if q = a then some sh else L q
/-- links between nest mates, and rows of references that are made -/
def zNs : List Cond := tables_1.filter (fun w => match w with | .methodLinkNest .. => true | _ => false)
def zAO : List String := [RX7, RX9, RX3, RX0]
/-- the String constants of the class: the i-th lies at D.2 (100 + i), its bytes at D.2 (200 + i) -/
def zsN : List (Nat × String) := [(31, "index"), (117, "desc"), (49, "unique"), (54, "where"), (73, "find"), (134, "and"), (83, "order")]
def zlen : List Nat := [5, 4, 6, 5, 4, 3, 5]
def zbyt : List (List Int32) := [[105, 110, 100, 101, 120], [100, 101, 115, 99], [117, 110, 105, 113, 117, 101], [119, 104, 101, 114, 101], [102, 105, 110, 100], [97, 110, 100], [111, 114, 100, 101, 114]]
/-- what lies below: the String constants, and the statics that their methods read -/
def zs (D : zD) (z0 : Nat) (U : State) : Prop := vk_S 7 zlen zbyt (fun i => D.2 (100 + i)) (fun i => D.2 (200 + i)) (fun q => z0 ≤ q) U U.heap ∧ (∀ i, i < 7 → vk_R "LateIndex$Tape" (zsN.getD i (0, "")).1 (zsN.getD i (0, "")).2 (D.2 (100 + i)) U) ∧ va_Z "java/lang/String" "COMPACT_STRINGS" "Z" (.int 1) (fun q => z0 ≤ q) U U.heap ∧ va_Zq "jdk/internal/util/Preconditions" "SIOOBE_FORMATTER" "Ljava/util/function/BiFunction;" (fun q => z0 ≤ q) U U.heap
def zk (D : zD) (z0 : Nat) (U : State) : Prop := va_K D.1 vwCl (ztys D) U ∧ (∀ w ∈ zNs, va_Nw w U) ∧ (∀ C ∈ zAO, va_AO C U) ∧ zs D z0 U
def zl (n : Nat) (lv : List (Option Value)) (ls : Array Slot) : Prop := ls.size = n ∧ lv.length = n ∧ lv_wf ls ∧ ∀ (i : Nat) (v : Value), lv[i]? = some (some v) → ls[i]? = some (.val v)
def zC (D : zD) (z0 : Nat) (y : Mt) (p : Program) (s : State) (m : MethodId) (args : Array Value) (meth : Method) (c : Code) : Prop :=
  p.tables.exec = Jvm.exec ∧ c.code = y.2.1 ∧ meth.sig.returnType = y.2.2.2 ∧ c.maxLocals = y.2.2.1 ∧ s.vm.findClass y.1.cls = some m.cls ∧ meth.locks = false ∧ meth.name = y.1.name ∧ (∀ w ∈ zT, w.before args s = true) ∧ zk D z0 s
def zH (z0 : Nat) (s : State) (H : Heap) (locs : List Loc) : Prop := (∀ q ∈ locs, z0 ≤ q.base) ∧ ∀ q : Nat, q < z0 → H[q]? = s.heap[q]?
def zret (y : Mt) (pc : Nat) (v : Option Value) : Prop := match v with
  | none => decode y.2.1 pc = .ok (.return_, 1) ∧ y.2.2.2 = none
  | some x => decode y.2.1 pc = .ok (.ireturn, 1) ∧ ∃ (r : Int32) (ty : FieldType), x = .int r ∧ y.2.2.2 = some ty ∧ narrow ty (.int r) = .int r
abbrev zR (d mc ms : Nat) : Room := { frames := d, cells := mc, slots := ms, locals := 40 * d }
def zfin (D : zD) (z0 d mc ms : Nat) (y : Mt) (P : zP) (p : Program) (l : Launch) (e : Env) (s : State) (m : MethodId) (args : Array Value) (below : List Frame) (meth : Method) (c : Code) (Q : State → Prop) : Prop :=
  ∀ (H : Heap) (locs : List Loc) (v : Option Value) (L : zL) (V : zV) (nx pc : Nat) (ls : Array Slot), P v L V nx → zr D z0 L V nx H → zH z0 s H locs → zret y pc v → W p l e (zR d mc ms) s m args below meth c H locs mc ms Q (F0 m pc ls v.toList)
/-- from this place of the method the machine comes to a return with P -/
def Z (D : zD) (z0 d mc ms : Nat) (y : Mt) (cells slots pc : Nat) (lv : List (Option Value)) (st : List Value) (L : zL) (V : zV) (nx : Nat) (P : zP) : Prop :=
  ∀ (p : Program) (l : Launch) (e : Env) (s : State) (m : MethodId) (args : Array Value) (below : List Frame) (meth : Method) (c : Code) (H : Heap) (locs : List Loc) (Q : State → Prop) (ls : Array Slot),
    zC D z0 y p s m args meth c → zl y.2.2.1 lv ls → zr D z0 L V nx H → zH z0 s H locs → zfin D z0 d mc ms y P p l e s m args below meth c Q →
    W p l e (zR d mc ms) s m args below meth c H locs cells slots Q (F0 m pc ls st)
def zPc (D : zD) (z0 : Nat) (as : List Value) (L : zL) (V : zV) (nx : Nat) : Array Value → State → Prop := va_Pc as (fun U => zr D z0 L V nx U.heap ∧ zk D z0 U)
def zQc (D : zD) (z0 : Nat) (P : zP) : Array Value → State → Outcome → State → Prop := fun _ st o t => (∃ v L V nx, o = .returned v ∧ P v L V nx ∧ zr D z0 L V nx t.heap) ∧ ∀ q : Nat, q < z0 → t.heap[q]? = st.heap[q]?
/-- a method's contract: with these arguments in this world it returns with P -/
def Sp (D : zD) (z0 d mc ms : Nat) (y : Mt) (as : List Value) (L : zL) (V : zV) (nx : Nat) (P : zP) : Prop :=
  ∀ l : Launch, Met l y.1 (zW y) (zR d mc ms) (zPc D z0 as L V nx) (zQc D z0 P) mc ms (fun q => z0 ≤ q)
/-- an int, in this world -/
def zi (x : Int32) (L : zL) (V : zV) (nx : Nat) : zP := fun v L' V' nx' => v = some (.int x) ∧ L' = L ∧ V' = V ∧ nx' = nx
/-- nothing, in this world -/
def zv (L : zL) (V : zV) (nx : Nat) : zP := fun v L' V' nx' => v = none ∧ L' = L ∧ V' = V ∧ nx' = nx
theorem zs.kept {D : zD} {z0 : Nat} {u U : State} (ha : u.vm.Alike U.vm) (hr : ∀ i, i < 7 → vk_R "LateIndex$Tape" (zsN.getD i (0, "")).1 (zsN.getD i (0, "")).2 (D.2 (100 + i)) U) (hh : ∀ q : Nat, q < z0 → U.heap[q]? = u.heap[q]?) (h : zs D z0 u) : zs D z0 U := by
  have hq : ∀ a : Nat, a < u.heap.size → ¬ z0 ≤ a → U.heap[a]? = u.heap[a]? := fun a _ h2 => hh a (by omega)
  exact ⟨(h.1.moved ha).kept hq, hr, (h.2.2.1.moved ha).kept hq, (h.2.2.2.moved ha).kept hq⟩
theorem zk.moved {D : zD} {z0 : Nat} {u U : State} (hW : u.WarmedH U.vm) (hh : ∀ q : Nat, q < z0 → U.heap[q]? = u.heap[q]?) (h : zk D z0 u) : zk D z0 U := by
  refine ⟨va_K.moved hW.alike h.1, fun w hw => ?_, fun C hC => va_AO.moved hW.alike (h.2.2.1 C hC), h.2.2.2.kept hW.alike (fun i hi => vk_R.warm hW (h.2.2.2.2.1 i hi)) hh⟩
  have hw2 := (List.mem_filter.mp hw).2
  have h2 := h.2.1 w hw
  cases w <;> first | exact va_Nw.warmM hW h2 | (exfalso; simp at hw2)
theorem zk.same {D : zD} {z0 : Nat} {u U : State} (hv : u.vm = U.vm) (hh : U.heap = u.heap) (h : zk D z0 u) : zk D z0 U := by
  have ha : u.vm.Alike U.vm := by rw [hv]; exact Vm.Alike.refl _
  refine ⟨va_K.moved ha h.1, fun w hw => ?_, fun C hC => va_AO.moved ha (h.2.2.1 C hC), h.2.2.2.kept ha (fun i hi => vk_R.same hv.symm (h.2.2.2.2.1 i hi)) (fun q _ => by rw [hh])⟩
  have hw2 := (List.mem_filter.mp hw).2
  have h2 := h.2.1 w hw
  cases w <;> first | exact va_Nw.same rfl hv h2 | (exfalso; simp at hw2)
theorem zPc_blind {D : zD} {z0 : Nat} {as : List Value} {L : zL} {V : zV} {nx : Nat} : FrameBlind (zPc D z0 as L V nx) := by
  intro a U g mk q
  obtain ⟨q0, q1, q2⟩ := q
  exact ⟨q0, q1, zk.same (u := U) (U := U.calling g mk a) rfl rfl q2⟩
/-- locals at the entry -/
def zent : List Value → List (Option Value)
  | [] => []
  | v :: vs => if v.category = 2 then some v :: none :: zent vs else some v :: zent vs
theorem zent_args : ∀ (vs : List Value) (i k : Nat) (v : Value), (zent vs)[i]? = some (some v) → (k + i, v) ∈ lv_args k vs
  | [], i, k, v, h => by simp [zent] at h
  | w :: vs, i, k, v, h => by
    by_cases hc : w.category = 2
    · rw [zent, if_pos hc] at h
      rw [lv_args, if_pos hc]
      match i, h with
      | 0, h =>
        have : w = v := by simpa using h
        subst this
        exact List.mem_cons_self
      | 1, h => simp at h
      | j + 2, h =>
        have h1 := zent_args vs j (k + 2) v (by simpa using h)
        have e : k + (j + 2) = k + 2 + j := by omega
        rw [e]
        exact List.mem_cons_of_mem _ h1
    · rw [zent, if_neg hc] at h
      rw [lv_args, if_neg hc]
      match i, h with
      | 0, h =>
        have : w = v := by simpa using h
        subst this
        exact List.mem_cons_self
      | j + 1, h =>
        have h1 := zent_args vs j (k + 1) v (by simpa using h)
        have e : k + (j + 1) = k + 1 + j := by omega
        rw [e]
        exact List.mem_cons_of_mem _ h1
theorem zl_entry {vs : List Value} {n k : Nat} {lv : List (Option Value)} (hlv : zent vs ++ List.replicate k none = lv) (hn : lv.length = n) (h : (lg_sl vs).length ≤ n) : zl n lv ((lg_sl vs ++ List.replicate (n - (lg_sl vs).length) Slot.unset).toArray) := by
  obtain ⟨h1, h2, h3⟩ := lv_entry vs h
  refine ⟨h1, hn, h2, fun i v hi => ?_⟩
  rw [← hlv] at hi
  by_cases hl : i < (zent vs).length
  · rw [List.getElem?_append_left hl] at hi
    have := h3 _ (zent_args vs i 0 v hi)
    simpa using this
  · rw [List.getElem?_append_right (by omega)] at hi
    exfalso
    have := List.getElem?_eq_some_iff.mp hi
    obtain ⟨q, e⟩ := this
    simp at e
/-- a contract out of the walk of a method's body -/
theorem Sp.of {D : zD} {z0 d mc ms : Nat} {y : Mt} {as : List Value} {L : zL} {V : zV} {nx : Nat} {P : zP} (k : Nat) {lv : List (Option Value)} (hy : plainName y.1.cls = true) (hlv : zent as ++ List.replicate k none = lv) (hn : lv.length = y.2.2.1) (hs : (lg_sl as).length ≤ y.2.2.1) (h : Z D z0 d mc ms y 0 0 0 lv [] L V nx P) : Sp D z0 d mc ms y as L V nx P := by
  intro l
  refine Met.ofW (cc := y.2.1) (maxL := y.2.2.1) (ret := y.2.2.2) hy rfl ?_
  intro p e s m args below meth c s₁ B hml hv
  obtain ⟨rfl, hr, hk⟩ := hv
  have hts : ∀ w ∈ zT, w.before as.toArray s = true := fun w hw => atoms_spec (ws := zW y) B.pre w (List.mem_cons_of_mem _ hw)
  rw [lg_entry_eq]
  refine h p l e s m as.toArray below meth c s.heap [] _ _ ⟨B.exec, B.bytes, B.returns, hml, findClass_of_methodNamed B.named, B.notSynchronized, (name_of_methodNamed B.named B.method).1, hts, hk⟩ (zl_entry hlv hn hs) hr ⟨fun q hq => by simp at hq, fun q _ => rfl⟩ ?_
  intro H locs v L' V' nx' pc ls hP hr' hH hret
  have hlocks := B.notSynchronized
  match v, hret with
  | none, ⟨hd, hy2⟩ =>
    exact W.vret B.exec B.bytes (B.returns.trans hy2) (fun t ht hw => ⟨⟨none, L', V', nx', rfl, hP, by rw [ht]; exact hr'⟩, fun q hq => by rw [ht]; exact hH.2 q hq⟩) (fun q hq => hH.1 q hq) hd hlocks
  | some x, ⟨hd, r, ty, hx, hy2, hnar⟩ =>
    subst hx
    exact W.zret B.exec B.bytes (B.returns.trans hy2) hnar (fun t ht hw => ⟨⟨some (.int r), L', V', nx', rfl, hP, by rw [ht]; exact hr'⟩, fun q hq => by rw [ht]; exact hH.2 q hq⟩) (fun q hq => hH.1 q hq) hd hlocks
theorem Sp.mono {D : zD} {z0 d mc ms : Nat} {y : Mt} {as : List Value} {L : zL} {V : zV} {nx : Nat} {P P' : zP} (h : Sp D z0 d mc ms y as L V nx P) (hp : ∀ v L' V' nx', P v L' V' nx' → P' v L' V' nx') : Sp D z0 d mc ms y as L V nx P' := by
  intro l p e ha hc hk s m args below hf h1 h2 h3
  obtain ⟨k, o, b1, b2, b3, ⟨⟨v, L', V', nx', e1, e2, e3⟩, b4⟩, b5⟩ := h l p e ha hc hk s m args below hf h1 h2 h3
  exact ⟨k, o, b1, b2, b3, ⟨⟨v, L', V', nx', e1, hp _ _ _ _ e2, e3⟩, b4⟩, b5⟩
