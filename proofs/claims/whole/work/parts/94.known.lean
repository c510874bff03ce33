/-! what is known at the law's entry -/
theorem tin {w : Cond} (i : Nat) (h : tables_1[i]? = some w) : w ∈ lw_tbl := List.mem_append_right _ (List.mem_of_getElem? h)
theorem arr_of {args : Array Value} {s : State} {ty : FieldType} (h : (Cond.arrayClass ty).before args s = true) (ht : ∀ C, ty ≠ .object C) : ∃ cA : ClassId, ArrOfT s cA ty ∧ va_RA s cA ty := by
  obtain ⟨cA, kA, comp, h1, h2, h3⟩ := Cond.arrayClass_spec h
  refine ⟨cA, fun n z => ⟨fun k h => (by cases h), kA, h2, comp, h3⟩, ?_⟩
  cases ty <;> first | exact h1 | exact absurd rfl (ht _)
theorem arr_over {args : Array Value} {s : State} {C : String} (h : (Cond.arrayOver (.object C)).before args s = true) : ∃ cA : ClassId, ArrOfT s cA (.object C) ∧ va_RA s cA (.object C) := by
  obtain ⟨comp, cA, kA, h1, h2, h3, h4, h5⟩ := Cond.arrayOver_spec h
  exact ⟨cA, fun n z => ⟨fun k h => (by cases h), kA, h3, comp, h4⟩, kA, comp, h3, h4, h1, h5⟩

set_option maxHeartbeats 4000000 in
set_option maxRecDepth 100000 in
theorem kn_cls {args : Array Value} {s : State} (hT : ∀ {w : Cond}, w ∈ lw_tbl → w.before args s = true) : ∃ G : va_G, ∀ (c : Nat) (q : vw_C), vwCl[c]? = some q → u_Kn s q.1 q.2.1 q.2.2 (G.1 c) (G.2 c) := by
  have hz : ∀ w ∈ zT, w.before args s = true := fun w hw => hT (List.mem_filter.mp hw).1
  obtain ⟨c0, i0, hn0⟩ := u_known (C := RX0) (T := TX0) (N := 3) (n := 3) hz wX0_in (hT (tin 117 (by decide +kernel)))
  obtain ⟨c1, i1, hn1⟩ := u_known (C := RX1) (T := TX1) (N := 4) (n := 4) hz wX1_in (hT (tin 87 (by decide +kernel)))
  obtain ⟨c2, i2, hn2⟩ := u_known (C := RX2) (T := TX2) (N := 3) (n := 3) hz wX2_in (hT (tin 181 (by decide +kernel)))
  obtain ⟨c3, i3, hn3⟩ := u_known (C := RX3) (T := TX3) (N := 9) (n := 9) hz wX3_in (hT (tin 81 (by decide +kernel)))
  obtain ⟨c4, i4, hn4⟩ := u_known (C := RX4) (T := TX4) (N := 3) (n := 3) hz wX4_in (hT (tin 93 (by decide +kernel)))
  obtain ⟨c5, i5, hn5⟩ := u_known (C := RX5) (T := TX5) (N := 3) (n := 3) hz wX5_in (hT (tin 299 (by decide +kernel)))
  obtain ⟨c6, i6, hn6⟩ := u_known (C := RX6) (T := TX6) (N := 2) (n := 2) hz wX6_in (hT (tin 162 (by decide +kernel)))
  obtain ⟨c7, i7, hn7⟩ := u_known (C := RX7) (T := TX7) (N := 7) (n := 7) hz wX7_in (hT (tin 29 (by decide +kernel)))
  obtain ⟨c8, i8, hn8⟩ := u_known (C := RX8) (T := TX8) (N := 6) (n := 6) hz wX8_in (hT (tin 271 (by decide +kernel)))
  obtain ⟨c9, i9, hn9⟩ := u_known (C := RX9) (T := TX9) (N := 4) (n := 4) hz wX9_in (hT (tin 55 (by decide +kernel)))
  obtain ⟨c10, i10, hn10⟩ := u_known (C := RX10) (T := TX10) (N := 3) (n := 3) hz wX10_in (hT (tin 35 (by decide +kernel)))
  obtain ⟨c11, i11, hn11⟩ := u_known (C := RX11) (T := TX11) (N := 13) (n := 13) hz wX11_in (hT (tin 21 (by decide +kernel)))
  obtain ⟨c12, i12, hn12⟩ := u_known (C := RX12) (T := TX12) (N := 34) (n := 34) hz wX12_in (hT (tin 1143 (by decide +kernel)))
  refine ⟨(fun k => if k = 0 then c0 else if k = 1 then c1 else if k = 2 then c2 else if k = 3 then c3 else if k = 4 then c4 else if k = 5 then c5 else if k = 6 then c6 else if k = 7 then c7 else if k = 8 then c8 else if k = 9 then c9 else if k = 10 then c10 else if k = 11 then c11 else c12, fun k => if k = 0 then i0 else if k = 1 then i1 else if k = 2 then i2 else if k = 3 then i3 else if k = 4 then i4 else if k = 5 then i5 else if k = 6 then i6 else if k = 7 then i7 else if k = 8 then i8 else if k = 9 then i9 else if k = 10 then i10 else if k = 11 then i11 else i12), fun k q hq => ?_⟩
  match k, hq with
  | 0, hq => cases hq; exact hn0
  | 1, hq => cases hq; exact hn1
  | 2, hq => cases hq; exact hn2
  | 3, hq => cases hq; exact hn3
  | 4, hq => cases hq; exact hn4
  | 5, hq => cases hq; exact hn5
  | 6, hq => cases hq; exact hn6
  | 7, hq => cases hq; exact hn7
  | 8, hq => cases hq; exact hn8
  | 9, hq => cases hq; exact hn9
  | 10, hq => cases hq; exact hn10
  | 11, hq => cases hq; exact hn11
  | 12, hq => cases hq; exact hn12
  | k + 13, hq => simp at hq

set_option maxHeartbeats 4000000 in
set_option maxRecDepth 100000 in
theorem kn_str {b : Nat} {s : State} (hgv : (Jvm.Cond.and given_1 narrow_1).before #[Value.ref b] s = true) : ∃ adK adV : Nat → Nat, vk_S 7 zlen zbyt adK adV (fun q => s.heap.size ≤ q) s s.heap ∧ ∀ i : Nat, i < 7 → (Term.string "LateIndex$Tape" (zsN.getD i (0, "")).1).eval #[Value.ref b] s none [] s = some (.ref (adK i)) := by
  have hs := flat_of_before _ hgv
  exact vk_Sof (tm := fun i => Term.string "LateIndex$Tape" (zsN.getD i (0, "")).1) (by decide) (fun i hi => by
    rcases (show i = 0 ∨ i = 1 ∨ i = 2 ∨ i = 3 ∨ i = 4 ∨ i = 5 ∨ i = 6 by omega) with rfl | rfl | rfl | rfl | rfl | rfl | rfl
    · exact hs _ (by decide +kernel)
    · exact hs _ (by decide +kernel)
    · exact hs _ (by decide +kernel)
    · exact hs _ (by decide +kernel)
    · exact hs _ (by decide +kernel)
    · exact hs _ (by decide +kernel)
    · exact hs _ (by decide +kernel)) (fun i hi => by
    rcases (show i = 0 ∨ i = 1 ∨ i = 2 ∨ i = 3 ∨ i = 4 ∨ i = 5 ∨ i = 6 by omega) with rfl | rfl | rfl | rfl | rfl | rfl | rfl
    · exact hs _ (by decide +kernel)
    · exact hs _ (by decide +kernel)
    · exact hs _ (by decide +kernel)
    · exact hs _ (by decide +kernel)
    · exact hs _ (by decide +kernel)
    · exact hs _ (by decide +kernel)
    · exact hs _ (by decide +kernel)) (fun i hi => by
    rcases (show i = 0 ∨ i = 1 ∨ i = 2 ∨ i = 3 ∨ i = 4 ∨ i = 5 ∨ i = 6 by omega) with rfl | rfl | rfl | rfl | rfl | rfl | rfl
    · exact hs _ (by decide +kernel)
    · exact hs _ (by decide +kernel)
    · exact hs _ (by decide +kernel)
    · exact hs _ (by decide +kernel)
    · exact hs _ (by decide +kernel)
    · exact hs _ (by decide +kernel)
    · exact hs _ (by decide +kernel)) (fun i hi => by
    rcases (show i = 0 ∨ i = 1 ∨ i = 2 ∨ i = 3 ∨ i = 4 ∨ i = 5 ∨ i = 6 by omega) with rfl | rfl | rfl | rfl | rfl | rfl | rfl
    · exact hs _ (by decide +kernel)
    · exact hs _ (by decide +kernel)
    · exact hs _ (by decide +kernel)
    · exact hs _ (by decide +kernel)
    · exact hs _ (by decide +kernel)
    · exact hs _ (by decide +kernel)
    · exact hs _ (by decide +kernel))
    (fun i hi j hj => by
    rcases (show i = 0 ∨ i = 1 ∨ i = 2 ∨ i = 3 ∨ i = 4 ∨ i = 5 ∨ i = 6 by omega) with rfl | rfl | rfl | rfl | rfl | rfl | rfl
    · have hj : j < 5 := hj
      rcases (show j = 0 ∨ j = 1 ∨ j = 2 ∨ j = 3 ∨ j = 4 by omega) with rfl | rfl | rfl | rfl | rfl
      · exact hs _ (by decide +kernel)
      · exact hs _ (by decide +kernel)
      · exact hs _ (by decide +kernel)
      · exact hs _ (by decide +kernel)
      · exact hs _ (by decide +kernel)
    · have hj : j < 4 := hj
      rcases (show j = 0 ∨ j = 1 ∨ j = 2 ∨ j = 3 by omega) with rfl | rfl | rfl | rfl
      · exact hs _ (by decide +kernel)
      · exact hs _ (by decide +kernel)
      · exact hs _ (by decide +kernel)
      · exact hs _ (by decide +kernel)
    · have hj : j < 6 := hj
      rcases (show j = 0 ∨ j = 1 ∨ j = 2 ∨ j = 3 ∨ j = 4 ∨ j = 5 by omega) with rfl | rfl | rfl | rfl | rfl | rfl
      · exact hs _ (by decide +kernel)
      · exact hs _ (by decide +kernel)
      · exact hs _ (by decide +kernel)
      · exact hs _ (by decide +kernel)
      · exact hs _ (by decide +kernel)
      · exact hs _ (by decide +kernel)
    · have hj : j < 5 := hj
      rcases (show j = 0 ∨ j = 1 ∨ j = 2 ∨ j = 3 ∨ j = 4 by omega) with rfl | rfl | rfl | rfl | rfl
      · exact hs _ (by decide +kernel)
      · exact hs _ (by decide +kernel)
      · exact hs _ (by decide +kernel)
      · exact hs _ (by decide +kernel)
      · exact hs _ (by decide +kernel)
    · have hj : j < 4 := hj
      rcases (show j = 0 ∨ j = 1 ∨ j = 2 ∨ j = 3 by omega) with rfl | rfl | rfl | rfl
      · exact hs _ (by decide +kernel)
      · exact hs _ (by decide +kernel)
      · exact hs _ (by decide +kernel)
      · exact hs _ (by decide +kernel)
    · have hj : j < 3 := hj
      rcases (show j = 0 ∨ j = 1 ∨ j = 2 by omega) with rfl | rfl | rfl
      · exact hs _ (by decide +kernel)
      · exact hs _ (by decide +kernel)
      · exact hs _ (by decide +kernel)
    · have hj : j < 5 := hj
      rcases (show j = 0 ∨ j = 1 ∨ j = 2 ∨ j = 3 ∨ j = 4 by omega) with rfl | rfl | rfl | rfl | rfl
      · exact hs _ (by decide +kernel)
      · exact hs _ (by decide +kernel)
      · exact hs _ (by decide +kernel)
      · exact hs _ (by decide +kernel)
      · exact hs _ (by decide +kernel))
    (fun i j hi hj hij => by
    rcases (show i = 0 ∨ i = 1 ∨ i = 2 ∨ i = 3 ∨ i = 4 ∨ i = 5 ∨ i = 6 by omega) with rfl | rfl | rfl | rfl | rfl | rfl | rfl
    · rcases (show j = 0 ∨ j = 1 ∨ j = 2 ∨ j = 3 ∨ j = 4 ∨ j = 5 ∨ j = 6 by omega) with rfl | rfl | rfl | rfl | rfl | rfl | rfl
      · exact absurd rfl hij
      · exact Or.inl (hs _ (by decide +kernel))
      · exact Or.inl (hs _ (by decide +kernel))
      · exact Or.inl (hs _ (by decide +kernel))
      · exact Or.inl (hs _ (by decide +kernel))
      · exact Or.inl (hs _ (by decide +kernel))
      · exact Or.inl (hs _ (by decide +kernel))
    · rcases (show j = 0 ∨ j = 1 ∨ j = 2 ∨ j = 3 ∨ j = 4 ∨ j = 5 ∨ j = 6 by omega) with rfl | rfl | rfl | rfl | rfl | rfl | rfl
      · exact Or.inr (hs _ (by decide +kernel))
      · exact absurd rfl hij
      · exact Or.inl (hs _ (by decide +kernel))
      · exact Or.inl (hs _ (by decide +kernel))
      · exact Or.inl (hs _ (by decide +kernel))
      · exact Or.inl (hs _ (by decide +kernel))
      · exact Or.inl (hs _ (by decide +kernel))
    · rcases (show j = 0 ∨ j = 1 ∨ j = 2 ∨ j = 3 ∨ j = 4 ∨ j = 5 ∨ j = 6 by omega) with rfl | rfl | rfl | rfl | rfl | rfl | rfl
      · exact Or.inr (hs _ (by decide +kernel))
      · exact Or.inr (hs _ (by decide +kernel))
      · exact absurd rfl hij
      · exact Or.inl (hs _ (by decide +kernel))
      · exact Or.inl (hs _ (by decide +kernel))
      · exact Or.inl (hs _ (by decide +kernel))
      · exact Or.inl (hs _ (by decide +kernel))
    · rcases (show j = 0 ∨ j = 1 ∨ j = 2 ∨ j = 3 ∨ j = 4 ∨ j = 5 ∨ j = 6 by omega) with rfl | rfl | rfl | rfl | rfl | rfl | rfl
      · exact Or.inr (hs _ (by decide +kernel))
      · exact Or.inr (hs _ (by decide +kernel))
      · exact Or.inr (hs _ (by decide +kernel))
      · exact absurd rfl hij
      · exact Or.inl (hs _ (by decide +kernel))
      · exact Or.inl (hs _ (by decide +kernel))
      · exact Or.inl (hs _ (by decide +kernel))
    · rcases (show j = 0 ∨ j = 1 ∨ j = 2 ∨ j = 3 ∨ j = 4 ∨ j = 5 ∨ j = 6 by omega) with rfl | rfl | rfl | rfl | rfl | rfl | rfl
      · exact Or.inr (hs _ (by decide +kernel))
      · exact Or.inr (hs _ (by decide +kernel))
      · exact Or.inr (hs _ (by decide +kernel))
      · exact Or.inr (hs _ (by decide +kernel))
      · exact absurd rfl hij
      · exact Or.inl (hs _ (by decide +kernel))
      · exact Or.inl (hs _ (by decide +kernel))
    · rcases (show j = 0 ∨ j = 1 ∨ j = 2 ∨ j = 3 ∨ j = 4 ∨ j = 5 ∨ j = 6 by omega) with rfl | rfl | rfl | rfl | rfl | rfl | rfl
      · exact Or.inr (hs _ (by decide +kernel))
      · exact Or.inr (hs _ (by decide +kernel))
      · exact Or.inr (hs _ (by decide +kernel))
      · exact Or.inr (hs _ (by decide +kernel))
      · exact Or.inr (hs _ (by decide +kernel))
      · exact absurd rfl hij
      · exact Or.inl (hs _ (by decide +kernel))
    · rcases (show j = 0 ∨ j = 1 ∨ j = 2 ∨ j = 3 ∨ j = 4 ∨ j = 5 ∨ j = 6 by omega) with rfl | rfl | rfl | rfl | rfl | rfl | rfl
      · exact Or.inr (hs _ (by decide +kernel))
      · exact Or.inr (hs _ (by decide +kernel))
      · exact Or.inr (hs _ (by decide +kernel))
      · exact Or.inr (hs _ (by decide +kernel))
      · exact Or.inr (hs _ (by decide +kernel))
      · exact Or.inr (hs _ (by decide +kernel))
      · exact absurd rfl hij)
    (fun a ha => Nat.not_le.mpr ha)

set_option maxHeartbeats 4000000 in
set_option maxRecDepth 100000 in
theorem zk_of {b : Nat} {s : State} (hts : ∀ w ∈ lw_tbl, w.before #[Value.ref b] s = true) (hgv : (Jvm.Cond.and given_1 narrow_1).before #[Value.ref b] s = true) : ∃ D : zD, zk D s.heap.size s := by
  have hT : ∀ {w : Cond}, w ∈ lw_tbl → w.before #[Value.ref b] s = true := fun h => hts _ h
  have hz : ∀ w ∈ zT, w.before #[Value.ref b] s = true := fun w hw => hT (List.mem_filter.mp hw).1
  have hs := flat_of_before _ hgv
  obtain ⟨G, hG⟩ := kn_cls hT
  obtain ⟨adK, adV, hS, hV⟩ := kn_str hgv
  obtain ⟨a0, g0⟩ := arr_of (ty := .int) (hz _ w_arr_int) (fun C h => by cases h)
  obtain ⟨a1, g1⟩ := arr_of (ty := .boolean) (hz _ w_arr_boolean) (fun C h => by cases h)
  obtain ⟨a2, g2⟩ := arr_of (ty := .byte) (hz _ w_arr_byte) (fun C h => by cases h)
  have o3 : (Cond.arrayOver (.object "LateIndex$Store")).before #[Value.ref b] s = true := hT (tin 269 (by decide +kernel))
  obtain ⟨a3, g3⟩ := arr_over (C := RX7) o3
  have o4 : (Cond.arrayOver (.object "LateIndex$Transaction")).before #[Value.ref b] s = true := hT (tin 52 (by decide +kernel))
  obtain ⟨a4, g4⟩ := arr_over (C := RX9) o4
  have o5 : (Cond.arrayOver (.object "LateIndex$OneIndex")).before #[Value.ref b] s = true := hT (tin 54 (by decide +kernel))
  obtain ⟨a5, g5⟩ := arr_over (C := RX3) o5
  have o6 : (Cond.arrayOver (.object "LateIndex$Condition")).before #[Value.ref b] s = true := hT (tin 305 (by decide +kernel))
  obtain ⟨a6, g6⟩ := arr_over (C := RX0) o6
  have hA : ∀ a : Nat, a < s.heap.size → ¬ (fun q : Nat => s.heap.size ≤ q) a := fun a ha => Nat.not_le.mpr ha
  obtain ⟨g, hg⟩ : ∃ g : Nat → Nat, g = fun k => if k < 100 then (if k = 0 then a0 else if k = 1 then a1 else if k = 2 then a2 else if k = 3 then a3 else if k = 4 then a4 else if k = 5 then a5 else a6) else if k < 200 then adK (k - 100) else adV (k - 200) := ⟨_, rfl⟩
  have eK : ∀ i, i < 7 → g (100 + i) = adK i := fun i hi => by
    rw [hg]
    show (if 100 + i < 100 then _ else if 100 + i < 200 then adK (100 + i - 100) else adV (100 + i - 200)) = adK i
    rw [if_neg (by omega), if_pos (by omega), Nat.add_sub_cancel_left]
  have eV : ∀ i, i < 7 → g (200 + i) = adV i := fun i hi => by
    rw [hg]
    show (if 200 + i < 100 then _ else if 200 + i < 200 then adK (200 + i - 100) else adV (200 + i - 200)) = adV i
    rw [if_neg (by omega), if_neg (by omega), Nat.add_sub_cancel_left]
  have z0 : g 0 = a0 := by rw [hg]; rfl
  have z1 : g 1 = a1 := by rw [hg]; rfl
  have z2 : g 2 = a2 := by rw [hg]; rfl
  have z3 : g 3 = a3 := by rw [hg]; rfl
  have z4 : g 4 = a4 := by rw [hg]; rfl
  have z5 : g 5 = a5 := by rw [hg]; rfl
  have z6 : g 6 = a6 := by rw [hg]; rfl
  refine ⟨(G, g), ⟨hG, fun k q hq => ?_⟩, fun w hw => ?_, fun C hC => ?_, ⟨fun i hi => ?_, fun i j hi hj e => ?_⟩, fun i hi => ?_, ?_, ?_⟩
  · match k, hq with
    | 0, hq => cases hq; show ArrOfT s (g 0) _ ∧ va_RA s (g 0) _; rw [z0]; exact g0
    | 1, hq => cases hq; show ArrOfT s (g 1) _ ∧ va_RA s (g 1) _; rw [z1]; exact g1
    | 2, hq => cases hq; show ArrOfT s (g 2) _ ∧ va_RA s (g 2) _; rw [z2]; exact g2
    | 3, hq => cases hq; show ArrOfT s (g 3) _ ∧ va_RA s (g 3) _; rw [z3]; exact g3
    | 4, hq => cases hq; show ArrOfT s (g 4) _ ∧ va_RA s (g 4) _; rw [z4]; exact g4
    | 5, hq => cases hq; show ArrOfT s (g 5) _ ∧ va_RA s (g 5) _; rw [z5]; exact g5
    | 6, hq => cases hq; show ArrOfT s (g 6) _ ∧ va_RA s (g 6) _; rw [z6]; exact g6
    | k + 7, hq => simp [ztys] at hq
  · have h2 := (List.mem_filter.mp hw).2
    have h1 := hts w (List.mem_append_right _ (List.mem_filter.mp hw).1)
    cases w <;> first | exact h1 | (exfalso; simp at h2)
  · simp only [zAO, List.mem_cons, List.not_mem_nil, or_false] at hC
    rcases hC with rfl | rfl | rfl | rfl
    · exact va_AO.of o3
    · exact va_AO.of o4
    · exact va_AO.of o5
    · exact va_AO.of o6
  · have h := hS.1 i hi
    show va_O _ (g (100 + i)) _ _ _ ∧ va_OF _ _ _ _ (g (100 + i)) _ _ _ ∧ va_OF _ _ _ (.ref (g (200 + i))) (g (100 + i)) _ _ _ ∧ va_T _ (g (200 + i)) _ _ _ _ _
    rw [eK i hi, eV i hi]
    exact h
  · have e : g (100 + i) = g (100 + j) := e
    rw [eK i hi, eK j hj] at e
    exact hS.2 i j hi hj e
  · show vk_R _ _ _ (g (100 + i)) _
    rw [eK i hi]
    rcases (show i = 0 ∨ i = 1 ∨ i = 2 ∨ i = 3 ∨ i = 4 ∨ i = 5 ∨ i = 6 by omega) with rfl | rfl | rfl | rfl | rfl | rfl | rfl
    · exact vk_R.of (hT (tin 703 (by decide +kernel))) (hV 0 (by decide))
    · exact vk_R.of (hT (tin 784 (by decide +kernel))) (hV 1 (by decide))
    · exact vk_R.of (hT (tin 793 (by decide +kernel))) (hV 2 (by decide))
    · exact vk_R.of (hT (tin 794 (by decide +kernel))) (hV 3 (by decide))
    · exact vk_R.of (hT (tin 978 (by decide +kernel))) (hV 4 (by decide))
    · exact vk_R.of (hT (tin 983 (by decide +kernel))) (hV 5 (by decide))
    · exact vk_R.of (hT (tin 984 (by decide +kernel))) (hV 6 (by decide))
  · exact va_Zof (hT (tin 721 (by decide +kernel))) (hT (tin 16 (by decide +kernel))) (va_eqt (hs _ (by decide +kernel))) hA
  · exact va_Zqof (hT (tin 741 (by decide +kernel))) (hT (tin 18 (by decide +kernel))) (hs _ (by decide +kernel)) hA

