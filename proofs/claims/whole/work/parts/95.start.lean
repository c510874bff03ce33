/-! the law from its entry -/
theorem sLI_cg {L L' : zL} {a : Nat} {sw : Bool} (h : sLI L a sw) (e : ∀ q, a ≤ q → q < a + 471 → L' q = L q) : sLI L' a sw := by
  obtain ⟨h1, h2, h3, h4, h5, h6, h7, h8, h9, h10, h11, h12⟩ := h
  exact ⟨by rw [e a (by omega) (by omega)]; exact h1, h2.cg (fun q p r => e q (by omega) (by omega)), by rw [e _ (by omega) (by omega)]; exact h3, by rw [e _ (by omega) (by omega)]; exact h4, by rw [e _ (by omega) (by omega)]; exact h5, h6.cg (fun q p r => e q (by omega) (by omega)), h7.cg (fun q p r => e q (by omega) (by omega)), h8.cg (fun q p r => e q (by omega) (by omega)), h9.cg (fun q p r => e q (by omega) (by omega)), h10.cg (fun q p r => e q (by omega) (by omega)), fun k hk => (h11 k hk).cg (fun q p r => e q (by omega) (by omega)), fun k hk => (h12 k hk).cg (fun q p r => e q (by omega) (by omega))⟩
set_option maxHeartbeats 4000000 in
set_option maxRecDepth 100000 in
theorem law_start {yb yl : Nat} {yx : Nat → Int32} {D : zD} {a : Nat} {nm : String} (hyl : yl ≤ 3072) : YL yb yl yx D a 11 600000 7302250 (mL nm) 0 0 0 [some (.ref yb), none, none, none] [] (fun _ => none) (fun _ _ => 0) a (fun v _ _ _ => v = some (.int 1)) := by
  refine y_new (N := 13) dL_law_0 nwL_7 rfl ⟨Nat.le_of_ble_eq_true rfl, Nat.le_of_ble_eq_true rfl⟩ ?_
  refine y_dup dL_law_3 rfl ?_
  refine y_callI0p dL_law_4 kX11_init lL_9 (i_X11 (a := a) (zsh_s _ _ _) (fun _ => congrFun (zset_s _ _ _) _)) (Nat.le_of_ble_eq_true rfl) (Nat.le_of_ble_eq_true rfl) ⟨Nat.le_of_ble_eq_true rfl, Nat.le_of_ble_eq_true rfl⟩ ?_
  intro v1 L1 V1 n1 h1
  obtain ⟨rfl, rfl, m1, s1, c1⟩ := h1
  refine y_astore_n dL_law_7 (Nat.le_of_ble_eq_true rfl) rfl ?_
  refine y_new (N := 34) dL_law_8 nwL_10 rfl ⟨Nat.le_of_ble_eq_true rfl, Nat.le_of_ble_eq_true rfl⟩ ?_
  refine y_dup dL_law_11 rfl ?_
  refine y_callI0p dL_law_12 kX12_init lL_12 (i_X12 (a := a + 471) (zsh_s _ _ _) (fun _ => congrFun (zset_s _ _ _) _)) (Nat.le_of_ble_eq_true rfl) (Nat.le_of_ble_eq_true rfl) ⟨Nat.le_of_ble_eq_true rfl, Nat.le_of_ble_eq_true rfl⟩ ?_
  intro v2 L2 V2 n2 h2
  obtain ⟨rfl, rfl, m2, s2, c2⟩ := h2
  refine y_astore_n dL_law_15 (Nat.le_of_ble_eq_true rfl) rfl ?_
  refine y_iconst (v := nI 0) dL_law_16 rfl ?_
  refine y_istore_n dL_law_17 (Nat.le_of_ble_eq_true rfl) rfl ?_
  have hs : sLI L2 a false := sLI_cg s1 (fun q p r => by (repeat (first | rw [zsh_o (by omega)] | rw [(m2 _ (by omega)).1])))
  have hl : LI V2 a false w0 := c1.out (lo := a + 471) (hi := a + 487) (fun q hq => by (repeat (first | rw [zset_a (by omega)] | rw [(m2 _ (by omega)).2]))) (Or.inl (Nat.le_refl _))
  exact law_loop hyl ⟨Nat.le_of_ble_eq_true rfl, Nat.le_of_ble_eq_true rfl⟩ _ 0 0 L2 V2 false w0 rfl (Nat.zero_le _) (Nat.le_refl _) hs hl s2 c2 ⟨JS_0, fun s hs => absurd hs (by simp [w0]), fun i s hs => by cases hs⟩
set_option maxHeartbeats 4000000 in
set_option maxRecDepth 100000 in
theorem whole_start {p : Program} {e : Env} {s : State} {m : MethodId} {below : List Frame} {meth : Method} {c : Code} (l : Launch) (hflags : l.flags = flags0) {b L : Nat} {xs : Nat → Int32} (hL : L ≤ 3072) (C0 : lw_At p s m meth c b L xs) : W p l e room_1 s m #[Value.ref b] below meth c s.heap [] 0 0 (lw_Z below #[Value.ref b] s) (entryFrame m ([Value.ref b] : List Value).toArray 4) := by
  obtain ⟨hx, hb, hr, hml, hown, hts, hX, hbl, hlocks, hgv⟩ := id C0
  obtain ⟨D, hk⟩ := zk_of hts hgv
  rw [lg_entry_eq]
  refine law_start (yb := b) (yl := L) (yx := xs) (D := D) (a := s.heap.size) (nm := meth.name) hL p l e s m #[Value.ref b] below meth c s.heap [] (lw_Z below #[Value.ref b] s) _ ⟨hX, hbl⟩ ⟨hx, hb, hr, hml, hown, hlocks, rfl, fun w hw => hts w (List.mem_filter.mp hw).1, hk⟩ (zl_entry (vs := [.ref b]) (k := 3) rfl rfl (Nat.le_of_ble_eq_true rfl)) ⟨fun a sh h => (by cases h), rfl, Nat.le_refl _⟩ ⟨fun q hq => (by simp at hq), fun q _ => rfl⟩ ?_
  intro H locs v L' V' nx' pc ls hP hr' hH hret
  cases hP
  obtain ⟨hd, r, ty, e1, e2, e3⟩ := hret
  cases e1
  exact va_forget (fun q hq => hH.1 q hq) (lw_ret hx hb hr hlocks hd)
