/-! LateIndex, on: the tape; indexes -/
def setTp (w : Wo) (b : List Nat) (k : Nat) (p : Int32) : Wo := (w.1, w.2.1, w.2.2.1, (b, k, p), w.2.2.2.2)
def xof (w : Wo) (i : Nat) : Ix := w.1.2.2.2 i
def tpb (w : Wo) : List Nat := w.2.2.2.1.1
noncomputable def o_feed (x1 x2 x3 x4 x5 : Int32) (w : Wo) : Int32 × Wo := if 80 < (tpb w).length then (-4, w) else (nI ((tpb w).length + 20), setTp w (((((tpb w) ++ bts x1 4) ++ bts x2 4) ++ bts x3 4) ++ bts x4 4 ++ bts x5 4) w.2.2.2.1.2.1 w.2.2.2.1.2.2)
noncomputable def bld (i n : Nat) (w : Wo) : Int32 × Wo := if (rD ((tpb w).take n)).1 = 0 then (nI w.1.1.1, wst (setTp w [] 0 (-1)) (setX w.1 i ((1, w.1.1.1, 0, 0, 0), (rD ((tpb w).take n)).2.2, [], [], []))) else (-30 - nI (rD ((tpb w).take n)).1, setTp w [] (rD ((tpb w).take n)).1 (nI (rD ((tpb w).take n)).2.1))
noncomputable def o_build (i n : Int32) (w : Wo) : Int32 × Wo := cif (rng 2 i) (cif (rng ((tpb w).length + 1) n) (if (xof w (tn i)).1.1 = 0 then bld (tn i) (tn n) w else (-5, w)) (-3, w)) (-2, w)
def o_fault (x : Int32) (w : Wo) : Int32 × Wo := (if x = 0 then nI w.2.2.2.1.2.1 else if x = nI 1 then w.2.2.2.1.2.2 else -1, w)
def und (x : Ix) : Prop := 1 ≤ x.1.1 ∧ x.1.1 ≤ 3
/-- so many units -/
noncomputable def uit (v : Vs) (sh mo : Nat) : Nat → Ix → Ix
  | 0, x => x
  | n + 1, x => cif (und x) (uit v sh mo n (xUnit v sh mo x)) x
noncomputable def wrk (w : Wo) (i n : Nat) : Ix := uit w.1.2.1 w.1.1.2.1 w.1.1.2.2 n (xof w i)
noncomputable def o_work (i n : Int32) (w : Wo) : Int32 × Wo := cif (rng 2 i) (cif (rng 201 n ∧ ¬ n = 0) (cif (und (xof w (tn i))) (nI (wrk w (tn i) (tn n)).1.1, wst w (setX w.1 (tn i) (wrk w (tn i) (tn n)))) (-5, w)) (-3, w)) (-2, w)
noncomputable def o_takeUp (i : Int32) (w : Wo) : Int32 × Wo := cif (rng 2 i) (if (xof w (tn i)).1.1 = 5 then (nI (xGo (xof w (tn i))).1.2.2.2.1, wst w (setX w.1 (tn i) (xGo (xof w (tn i))))) else (-5, w)) (-2, w)
noncomputable def o_giveUp (i : Int32) (w : Wo) : Int32 × Wo := cif (rng 2 i) (if (xof w (tn i)).1.1 = 0 then (-5, w) else (nI (xof w (tn i)).1.1, wst w (setX w.1 (tn i) (xClear 1)))) (-2, w)
noncomputable def o_terms (x v : Int32) (w : Wo) : Int32 × Wo := if x = 0 then cif (rng 21 v) (nI w.1.1.2.1, wst w ((w.1.1.1, tn v, w.1.1.2.2), w.1.2)) (-3, w) else if x = nI 1 then cif (rng 10 v ∧ ¬ v = 0) (nI w.1.1.2.2, wst w ((w.1.1.1, w.1.1.2.1, tn v), w.1.2)) (-3, w) else (-2, w)
def idx (x : Ix) (k : Nat) : Int32 := if k = 0 then nI x.1.1 else if k = 1 then nI x.2.2.1.length else if k = 2 then (if x.1.1 = 1 then nI x.1.2.2.1 else -1) else if k = 3 then nI x.2.2.2.1.length else if k = 4 then nI x.2.2.2.2.length else if k = 5 then nI x.1.2.2.2.1 else if k = 6 then (if x.1.1 = 1 then nI x.1.2.1 else -1) else if k = 15 then nI x.1.2.2.2.2 else td x.2.1 k
noncomputable def o_index (i x : Int32) (w : Wo) : Int32 × Wo := cif (rng 2 i ∧ rng 16 x) (idx (xof w (tn i)) (tn x), w) (-2, w)
noncomputable def o_entry (i k x : Int32) (w : Wo) : Int32 × Wo := cif (rng 2 i ∧ rng 4 x) (if k < 0 then (-3, w) else cif (rng (xof w (tn i)).2.2.1.length k) (pe (xof w (tn i)).2.1 ((xof w (tn i)).2.2.1.getD (tn k) 0) (tn x), w) (-1, w)) (-2, w)
def lgo (x : Ix) (h : Nat) : List Nat := if h = 0 then x.2.2.2.1 else x.2.2.2.2
def lgv (d : Df) (it x : Nat) : Int32 := if x = 0 then (if it % 2 = 1 then 1 else 0) else pe d (it / 2) (x - 1)
noncomputable def o_logged (i h k x : Int32) (w : Wo) : Int32 × Wo := cif (rng 2 i ∧ rng 2 h ∧ rng 5 x) (if k < 0 then (-3, w) else cif (rng (lgo (xof w (tn i)) (tn h)).length k) (lgv (xof w (tn i)).2.1 ((lgo (xof w (tn i)) (tn h)).getD (tn k) 0) (tn x), w) (-1, w)) (-2, w)
/-- codes are codes -/
def cdb (x : Ix) : Prop := (∀ c ∈ x.2.2.1, c < 64000000) ∧ (∀ c ∈ x.2.2.2.1, c < 128000000) ∧ ∀ c ∈ x.2.2.2.2, c < 128000000
theorem mem_getD {l : List Nat} {k : Nat} (h : k < l.length) : l.getD k 0 ∈ l := by
  rw [List.getD_eq_getElem?_getD, List.getElem?_eq_getElem h]
  exact List.getElem_mem _
theorem fr_split {V V1 : zV} {t lo hi : Nat} (h : fr V V1 t lo hi) (hd : t < lo ∨ hi ≤ t) : ∃ V2 : zV, zEq V V2 t (t + 1) ∧ zEq V2 V1 lo hi ∧ V2 t = V1 t := by
  refine ⟨fun q => if q = t then V1 q else V q, fun q hq => ?_, fun q hq => ?_, by simp⟩
  · show (if q = t then V1 q else V q) = V q
    rw [if_neg (by omega)]
  · show V1 q = (if q = t then V1 q else V q)
    by_cases e : q = t
    · rw [if_pos e]
    · rw [if_neg e]
      exact h q e hq
theorem TP_TA {V : zV} {a p : Nat} {b : List Nat} {fk fp : Int32} (h : TA V a b p (nI 0) fk fp) : TP V a [] fk fp := ⟨⟨h.1.1, h.1.2.2.2.1, h.1.2.2.2.2⟩, by simp, fun k hk => absurd hk (by simp)⟩
theorem TP_PRS {V : zV} {a r p : Nat} {b : List Nat} (h : PRS V a b r p (nI 0) (nI 0) (-1)) : TP V a [] (nI r) (if r = 0 then -1 else nI p) := by
  unfold PRS at h
  by_cases e : r = 0
  · subst e; exact TP_TA h
  · rw [if_neg e] at h
    exact TP_TA h
theorem LI_fd {V V' : zV} {a : Nat} {sw : Bool} {w : Wo} (h : LI V a sw w) (he : zEq V V' (a + 64) (a + 69)) (hs : ∃ d, DF V' (a + 64) d) : LI V' a sw w := by
  obtain ⟨h1, h2, h3, ⟨h4, h40⟩, ⟨h5, h6⟩, h7, ⟨d, h8⟩, ⟨l, h9⟩⟩ := h
  exact ⟨h1.eq he (by omega), h2.eq he (by omega) (by omega), h3.eq he (by omega) (by omega), ⟨h4.eq he (by omega), h40⟩, ⟨by rw [he a (by omega)]; exact h5, h6⟩, h7.eq he (by omega) (by omega), hs, ⟨l, h9.eq he (by omega)⟩⟩
theorem LI_build {V V1 : zV} {a k : Nat} {sw : Bool} {w : Wo} {p : Int32} (h : LI V a sw w) (hf : fr V V1 (a + 44) (a + 64) (a + 69)) (ht : TP V1 (a + 44) [] (nI k) p) (hk : k < 5) (hd : ∃ d, DF V1 (a + 64) d) : LI V1 a sw (setTp w [] k p) := by
  obtain ⟨V2, e1, e2, e3⟩ := fr_split hf (by omega)
  have h2 : LI V2 a sw (setTp w [] k p) := LI_tp h (e1.wide (by omega) (by omega)) ⟨by rw [e3]; exact ht.1, by simp, fun j hj => absurd hj (by simp)⟩ hk
  exact LI_fd h2 e2 hd
theorem rC_lt (b : List Nat) (p : Nat) : (rC b p).1 < 5 := by
  unfold rC
  repeat' split
  all_goals simp
theorem rO_lt (b : List Nat) : ∀ (f p : Nat) (o : List (Nat × Bool)), (rO b f p o).1 < 5
  | 0, p, o => by simp [rO]
  | f + 1, p, o => by
    have ih := rO_lt b f
    unfold rO
    repeat' split
    all_goals first | exact ih _ _ | simp
theorem rCs_lt (b : List Nat) : ∀ (f p : Nat) (o : List Cd), (rCs b f p o).1 < 5
  | 0, p, o => by simp [rCs]
  | f + 1, p, o => by
    have ih := rCs_lt b f
    have hc := rC_lt b p
    unfold rCs
    repeat' split
    all_goals first | exact ih _ _ | exact hc | simp
theorem fin_lt {α : Type} (b : List Nat) (p : Nat) (x : α) : (fin b p x).1 < 5 := by
  unfold fin
  split <;> simp
theorem rD_lt (b : List Nat) : (rD b).1 < 5 := by
  have h1 := rO_lt b 4 (sk b (sk b 0 + zln 0)) []
  unfold rD rD2
  repeat' split
  all_goals first | exact h1 | exact fin_lt _ _ _ | exact rC_lt _ _ | simp
theorem rQ_lt (b : List Nat) : (rQ b).1 < 5 := by
  unfold rQ rQ2
  repeat' split
  all_goals first | exact rO_lt _ _ _ _ | exact rCs_lt _ _ _ _ | exact fin_lt _ _ _ | simp

set_option maxHeartbeats 4000000 in
set_option maxRecDepth 100000 in
theorem c_feed {D : zD} {z0 nx : Nat} {L : zL} {V : zV} {a : Nat} {sw : Bool} {w : Wo} (hs : sLI L a sw) (h : LI V a sw w) {x1 : Int32} {x2 : Int32} {x3 : Int32} {x4 : Int32} {x5 : Int32} : Sp D z0 3 0 0 mX11_feed [.ref a, .int x1, .int x2, .int x3, .int x4, .int x5] L V nx (zq (some (.int (o_feed x1 x2 x3 x4 x5 w).1)) L nx (fun V' => zEq V V' a (a + 471) ∧ LI V' a sw (o_feed x1 x2 x3 x4 x5 w).2)) := by
  have hs0 := hs
  have h0 := h
  obtain ⟨l1, l2, l3, l4, l5, l6, l7, l8, l9, l10, l11, l12⟩ := hs
  obtain ⟨k1, k2, k3, k4, k5, k6, k7, k8⟩ := h
  have l20 := l2
  obtain ⟨s1, s2, s3, s4, s5, s6, s7⟩ := l2
  have k10 := k1
  obtain ⟨v1, v2, v3, v4⟩ := k1
  have hl0 := k4.1.2.1
  refine Sp.of 0 (by decide) rfl rfl (Nat.le_of_ble_eq_true rfl) ?_
  refine z_aload_n dX11_feed_0 rfl ?_
  refine z_getR dX11_feed_1 fX11_30 (by first | assumption | exact And.left (by assumption)) rfl ?_
  refine z_getIe dX11_feed_4 fX11_138 (by first | assumption | exact And.left (by assumption)) rfl k4.1.1.1 ?_
  refine z_bipush (v := nI 20) dX11_feed_7 rfl ?_
  refine z_addN dX11_feed_9 ?_
  refine z_bipush (v := nI 100) dX11_feed_10 rfl ?_
  refine z_icmp_leN (tgt := 18) dX11_feed_12 (by decide) (by omega) (by omega) (fun c_12 => ?_) (fun c_12 => ?_)
  · have t0 := k4.1
    refine z_aload_n dX11_feed_18 rfl ?_
    refine z_getR dX11_feed_19 fX11_30 (by first | assumption | exact And.left (by assumption)) rfl ?_
    refine z_iload_n dX11_feed_22 rfl ?_
    refine z_callV1w dX11_feed_23 kX8_append lX11_141 (by first | assumption | exact And.left (by assumption)) rfl (s_TPapp (x := x1) l6 t0 (by simp [bts_len]; omega)) (Nat.le_of_ble_eq_true rfl) (Nat.le_of_ble_eq_true rfl) ⟨Nat.le_of_ble_eq_true rfl, Nat.le_of_ble_eq_true rfl⟩ ?_
    intro V1 hV1
    obtain ⟨e1, t1⟩ := hV1
    refine z_aload_n dX11_feed_26 rfl ?_
    refine z_getR dX11_feed_27 fX11_30 (by first | assumption | exact And.left (by assumption)) rfl ?_
    refine z_iload_n dX11_feed_30 rfl ?_
    refine z_callV1w dX11_feed_31 kX8_append lX11_141 (by first | assumption | exact And.left (by assumption)) rfl (s_TPapp (x := x2) l6 t1 (by simp [bts_len]; omega)) (Nat.le_of_ble_eq_true rfl) (Nat.le_of_ble_eq_true rfl) ⟨Nat.le_of_ble_eq_true rfl, Nat.le_of_ble_eq_true rfl⟩ ?_
    intro V2 hV2
    obtain ⟨e2, t2⟩ := hV2
    refine z_aload_n dX11_feed_34 rfl ?_
    refine z_getR dX11_feed_35 fX11_30 (by first | assumption | exact And.left (by assumption)) rfl ?_
    refine z_iload_n dX11_feed_38 rfl ?_
    refine z_callV1w dX11_feed_39 kX8_append lX11_141 (by first | assumption | exact And.left (by assumption)) rfl (s_TPapp (x := x3) l6 t2 (by simp [bts_len]; omega)) (Nat.le_of_ble_eq_true rfl) (Nat.le_of_ble_eq_true rfl) ⟨Nat.le_of_ble_eq_true rfl, Nat.le_of_ble_eq_true rfl⟩ ?_
    intro V3 hV3
    obtain ⟨e3, t3⟩ := hV3
    refine z_aload_n dX11_feed_42 rfl ?_
    refine z_getR dX11_feed_43 fX11_30 (by first | assumption | exact And.left (by assumption)) rfl ?_
    refine z_iload dX11_feed_46 rfl ?_
    refine z_callV1w dX11_feed_48 kX8_append lX11_141 (by first | assumption | exact And.left (by assumption)) rfl (s_TPapp (x := x4) l6 t3 (by simp [bts_len]; omega)) (Nat.le_of_ble_eq_true rfl) (Nat.le_of_ble_eq_true rfl) ⟨Nat.le_of_ble_eq_true rfl, Nat.le_of_ble_eq_true rfl⟩ ?_
    intro V4 hV4
    obtain ⟨e4, t4⟩ := hV4
    refine z_aload_n dX11_feed_51 rfl ?_
    refine z_getR dX11_feed_52 fX11_30 (by first | assumption | exact And.left (by assumption)) rfl ?_
    refine z_iload dX11_feed_55 rfl ?_
    refine z_callV1w dX11_feed_57 kX8_append lX11_141 (by first | assumption | exact And.left (by assumption)) rfl (s_TPapp (x := x5) l6 t4 (by simp [bts_len]; omega)) (Nat.le_of_ble_eq_true rfl) (Nat.le_of_ble_eq_true rfl) ⟨Nat.le_of_ble_eq_true rfl, Nat.le_of_ble_eq_true rfl⟩ ?_
    intro V5 hV5
    obtain ⟨e5, t5⟩ := hV5
    refine z_aload_n dX11_feed_60 rfl ?_
    refine z_getR dX11_feed_61 fX11_30 (by first | assumption | exact And.left (by assumption)) rfl ?_
    refine z_getIe dX11_feed_64 fX11_138 (by first | assumption | exact And.left (by assumption)) rfl t5.1.1 ?_
    refine z_ireturn dX11_feed_67 (Nat.le_of_ble_eq_true rfl) (Nat.le_of_ble_eq_true rfl) rfl ?_
    have hln : ((((w.2.2.2.1.1 ++ bts x1 4) ++ bts x2 4) ++ bts x3 4) ++ bts x4 4 ++ bts x5 4).length = w.2.2.2.1.1.length + 20 := by simp [bts_len]
    rw [show o_feed x1 x2 x3 x4 x5 w = (nI ((tpb w).length + 20), setTp w (((((tpb w) ++ bts x1 4) ++ bts x2 4) ++ bts x3 4) ++ bts x4 4 ++ bts x5 4) w.2.2.2.1.2.1 w.2.2.2.1.2.2) from if_neg (show ¬ 80 < (tpb w).length by unfold tpb; omega)]
    have e9 := ((((e1.trans e2).trans e3).trans e4).trans e5)
    exact ⟨by rw [hln] <;> rfl, rfl, rfl, e9.wide (by omega) (by omega), LI_tp h0 e9 t5 k4.2⟩
  · refine z_bipush (v := (-4)) dX11_feed_15 rfl ?_
    refine z_ireturn dX11_feed_17 (Nat.le_of_ble_eq_true rfl) (Nat.le_of_ble_eq_true rfl) rfl ?_
    rw [show o_feed x1 x2 x3 x4 x5 w = (-4, w) from if_pos (show 80 < (tpb w).length by unfold tpb; omega)]
    exact ⟨rfl, rfl, rfl, zEq.rf, h0⟩

set_option maxHeartbeats 4000000 in
set_option maxRecDepth 100000 in
theorem c_fault {D : zD} {z0 nx : Nat} {L : zL} {V : zV} {a : Nat} {sw : Bool} {w : Wo} (hs : sLI L a sw) (h : LI V a sw w) {x : Int32} : Sp D z0 1 0 0 mX11_fault [.ref a, .int x] L V nx (zq (some (.int (o_fault x w).1)) L nx (fun V' => zEq V V' a (a + 471) ∧ LI V' a sw (o_fault x w).2)) := by
  have hs0 := hs
  have h0 := h
  obtain ⟨l1, l2, l3, l4, l5, l6, l7, l8, l9, l10, l11, l12⟩ := hs
  obtain ⟨k1, k2, k3, k4, k5, k6, k7, k8⟩ := h
  have l20 := l2
  obtain ⟨s1, s2, s3, s4, s5, s6, s7⟩ := l2
  have k10 := k1
  obtain ⟨v1, v2, v3, v4⟩ := k1
  refine Sp.of 0 (by decide) rfl rfl (Nat.le_of_ble_eq_true rfl) ?_
  refine z_iload_n dX11_fault_0 rfl ?_
  refine z_if_ne (tgt := 12) dX11_fault_1 (by decide) (fun c_1 => ?_) (fun c_1 => ?_)
  · refine z_iload_n dX11_fault_12 rfl ?_
    refine z_iconst (v := nI 1) dX11_fault_13 rfl ?_
    refine z_icmp_ne (tgt := 27) dX11_fault_14 (by decide) (fun c_14 => ?_) (fun c_14 => ?_)
    · refine z_iconst (v := (-1)) dX11_fault_27 rfl ?_
      refine z_ireturn dX11_fault_28 (Nat.le_of_ble_eq_true rfl) (Nat.le_of_ble_eq_true rfl) rfl ?_
      exact ⟨by first | rw [o_fault, if_neg c_1, if_pos c_14] | (rw [o_fault, if_neg c_1, if_neg c_14] <;> rfl), rfl, rfl, zEq.rf, h0⟩
    · refine z_aload_n dX11_fault_17 rfl ?_
      refine z_getR dX11_fault_18 fX11_30 (by first | assumption | exact And.left (by assumption)) rfl ?_
      refine z_getIe dX11_fault_21 fX11_167 (by first | assumption | exact And.left (by assumption)) rfl k4.1.1.2.2 ?_
      refine z_goto (tgt := 28) dX11_fault_24 (by decide) ?_
      refine z_ireturn dX11_fault_28 (Nat.le_of_ble_eq_true rfl) (Nat.le_of_ble_eq_true rfl) rfl ?_
      exact ⟨by first | rw [o_fault, if_neg c_1, if_pos c_14] | (rw [o_fault, if_neg c_1, if_neg c_14] <;> rfl), rfl, rfl, zEq.rf, h0⟩
  · refine z_aload_n dX11_fault_4 rfl ?_
    refine z_getR dX11_fault_5 fX11_30 (by first | assumption | exact And.left (by assumption)) rfl ?_
    refine z_getIe dX11_fault_8 fX11_160 (by first | assumption | exact And.left (by assumption)) rfl k4.1.1.2.1 ?_
    refine z_ireturn dX11_fault_11 (Nat.le_of_ble_eq_true rfl) (Nat.le_of_ble_eq_true rfl) rfl ?_
    exact ⟨by rw [o_fault, if_pos c_1] <;> rfl, rfl, rfl, zEq.rf, h0⟩

set_option maxHeartbeats 4000000 in
set_option maxRecDepth 100000 in
theorem s_rem2 {D : zD} {z0 nx : Nat} {L : zL} {V : zV} {a : Nat} {sw : Bool} {w : Wo} (hs : sLI L a sw) (h : LI V a sw w) {d : Df} (hd : DF V (a + 64) d) : Sp D z0 6 0 0 mX11_remember [.ref a] L V nx (zq none L nx (fun V' => zEq V V' a (a + 471) ∧ LI V' a sw (wrem w) ∧ DF V' (a + 64) d)) := by
  have hs0 := hs
  have h0 := h
  obtain ⟨l1, l2, l3, l4, l5, l6, l7, l8, l9, l10, l11, l12⟩ := hs
  obtain ⟨k1, k2, k3, k4, k5, k6, k7, k8⟩ := h
  have l20 := l2
  obtain ⟨s1, s2, s3, s4, s5, s6, s7⟩ := l2
  have k10 := k1
  obtain ⟨v1, v2, v3, v4⟩ := k1
  obtain ⟨u1, u2, el, u3, u4, u5, u6⟩ := k2
  refine Sp.of 0 (by decide) rfl rfl (Nat.le_of_ble_eq_true rfl) ?_
  refine z_aload_n dX11_remember_0 rfl ?_
  refine z_getR dX11_remember_1 fX11_16 (by first | assumption | exact And.left (by assumption)) rfl ?_
  refine z_aload_n dX11_remember_4 rfl ?_
  refine z_getIe dX11_remember_5 fX11_331 (by first | assumption | exact And.left (by assumption)) rfl (by first | assumption | exact zup_s _ _ _ _ | rfl) ?_
  refine z_aload_n dX11_remember_8 rfl ?_
  refine z_getIe dX11_remember_9 fX11_328 (by first | assumption | exact And.left (by assumption)) rfl (by first | assumption | exact zup_s _ _ _ _ | rfl) ?_
  refine z_addN dX11_remember_12 ?_
  refine z_bipush (v := nI 8) dX11_remember_13 rfl ?_
  refine z_remN dX11_remember_15 (by omega) (by omega) (by omega) ?_
  have q1 := e8_at a ((el + w.2.1.length) % 8) (by omega)
  have p1 := l11 ((el + w.2.1.length) % 8) (by omega)
  obtain ⟨sx, hsx⟩ := u5 ((el + w.2.1.length) % 8) (by omega)
  refine z_aaldN dX11_remember_16 (by first | assumption | exact And.left (by assumption)) (fun _ => rfl) (by exact Nat.le_of_ble_eq_true rfl) (by assumption) ?_
  refine z_aload_n dX11_remember_17 rfl ?_
  refine z_getR dX11_remember_18 fX11_10 (by first | assumption | exact And.left (by assumption)) rfl ?_
  refine z_callV1w dX11_remember_21 kX7_copyFrom lX11_334 (by first | assumption | exact And.left (by assumption)) rfl (s_STcopy p1 hsx l20 k10 (by omega)) (Nat.le_of_ble_eq_true rfl) (Nat.le_of_ble_eq_true rfl) ⟨Nat.le_of_ble_eq_true rfl, Nat.le_of_ble_eq_true rfl⟩ ?_
  intro V1 hV1
  obtain ⟨e1, t1⟩ := hV1
  have hd1 := hd.eq e1 (by omega)
  have g2 : V1 a 2 = nI el := by rw [e1 a (by omega)]; exact u4
  have g3 : V1 a 3 = nI w.2.1.length := by rw [e1 a (by omega)]; exact u2
  have j1 := k10.eq e1 (by omega)
  have j3 := k3.eq e1 (by omega) (by omega)
  have j4 := k4.1.eq e1 (by omega)
  have j6 := k6.eq e1 (by omega) (by omega)
  obtain ⟨d0, k70⟩ := k7
  obtain ⟨l, k80⟩ := k8
  have j7 := k70.eq e1 (by omega)
  have j8 := k80.eq e1 (by omega)
  refine z_aload_n dX11_remember_24 rfl ?_
  refine z_getIe dX11_remember_25 fX11_328 (by first | assumption | exact And.left (by assumption)) rfl (by first | assumption | exact zup_s _ _ _ _ | rfl) ?_
  refine z_bipush (v := nI 8) dX11_remember_28 rfl ?_
  refine z_icmp_geN (tgt := 46) dX11_remember_30 (by decide) (by omega) (by omega) (fun c_30 => ?_) (fun c_30 => ?_)
  · refine z_aload_n dX11_remember_46 rfl ?_
    refine z_aload_n dX11_remember_47 rfl ?_
    refine z_getIe dX11_remember_48 fX11_331 (by first | assumption | exact And.left (by assumption)) rfl (by first | assumption | exact zup_s _ _ _ _ | rfl) ?_
    refine z_iconst (v := nI 1) dX11_remember_51 rfl ?_
    refine z_addN dX11_remember_52 ?_
    refine z_bipush (v := nI 8) dX11_remember_53 rfl ?_
    refine z_remN dX11_remember_55 (by omega) (by omega) (by omega) ?_
    refine z_putI dX11_remember_56 fX11_331 (by first | assumption | exact And.left (by assumption)) rfl ?_
    refine z_return dX11_remember_59 (Nat.le_of_ble_eq_true rfl) (Nat.le_of_ble_eq_true rfl) rfl ?_
    first
      | (have z := rem_A u1 u3 (by omega) e1 t1 g2 g3 j1 j3 ⟨j4, k4.2⟩ k5 j6 ⟨d0, j7⟩ ⟨l, j8⟩ u5 u6; exact ⟨rfl, rfl, rfl, z.1, z.2, hd1.eq (lo := a) (hi := a + 1) (zEq.rf.up (by omega) (by omega)) (by omega)⟩)
      | (have z := rem_B u1 u3 (by omega) e1 t1 g2 g3 j1 j3 ⟨j4, k4.2⟩ k5 j6 ⟨d0, j7⟩ ⟨l, j8⟩ u5 u6; exact ⟨rfl, rfl, rfl, z.1, z.2, hd1.eq (lo := a) (hi := a + 1) (zEq.rf.up (by omega) (by omega)) (by omega)⟩)
  · refine z_aload_n dX11_remember_33 rfl ?_
    refine z_dup dX11_remember_34 rfl ?_
    refine z_getIe dX11_remember_35 fX11_328 (by first | assumption | exact And.left (by assumption)) rfl (by first | assumption | exact zup_s _ _ _ _ | rfl) ?_
    refine z_iconst (v := nI 1) dX11_remember_38 rfl ?_
    refine z_addN dX11_remember_39 ?_
    refine z_putI dX11_remember_40 fX11_328 (by first | assumption | exact And.left (by assumption)) rfl ?_
    refine z_goto (tgt := 59) dX11_remember_43 (by decide) ?_
    refine z_return dX11_remember_59 (Nat.le_of_ble_eq_true rfl) (Nat.le_of_ble_eq_true rfl) rfl ?_
    first
      | (have z := rem_A u1 u3 (by omega) e1 t1 g2 g3 j1 j3 ⟨j4, k4.2⟩ k5 j6 ⟨d0, j7⟩ ⟨l, j8⟩ u5 u6; exact ⟨rfl, rfl, rfl, z.1, z.2, hd1.eq (lo := a) (hi := a + 1) (zEq.rf.up (by omega) (by omega)) (by omega)⟩)
      | (have z := rem_B u1 u3 (by omega) e1 t1 g2 g3 j1 j3 ⟨j4, k4.2⟩ k5 j6 ⟨d0, j7⟩ ⟨l, j8⟩ u5 u6; exact ⟨rfl, rfl, rfl, z.1, z.2, hd1.eq (lo := a) (hi := a + 1) (zEq.rf.up (by omega) (by omega)) (by omega)⟩)

set_option maxHeartbeats 4000000 in
set_option maxRecDepth 100000 in
theorem c_build {D : zD} {z0 nx : Nat} {L : zL} {V : zV} {a : Nat} {sw : Bool} {w : Wo} (hs : sLI L a sw) (h : LI V a sw w) {i : Int32} {n : Int32} : Sp D z0 9 0 0 mX11_build [.ref a, .int i, .int n] L V nx (zq (some (.int (o_build i n w).1)) L nx (fun V' => zEq V V' a (a + 471) ∧ LI V' a sw (o_build i n w).2)) := by
  have hs0 := hs
  have h0 := h
  obtain ⟨l1, l2, l3, l4, l5, l6, l7, l8, l9, l10, l11, l12⟩ := hs
  obtain ⟨k1, k2, k3, k4, k5, k6, k7, k8⟩ := h
  have l20 := l2
  obtain ⟨s1, s2, s3, s4, s5, s6, s7⟩ := l2
  have k10 := k1
  obtain ⟨v1, v2, v3, v4⟩ := k1
  obtain ⟨d, hd⟩ := k7
  have hl0 := k4.1.2.1
  refine Sp.of 1 (by decide) rfl rfl (Nat.le_of_ble_eq_true rfl) ?_
  refine z_iload_n dX11_build_0 rfl ?_
  refine z_callS1i dX11_build_1 kX11_isIndex lX11_144 s_isIx (Nat.le_of_ble_eq_true rfl) (Nat.le_of_ble_eq_true rfl) ⟨Nat.le_of_ble_eq_true rfl, Nat.le_of_ble_eq_true rfl⟩ ?_
  refine z_if_neB (tgt := 10) dX11_build_4 (by decide) (fun c_4 => ?_) (fun c_4 => ?_)
  · have hi2 := c_4
    refine z_iload_n dX11_build_10 rfl ?_
    refine z_if_lt (tgt := 25) dX11_build_11 (by decide) (fun c_11 => ?_) (fun c_11 => ?_)
    · refine z_bipush (v := (-3)) dX11_build_25 rfl ?_
      refine z_ireturn dX11_build_27 (Nat.le_of_ble_eq_true rfl) (Nat.le_of_ble_eq_true rfl) rfl ?_
      rw [show o_build i n w = (-3, w) from by unfold o_build; rw [cif_y c_4]; rw [cif_n (by first | exact rng_n1 (by unfold tpb; omega) c_11 | exact rng_gt (by unfold tpb; omega) c_22)]]
      exact ⟨rfl, rfl, rfl, zEq.rf, h0⟩
    · refine z_iload_n dX11_build_14 rfl ?_
      refine z_aload_n dX11_build_15 rfl ?_
      refine z_getR dX11_build_16 fX11_30 (by first | assumption | exact And.left (by assumption)) rfl ?_
      refine z_getIe dX11_build_19 fX11_138 (by first | assumption | exact And.left (by assumption)) rfl k4.1.1.1 ?_
      refine z_icmp_le (tgt := 28) dX11_build_22 (by decide) (fun c_22 => ?_) (fun c_22 => ?_)
      · have c_n : rng ((tpb w).length + 1) n := rng_le (n := (tpb w).length) (by unfold tpb; omega) c_11 c_22
        have hR : o_build i n w = (if (xof w (tn i)).1.1 = 0 then bld (tn i) (tn n) w else (-5, w)) := by unfold o_build; rw [cif_y c_4, cif_y c_n]
        obtain ⟨j, hj, rfl⟩ := c_n
        have hJ : tn (nI j) = j := tn_k (by unfold tpb at hj; omega)
        obtain ⟨k, hk, rfl⟩ := c_4
        have hT := tn_k (k := k) (by omega)
        have q1 := i2_at (a + 1) k (by omega)
        have p1 := s7 k (by omega)
        have p2 := p1.1
        have x0 := v4 k (by omega)
        obtain ⟨⟨⟨x1, x2, x3, x4, x5⟩, x6, x7, x8, x9, x10⟩, xd, xe, xn, xl⟩ := v4 k (by omega)
        rw [hT, hJ] at hR
        refine z_aload_n dX11_build_28 rfl ?_
        refine z_getR dX11_build_29 fX11_10 (by first | assumption | exact And.left (by assumption)) rfl ?_
        refine z_getR dX11_build_32 fX11_147 (by first | assumption | exact And.left (by assumption)) rfl ?_
        refine z_iload_n dX11_build_35 rfl ?_
        refine z_aaldN dX11_build_36 (by first | assumption | exact And.left (by assumption)) (fun _ => rfl) (by exact Nat.le_of_ble_eq_true rfl) (by assumption) ?_
        refine z_astore_n dX11_build_37 (Nat.le_of_ble_eq_true rfl) rfl ?_
        refine z_aload_n dX11_build_38 rfl ?_
        refine z_getIe dX11_build_39 fX11_151 (by first | assumption | exact And.left (by assumption)) rfl (by first | assumption | exact zup_s _ _ _ _ | rfl) ?_
        refine z_if_eqN (tgt := 48) dX11_build_42 (by decide) (by omega) (fun c_42 => ?_) (fun c_42 => ?_)
        · refine z_aload_n dX11_build_48 rfl ?_
          refine z_getR dX11_build_49 fX11_30 (by first | assumption | exact And.left (by assumption)) rfl ?_
          refine z_iload_n dX11_build_52 rfl ?_
          refine z_aload_n dX11_build_53 rfl ?_
          refine z_getR dX11_build_54 fX11_47 (by first | assumption | exact And.left (by assumption)) rfl ?_
          refine z_callV2q dX11_build_57 kX8_readDefinition lX11_156 (by first | assumption | exact And.left (by assumption)) rfl (s_rD l6 k4.1 (by unfold tpb at hj; omega) l9 (by omega) hd) (Nat.le_of_ble_eq_true rfl) (Nat.le_of_ble_eq_true rfl) ⟨Nat.le_of_ble_eq_true rfl, Nat.le_of_ble_eq_true rfl⟩ ?_
          intro V5 hV5
          obtain ⟨f5, a5, d5⟩ := hV5
          have hlt := rD_lt ((tpb w).take j)
          have t5 := TP_PRS a5
          have g5 : LI V5 a sw (setTp w [] (rD ((tpb w).take j)).1 (if (rD ((tpb w).take j)).1 = 0 then -1 else nI (rD ((tpb w).take j)).2.1)) := LI_build h0 f5 t5 hlt ⟨_, d5⟩
          have z5 : zEq V V5 a (a + 471) := fun q hq => f5 q (by omega) (by omega)
          clear h0
          refine z_if_neB (tgt := 74) dX11_build_60 (by decide) (fun c_60 => ?_) (fun c_60 => ?_)
          · have c_9 : (rD ((tpb w).take j)).1 = 0 := c_60
            rw [c_9, if_pos rfl] at g5
            have h0 := g5
            refine z_aload_n dX11_build_74 rfl ?_
            refine z_callV0w dX11_build_75 kX11_remember lX11_72 (by first | assumption | exact And.left (by assumption)) rfl (s_rem2 hs0 h0 d5) (Nat.le_of_ble_eq_true rfl) (Nat.le_of_ble_eq_true rfl) ⟨Nat.le_of_ble_eq_true rfl, Nat.le_of_ble_eq_true rfl⟩ ?_
            intro V1 hV1
            obtain ⟨e1, h0, d6⟩ := hV1
            have k10 : ST V1 (a + 1) w.1 := h0.1
            have k11 := k10
            obtain ⟨v1, v2, v3, v4⟩ := k11
            refine z_aload_n dX11_build_78 rfl ?_
            refine z_aload_n dX11_build_79 rfl ?_
            refine z_getR dX11_build_80 fX11_47 (by first | assumption | exact And.left (by assumption)) rfl ?_
            refine z_aload_n dX11_build_83 rfl ?_
            refine z_getR dX11_build_84 fX11_10 (by first | assumption | exact And.left (by assumption)) rfl ?_
            refine z_getIe dX11_build_87 fX11_75 (by first | assumption | exact And.left (by assumption)) rfl v1.1 ?_
            have hsq := v1.2.2.2.1
            refine z_callV2w dX11_build_90 kX3_start lX11_163 (by first | assumption | exact And.left (by assumption)) rfl (s_startX p1 (v4 k (by omega)) l9 d6 (by omega) (by omega)) (Nat.le_of_ble_eq_true rfl) (Nat.le_of_ble_eq_true rfl) ⟨Nat.le_of_ble_eq_true rfl, Nat.le_of_ble_eq_true rfl⟩ ?_
            intro V2 hV2
            have n2 := hV2.2.1.1.2.1
            obtain ⟨r1, r2⟩ := s7 k (by omega)
            refine z_aload_n dX11_build_93 rfl ?_
            refine z_getIe dX11_build_94 fX11_166 (by first | assumption | exact And.left (by assumption)) rfl n2 ?_
            refine z_ireturn dX11_build_97 (Nat.le_of_ble_eq_true rfl) (Nat.le_of_ble_eq_true rfl) rfl ?_
            rw [hR, if_pos (show (xof w k).1.1 = 0 from c_42), bld, if_pos c_9]
            exact ⟨rfl, rfl, rfl, (z5.trans e1).trans (hV2.1.wide (by omega) (by omega)), LI_st h0 (hV2.1.wide (by omega) (by omega)) (ST_ix k10 (by omega) hV2.1 hV2.2)⟩
          · refine z_bipush (v := (-30)) dX11_build_63 rfl ?_
            refine z_aload_n dX11_build_65 rfl ?_
            refine z_getR dX11_build_66 fX11_30 (by first | assumption | exact And.left (by assumption)) rfl ?_
            refine z_getIe dX11_build_69 fX11_160 (by first | assumption | exact And.left (by assumption)) rfl t5.1.2.1 ?_
            refine z_isub dX11_build_72 ?_
            refine z_ireturn dX11_build_73 (Nat.le_of_ble_eq_true rfl) (Nat.le_of_ble_eq_true rfl) rfl ?_
            have c_9 : ¬ (rD ((tpb w).take j)).1 = 0 := c_60
            rw [if_neg c_9] at g5
            rw [hR, if_pos (show (xof w k).1.1 = 0 from c_42), bld, if_neg c_9]
            exact ⟨rfl, rfl, rfl, z5, g5⟩
        · refine z_bipush (v := (-5)) dX11_build_45 rfl ?_
          refine z_ireturn dX11_build_47 (Nat.le_of_ble_eq_true rfl) (Nat.le_of_ble_eq_true rfl) rfl ?_
          rw [hR, if_neg (show ¬ (xof w k).1.1 = 0 from c_42)]
          exact ⟨rfl, rfl, rfl, zEq.rf, h0⟩
      · refine z_bipush (v := (-3)) dX11_build_25 rfl ?_
        refine z_ireturn dX11_build_27 (Nat.le_of_ble_eq_true rfl) (Nat.le_of_ble_eq_true rfl) rfl ?_
        rw [show o_build i n w = (-3, w) from by unfold o_build; rw [cif_y c_4]; rw [cif_n (by first | exact rng_n1 (by unfold tpb; omega) c_11 | exact rng_gt (by unfold tpb; omega) c_22)]]
        exact ⟨rfl, rfl, rfl, zEq.rf, h0⟩
  · refine z_bipush (v := (-2)) dX11_build_7 rfl ?_
    refine z_ireturn dX11_build_9 (Nat.le_of_ble_eq_true rfl) (Nat.le_of_ble_eq_true rfl) rfl ?_
    rw [show o_build i n w = (-2, w) from by unfold o_build; rw [cif_n c_4]]
    exact ⟨rfl, rfl, rfl, zEq.rf, h0⟩

theorem rng_lt1 {x : Int32} (h : x < nI 1) (q : rng 201 x ∧ ¬ x = 0) : False := by
  obtain ⟨⟨k, hk, rfl⟩, h0⟩ := q
  have : ¬ k = 0 := fun e => h0 (by rw [e]; rfl)
  exact absurd h (Int32.not_lt.mpr (nI_le (by omega) (by omega)))
theorem rng_12 {x : Int32} (h1 : ¬ x < nI 1) (h2 : x ≤ nI 200) : rng 201 x ∧ ¬ x = 0 := by
  have h0 : ¬ x < 0 := fun q => h1 (Int32.lt_trans q (by decide))
  refine ⟨rng_le (n := 200) (by decide) h0 h2, fun q => h1 (by rw [q]; decide)⟩
theorem uit_n {v : Vs} {sh mo n : Nat} {x : Ix} (h : ¬ und x) : uit v sh mo n x = x := by
  cases n with
  | zero => rfl
  | succ n => rw [uit, cif_n h]
theorem xUnit_b {v : Vs} {sh mo : Nat} {x : Ix} (h1 : x.1.1 = 1 → x.1.2.2.1 < 48) : ((xUnit v sh mo x).1.1 = 1 → (xUnit v sh mo x).1.2.2.1 < 48) ∧ (xUnit v sh mo x).1.2.2.2.1 ≤ x.1.2.2.2.1 + 1 := by
  have hinc : ∀ q : Option Nat, (xInc q x).1 = x.1 := fun q => by cases q <;> rfl
  unfold xUnit
  split
  · rename_i h
    have h2 := h1 h
    unfold xScan
    split
    · constructor
      · intro q
        exact absurd q (by show ¬ (2 : Nat) = 1; decide)
      · show (xInc _ x).1.2.2.2.1 + 1 ≤ _
        rw [hinc]
        exact Nat.le_refl _
    · rename_i hn
      constructor
      · intro _
        show (xInc _ x).1.2.2.1 + 1 < 48
        rw [hinc]
        omega
      · show (xInc _ x).1.2.2.2.1 ≤ _
        rw [hinc]
        omega
  · rename_i h
    split
    · exact ⟨fun q => absurd q h, Nat.le_succ _⟩
    · split
      · constructor
        · intro q
          exfalso
          have h9 : (xJudge x).1.1 = 1 := q
          unfold xJudge at h9
          simp only at h9
          split at h9 <;> omega
        · exact Nat.le_succ _
      · split
        · unfold xEnd
          split
          · exact ⟨fun q => absurd q (by show ¬ (3 : Nat) = 1; decide), Nat.le_succ _⟩
          · split
            · exact ⟨fun q => absurd q (by show ¬ (0 : Nat) = 1; decide), Nat.zero_le _⟩
            · exact ⟨fun q => absurd q h, Nat.le_refl _⟩
        · exact ⟨fun q => absurd q h, Nat.le_succ _⟩
theorem setX_setX (S : St) (i : Nat) (x y : Ix) : setX (setX S i x) i y = setX S i y := by
  have : up1 (up1 S.2.2.2 i x) i y = up1 S.2.2.2 i y := by
    funext q
    simp only [up1]
    split <;> rfl
  unfold setX
  rw [this]
theorem setX_self (S : St) (i : Nat) : setX S i (S.2.2.2 i) = S := by
  have : up1 S.2.2.2 i (S.2.2.2 i) = S.2.2.2 := by
    funext q
    simp only [up1]
    split
    · rename_i h; rw [h]
    · rfl
  unfold setX
  rw [this]

set_option maxHeartbeats 4000000 in
set_option maxRecDepth 100000 in
theorem lp_work {D : zD} {z0 nx : Nat} {L : zL} {V : zV} {a k n : Nat} {sw : Bool} {w : Wo} {x0 : Ix} (hs : sLI L a sw) (hk : k < 2) (hn : n < 1000) : ∀ (fu : Nat) (j : Nat) (V1 : zV) (y : Ix), n - j = fu → j ≤ n → zEq V V1 a (a + 471) → LI V1 a sw (wst w (setX w.1 k y)) → uit w.1.2.1 w.1.1.2.1 w.1.1.2.2 (n - j) y = uit w.1.2.1 w.1.1.2.1 w.1.1.2.2 n x0 → (y.1.1 = 1 → y.1.2.2.1 < 48) → y.1.2.2.2.1 + (n - j) < 900000 → Z D z0 9 0 0 mX11_work 0 0 52 [some (.ref a), some (.int (nI k)), some (.int (nI n)), some (.ref (a + 1 + 16 + 12 * k)), some (.int (nI j))] [] L V1 nx (zq (some (.int (nI (uit w.1.2.1 w.1.1.2.1 w.1.1.2.2 n x0).1.1))) L nx (fun V' => zEq V V' a (a + 471) ∧ LI V' a sw (wst w (setX w.1 k (uit w.1.2.1 w.1.1.2.1 w.1.1.2.2 n x0))))) := by
  intro fu
  induction fu using Nat.strongRecOn with
  | ind fu ih =>
    intro j V1 y h_fu h_0 h_1 h_2 h_3 h_4 h_5
    have hs0 := hs
    have h0 := h_2
    obtain ⟨l1, l2, l3, l4, l5, l6, l7, l8, l9, l10, l11, l12⟩ := hs
    have k10 : ST V1 (a + 1) (setX w.1 k y) := h_2.1
    have k11 : STn V1 (a + 1) w.1.1 ∧ VE V1 (a + 1 + 1) w.1.2.1 ∧ (∀ t, t < 4 → TR V1 (a + 1 + 8 + 2 * t) (w.1.2.2.1 t)) ∧ ∀ i, i < 2 → IX V1 (a + 1 + 16 + 12 * i) (up1 w.1.2.2.2 k y i) := k10
    have l20 := l2
    obtain ⟨s1, s2, s3, s4, s5, s6, s7⟩ := l2
    obtain ⟨v1, v2, v3, v4⟩ := k11
    have x0k := v4 k hk
    rw [up1_s] at x0k
    have p1 := s7 k hk
    obtain ⟨p2, p3⟩ := s7 k hk
    have y1 := x0k.1.1.1
    have y2 := x0k.1.2.1
    obtain ⟨v11, v12, v13, v14, v15, v16, v17⟩ := v1
    refine z_iload dX11_work_52 rfl ?_
    refine z_iload_n dX11_work_54 rfl ?_
    refine z_icmp_geN (tgt := 96) dX11_work_55 (by decide) (by omega) (by omega) (fun c_55 => ?_) (fun c_55 => ?_)
    · have eF : uit w.1.2.1 w.1.1.2.1 w.1.1.2.2 n x0 = y := by
        rw [← h_3, show n - j = 0 by omega] <;> rfl
      refine z_aload_n dX11_work_96 rfl ?_
      refine z_getIe dX11_work_97 fX11_151 (by first | assumption | exact And.left (by assumption)) rfl (by first | assumption | exact zup_s _ _ _ _ | rfl) ?_
      refine z_ireturn dX11_work_100 (Nat.le_of_ble_eq_true rfl) (Nat.le_of_ble_eq_true rfl) rfl ?_
      rw [eF]
      exact ⟨rfl, rfl, rfl, h_1, h0⟩
    · refine z_aload_n dX11_work_58 rfl ?_
      refine z_callV0i dX11_work_59 kX3_isUnderWay lX11_170 (by first | assumption | exact And.left (by assumption)) rfl (s_under p1 x0k) (Nat.le_of_ble_eq_true rfl) (Nat.le_of_ble_eq_true rfl) ⟨Nat.le_of_ble_eq_true rfl, Nat.le_of_ble_eq_true rfl⟩ ?_
      refine z_if_eqB (tgt := 96) dX11_work_62 (by decide) (fun c_62 => ?_) (fun c_62 => ?_)
      · have eF : uit w.1.2.1 w.1.1.2.1 w.1.1.2.2 n x0 = y := by
          rw [← h_3]
          exact uit_n (show ¬ und y from c_62)
        refine z_aload_n dX11_work_96 rfl ?_
        refine z_getIe dX11_work_97 fX11_151 (by first | assumption | exact And.left (by assumption)) rfl (by first | assumption | exact zup_s _ _ _ _ | rfl) ?_
        refine z_ireturn dX11_work_100 (Nat.le_of_ble_eq_true rfl) (Nat.le_of_ble_eq_true rfl) rfl ?_
        rw [eF]
        exact ⟨rfl, rfl, rfl, h_1, h0⟩
      · refine z_aload_n dX11_work_65 rfl ?_
        refine z_aload_n dX11_work_66 rfl ?_
        refine z_getR dX11_work_67 fX11_10 (by first | assumption | exact And.left (by assumption)) rfl ?_
        refine z_getR dX11_work_70 fX11_174 (by first | assumption | exact And.left (by assumption)) rfl ?_
        refine z_aload_n dX11_work_73 rfl ?_
        refine z_getR dX11_work_74 fX11_10 (by first | assumption | exact And.left (by assumption)) rfl ?_
        refine z_getIe dX11_work_77 fX11_178 (by first | assumption | exact And.left (by assumption)) rfl (by first | assumption | exact zup_s _ _ _ _ | rfl) ?_
        refine z_aload_n dX11_work_80 rfl ?_
        refine z_getR dX11_work_81 fX11_10 (by first | assumption | exact And.left (by assumption)) rfl ?_
        refine z_getIe dX11_work_84 fX11_181 (by first | assumption | exact And.left (by assumption)) rfl (by first | assumption | exact zup_s _ _ _ _ | rfl) ?_
        refine z_callV3w dX11_work_87 kX3_doUnit lX11_184 (by first | assumption | exact And.left (by assumption)) rfl (s_doUnit p1 x0k s2 v2 (by omega) h_4 (by omega) (by omega) (by omega)) (Nat.le_of_ble_eq_true rfl) (Nat.le_of_ble_eq_true rfl) ⟨Nat.le_of_ble_eq_true rfl, Nat.le_of_ble_eq_true rfl⟩ ?_
        intro V2 hV2
        have hub := xUnit_b (v := w.1.2.1) (sh := w.1.1.2.1) (mo := w.1.1.2.2) h_4
        have eU : uit w.1.2.1 w.1.1.2.1 w.1.1.2.2 (n - j) y = uit w.1.2.1 w.1.1.2.1 w.1.1.2.2 (n - (j + 1)) (xUnit w.1.2.1 w.1.1.2.1 w.1.1.2.2 y) := by
          rw [show n - j = (n - (j + 1)) + 1 by omega, uit, cif_y (show und y from c_62)]
        refine z_incN dX11_work_90 rfl rfl ?_
        refine z_goto (tgt := 52) dX11_work_93 (by decide) ?_
        have hz := LI_st (s := setX w.1 k (xUnit w.1.2.1 w.1.1.2.1 w.1.1.2.2 y)) h0 (hV2.1.wide (by omega) (by omega)) (by rw [← setX_setX w.1 k y]; exact ST_ix k10 hk hV2.1 hV2.2)
        exact ih _ (by omega) (j + 1) V2 _ rfl (by omega) (h_1.trans (hV2.1.wide (by omega) (by omega))) hz (by rw [← eU]; exact h_3) hub.1 (by have := hub.2; omega)

set_option maxHeartbeats 4000000 in
set_option maxRecDepth 100000 in
theorem c_work {D : zD} {z0 nx : Nat} {L : zL} {V : zV} {a : Nat} {sw : Bool} {w : Wo} (hs : sLI L a sw) (h : LI V a sw w) {i : Int32} {n : Int32} (hnr : ∀ k, k < 2 → ((xof w k).1.1 = 1 → (xof w k).1.2.2.1 < 48) ∧ (xof w k).1.2.2.2.1 < 800000) : Sp D z0 9 0 0 mX11_work [.ref a, .int i, .int n] L V nx (zq (some (.int (o_work i n w).1)) L nx (fun V' => zEq V V' a (a + 471) ∧ LI V' a sw (o_work i n w).2)) := by
  have hs0 := hs
  have h0 := h
  obtain ⟨l1, l2, l3, l4, l5, l6, l7, l8, l9, l10, l11, l12⟩ := hs
  obtain ⟨k1, k2, k3, k4, k5, k6, k7, k8⟩ := h
  have l20 := l2
  obtain ⟨s1, s2, s3, s4, s5, s6, s7⟩ := l2
  have k10 := k1
  obtain ⟨v1, v2, v3, v4⟩ := k1
  refine Sp.of 2 (by decide) rfl rfl (Nat.le_of_ble_eq_true rfl) ?_
  refine z_iload_n dX11_work_0 rfl ?_
  refine z_callS1i dX11_work_1 kX11_isIndex lX11_144 s_isIx (Nat.le_of_ble_eq_true rfl) (Nat.le_of_ble_eq_true rfl) ⟨Nat.le_of_ble_eq_true rfl, Nat.le_of_ble_eq_true rfl⟩ ?_
  refine z_if_neB (tgt := 10) dX11_work_4 (by decide) (fun c_4 => ?_) (fun c_4 => ?_)
  · refine z_iload_n dX11_work_10 rfl ?_
    refine z_iconst (v := nI 1) dX11_work_11 rfl ?_
    refine z_icmp_lt (tgt := 22) dX11_work_12 (by decide) (fun c_12 => ?_) (fun c_12 => ?_)
    · refine z_bipush (v := (-3)) dX11_work_22 rfl ?_
      refine z_ireturn dX11_work_24 (Nat.le_of_ble_eq_true rfl) (Nat.le_of_ble_eq_true rfl) rfl ?_
      rw [show o_work i n w = (-3, w) from by unfold o_work; rw [cif_y c_4]; rw [cif_n (fun q => by first | exact rng_lt1 c_12 q | exact rng_gt (by decide) c_19 q.1)]]
      exact ⟨rfl, rfl, rfl, zEq.rf, h0⟩
    · refine z_iload_n dX11_work_15 rfl ?_
      refine z_sipush (v := nI 200) dX11_work_16 rfl ?_
      refine z_icmp_le (tgt := 25) dX11_work_19 (by decide) (fun c_19 => ?_) (fun c_19 => ?_)
      · have c_n : rng 201 n ∧ ¬ n = 0 := rng_12 c_12 c_19
        have hR : o_work i n w = cif (und (xof w (tn i))) (nI (wrk w (tn i) (tn n)).1.1, wst w (setX w.1 (tn i) (wrk w (tn i) (tn n)))) (-5, w) := by unfold o_work; rw [cif_y c_4, cif_y c_n]
        obtain ⟨⟨j, hj, rfl⟩, hj0⟩ := c_n
        obtain ⟨k, hk, rfl⟩ := c_4
        have hT := tn_k (k := k) (by omega)
        have q1 := i2_at (a + 1) k (by omega)
        have p1 := s7 k (by omega)
        have p2 := p1.1
        have x0 := v4 k (by omega)
        obtain ⟨⟨⟨x1, x2, x3, x4, x5⟩, x6, x7, x8, x9, x10⟩, xd, xe, xn, xl⟩ := v4 k (by omega)
        rw [hT, tn_k (k := j) (by omega)] at hR
        have hnr2 := hnr k hk
        refine z_aload_n dX11_work_25 rfl ?_
        refine z_getR dX11_work_26 fX11_10 (by first | assumption | exact And.left (by assumption)) rfl ?_
        refine z_getR dX11_work_29 fX11_147 (by first | assumption | exact And.left (by assumption)) rfl ?_
        refine z_iload_n dX11_work_32 rfl ?_
        refine z_aaldN dX11_work_33 (by first | assumption | exact And.left (by assumption)) (fun _ => rfl) (by exact Nat.le_of_ble_eq_true rfl) (by assumption) ?_
        refine z_astore_n dX11_work_34 (Nat.le_of_ble_eq_true rfl) rfl ?_
        refine z_aload_n dX11_work_35 rfl ?_
        refine z_callV0i dX11_work_36 kX3_isUnderWay lX11_170 (by first | assumption | exact And.left (by assumption)) rfl (s_under p1 x0) (Nat.le_of_ble_eq_true rfl) (Nat.le_of_ble_eq_true rfl) ⟨Nat.le_of_ble_eq_true rfl, Nat.le_of_ble_eq_true rfl⟩ ?_
        refine z_if_neB (tgt := 45) dX11_work_39 (by decide) (fun c_39 => ?_) (fun c_39 => ?_)
        · refine z_aload_n dX11_work_45 rfl ?_
          refine z_callV0w dX11_work_46 kX11_remember lX11_72 (by first | assumption | exact And.left (by assumption)) rfl (s_rem hs0 h0) (Nat.le_of_ble_eq_true rfl) (Nat.le_of_ble_eq_true rfl) ⟨Nat.le_of_ble_eq_true rfl, Nat.le_of_ble_eq_true rfl⟩ ?_
          intro V1 hV1
          obtain ⟨e1, h0⟩ := hV1
          refine z_iconst (v := nI 0) dX11_work_49 rfl ?_
          refine z_istore dX11_work_50 (Nat.le_of_ble_eq_true rfl) rfl ?_
          rw [hR, cif_y (show und (xof w k) from c_39)]
          have hz := lp_work (D := D) (z0 := z0) (nx := nx) (V := V) (w := w) (x0 := xof w k) hs0 hk (n := j) (by omega) _ 0 V1 (xof w k) rfl (by omega) e1 (by rw [show setX w.1 k (xof w k) = w.1 from setX_self _ _]; exact h0) (by rw [Nat.sub_zero]) hnr2.1 (by have := hnr2.2; omega)
          exact hz
        · refine z_bipush (v := (-5)) dX11_work_42 rfl ?_
          refine z_ireturn dX11_work_44 (Nat.le_of_ble_eq_true rfl) (Nat.le_of_ble_eq_true rfl) rfl ?_
          rw [hR, cif_n (show ¬ und (xof w k) from c_39)]
          exact ⟨rfl, rfl, rfl, zEq.rf, h0⟩
      · refine z_bipush (v := (-3)) dX11_work_22 rfl ?_
        refine z_ireturn dX11_work_24 (Nat.le_of_ble_eq_true rfl) (Nat.le_of_ble_eq_true rfl) rfl ?_
        rw [show o_work i n w = (-3, w) from by unfold o_work; rw [cif_y c_4]; rw [cif_n (fun q => by first | exact rng_lt1 c_12 q | exact rng_gt (by decide) c_19 q.1)]]
        exact ⟨rfl, rfl, rfl, zEq.rf, h0⟩
  · refine z_bipush (v := (-2)) dX11_work_7 rfl ?_
    refine z_ireturn dX11_work_9 (Nat.le_of_ble_eq_true rfl) (Nat.le_of_ble_eq_true rfl) rfl ?_
    rw [show o_work i n w = (-2, w) from by unfold o_work; rw [cif_n c_4]]
    exact ⟨rfl, rfl, rfl, zEq.rf, h0⟩

set_option maxHeartbeats 4000000 in
set_option maxRecDepth 100000 in
theorem c_takeUp {D : zD} {z0 nx : Nat} {L : zL} {V : zV} {a : Nat} {sw : Bool} {w : Wo} (hs : sLI L a sw) (h : LI V a sw w) {i : Int32} (hnr : ∀ k, k < 2 → ((xof w k).1.1 = 1 → (xof w k).1.2.2.1 < 48) ∧ (xof w k).1.2.2.2.1 < 800000) : Sp D z0 7 0 0 mX11_takeUp [.ref a, .int i] L V nx (zq (some (.int (o_takeUp i w).1)) L nx (fun V' => zEq V V' a (a + 471) ∧ LI V' a sw (o_takeUp i w).2)) := by
  have hs0 := hs
  have h0 := h
  obtain ⟨l1, l2, l3, l4, l5, l6, l7, l8, l9, l10, l11, l12⟩ := hs
  obtain ⟨k1, k2, k3, k4, k5, k6, k7, k8⟩ := h
  have l20 := l2
  obtain ⟨s1, s2, s3, s4, s5, s6, s7⟩ := l2
  have k10 := k1
  obtain ⟨v1, v2, v3, v4⟩ := k1
  refine Sp.of 1 (by decide) rfl rfl (Nat.le_of_ble_eq_true rfl) ?_
  refine z_iload_n dX11_takeUp_0 rfl ?_
  refine z_callS1i dX11_takeUp_1 kX11_isIndex lX11_144 s_isIx (Nat.le_of_ble_eq_true rfl) (Nat.le_of_ble_eq_true rfl) ⟨Nat.le_of_ble_eq_true rfl, Nat.le_of_ble_eq_true rfl⟩ ?_
  refine z_if_neB (tgt := 10) dX11_takeUp_4 (by decide) (fun c_4 => ?_) (fun c_4 => ?_)
  · obtain ⟨k, hk, rfl⟩ := c_4
    have hT := tn_k (k := k) (by omega)
    have q1 := i2_at (a + 1) k (by omega)
    have p1 := s7 k (by omega)
    have p2 := p1.1
    have x0 := v4 k (by omega)
    obtain ⟨⟨⟨x1, x2, x3, x4, x5⟩, x6, x7, x8, x9, x10⟩, xd, xe, xn, xl⟩ := v4 k (by omega)
    refine z_aload_n dX11_takeUp_10 rfl ?_
    refine z_getR dX11_takeUp_11 fX11_10 (by first | assumption | exact And.left (by assumption)) rfl ?_
    refine z_getR dX11_takeUp_14 fX11_147 (by first | assumption | exact And.left (by assumption)) rfl ?_
    refine z_iload_n dX11_takeUp_17 rfl ?_
    refine z_aaldN dX11_takeUp_18 (by first | assumption | exact And.left (by assumption)) (fun _ => rfl) (by exact Nat.le_of_ble_eq_true rfl) (by assumption) ?_
    refine z_astore_n dX11_takeUp_19 (Nat.le_of_ble_eq_true rfl) rfl ?_
    refine z_aload_n dX11_takeUp_20 rfl ?_
    refine z_getIe dX11_takeUp_21 fX11_151 (by first | assumption | exact And.left (by assumption)) rfl (by first | assumption | exact zup_s _ _ _ _ | rfl) ?_
    refine z_iconst (v := nI 5) dX11_takeUp_24 rfl ?_
    refine z_icmp_eqN (tgt := 31) dX11_takeUp_25 (by decide) (by omega) (by omega) (fun c_25 => ?_) (fun c_25 => ?_)
    · refine z_aload_n dX11_takeUp_31 rfl ?_
      refine z_callV0w dX11_takeUp_32 kX11_remember lX11_72 (by first | assumption | exact And.left (by assumption)) rfl (s_rem hs0 h0) (Nat.le_of_ble_eq_true rfl) (Nat.le_of_ble_eq_true rfl) ⟨Nat.le_of_ble_eq_true rfl, Nat.le_of_ble_eq_true rfl⟩ ?_
      intro V1 hV1
      obtain ⟨e1, h0⟩ := hV1
      have k10 : ST V1 (a + 1) w.1 := h0.1
      have k11 := k10
      obtain ⟨v1, v2, v3, v4⟩ := k11
      refine z_aload_n dX11_takeUp_35 rfl ?_
      refine z_callV0w dX11_takeUp_36 kX3_goOn lX11_188 (by first | assumption | exact And.left (by assumption)) rfl (s_goOn p1 (v4 k (by omega)) (by have := (hnr k hk).2; unfold xof at this; omega)) (Nat.le_of_ble_eq_true rfl) (Nat.le_of_ble_eq_true rfl) ⟨Nat.le_of_ble_eq_true rfl, Nat.le_of_ble_eq_true rfl⟩ ?_
      intro V2 hV2
      have n2 := hV2.2.1.1.2.2.2.1
      obtain ⟨r1, r2⟩ := s7 k (by omega)
      refine z_aload_n dX11_takeUp_39 rfl ?_
      refine z_getIe dX11_takeUp_40 fX11_191 (by first | assumption | exact And.left (by assumption)) rfl n2 ?_
      refine z_ireturn dX11_takeUp_43 (Nat.le_of_ble_eq_true rfl) (Nat.le_of_ble_eq_true rfl) rfl ?_
      rw [show o_takeUp (nI k) w = (nI (xGo (xof w k)).1.2.2.2.1, wst w (setX w.1 k (xGo (xof w k)))) from by unfold o_takeUp; rw [cif_y (rng_k hk), hT, if_pos (show (xof w k).1.1 = 5 from c_25)]]
      exact ⟨rfl, rfl, rfl, e1.trans (hV2.1.wide (by omega) (by omega)), LI_st h0 (hV2.1.wide (by omega) (by omega)) (ST_ix k10 (by omega) hV2.1 hV2.2)⟩
    · refine z_bipush (v := (-5)) dX11_takeUp_28 rfl ?_
      refine z_ireturn dX11_takeUp_30 (Nat.le_of_ble_eq_true rfl) (Nat.le_of_ble_eq_true rfl) rfl ?_
      rw [show o_takeUp (nI k) w = (-5, w) from by unfold o_takeUp; rw [cif_y (rng_k hk)]; rw [hT]; rw [if_neg (show ¬ (xof w k).1.1 = 5 from c_25)]]
      exact ⟨rfl, rfl, rfl, zEq.rf, h0⟩
  · refine z_bipush (v := (-2)) dX11_takeUp_7 rfl ?_
    refine z_ireturn dX11_takeUp_9 (Nat.le_of_ble_eq_true rfl) (Nat.le_of_ble_eq_true rfl) rfl ?_
    rw [show o_takeUp i w = (-2, w) from by unfold o_takeUp; rw [cif_n c_4]]
    exact ⟨rfl, rfl, rfl, zEq.rf, h0⟩

set_option maxHeartbeats 4000000 in
set_option maxRecDepth 100000 in
theorem c_giveUp {D : zD} {z0 nx : Nat} {L : zL} {V : zV} {a : Nat} {sw : Bool} {w : Wo} (hs : sLI L a sw) (h : LI V a sw w) {i : Int32} : Sp D z0 7 0 0 mX11_giveUp [.ref a, .int i] L V nx (zq (some (.int (o_giveUp i w).1)) L nx (fun V' => zEq V V' a (a + 471) ∧ LI V' a sw (o_giveUp i w).2)) := by
  have hs0 := hs
  have h0 := h
  obtain ⟨l1, l2, l3, l4, l5, l6, l7, l8, l9, l10, l11, l12⟩ := hs
  obtain ⟨k1, k2, k3, k4, k5, k6, k7, k8⟩ := h
  have l20 := l2
  obtain ⟨s1, s2, s3, s4, s5, s6, s7⟩ := l2
  have k10 := k1
  obtain ⟨v1, v2, v3, v4⟩ := k1
  refine Sp.of 2 (by decide) rfl rfl (Nat.le_of_ble_eq_true rfl) ?_
  refine z_iload_n dX11_giveUp_0 rfl ?_
  refine z_callS1i dX11_giveUp_1 kX11_isIndex lX11_144 s_isIx (Nat.le_of_ble_eq_true rfl) (Nat.le_of_ble_eq_true rfl) ⟨Nat.le_of_ble_eq_true rfl, Nat.le_of_ble_eq_true rfl⟩ ?_
  refine z_if_neB (tgt := 10) dX11_giveUp_4 (by decide) (fun c_4 => ?_) (fun c_4 => ?_)
  · obtain ⟨k, hk, rfl⟩ := c_4
    have hT := tn_k (k := k) (by omega)
    have q1 := i2_at (a + 1) k (by omega)
    have p1 := s7 k (by omega)
    have p2 := p1.1
    have x0 := v4 k (by omega)
    obtain ⟨⟨⟨x1, x2, x3, x4, x5⟩, x6, x7, x8, x9, x10⟩, xd, xe, xn, xl⟩ := v4 k (by omega)
    refine z_aload_n dX11_giveUp_10 rfl ?_
    refine z_getR dX11_giveUp_11 fX11_10 (by first | assumption | exact And.left (by assumption)) rfl ?_
    refine z_getR dX11_giveUp_14 fX11_147 (by first | assumption | exact And.left (by assumption)) rfl ?_
    refine z_iload_n dX11_giveUp_17 rfl ?_
    refine z_aaldN dX11_giveUp_18 (by first | assumption | exact And.left (by assumption)) (fun _ => rfl) (by exact Nat.le_of_ble_eq_true rfl) (by assumption) ?_
    refine z_astore_n dX11_giveUp_19 (Nat.le_of_ble_eq_true rfl) rfl ?_
    refine z_aload_n dX11_giveUp_20 rfl ?_
    refine z_getIe dX11_giveUp_21 fX11_151 (by first | assumption | exact And.left (by assumption)) rfl (by first | assumption | exact zup_s _ _ _ _ | rfl) ?_
    refine z_if_neN (tgt := 30) dX11_giveUp_24 (by decide) (by omega) (fun c_24 => ?_) (fun c_24 => ?_)
    · refine z_aload_n dX11_giveUp_30 rfl ?_
      refine z_callV0w dX11_giveUp_31 kX11_remember lX11_72 (by first | assumption | exact And.left (by assumption)) rfl (s_rem hs0 h0) (Nat.le_of_ble_eq_true rfl) (Nat.le_of_ble_eq_true rfl) ⟨Nat.le_of_ble_eq_true rfl, Nat.le_of_ble_eq_true rfl⟩ ?_
      intro V1 hV1
      obtain ⟨e1, h0⟩ := hV1
      have k10 : ST V1 (a + 1) w.1 := h0.1
      have k11 := k10
      obtain ⟨v1, v2, v3, v4⟩ := k11
      have n2 := (v4 k (by omega)).1.1.1
      refine z_aload_n dX11_giveUp_34 rfl ?_
      refine z_getIe dX11_giveUp_35 fX11_151 (by first | assumption | exact And.left (by assumption)) rfl n2 ?_
      refine z_istore_n dX11_giveUp_38 (Nat.le_of_ble_eq_true rfl) rfl ?_
      refine z_aload_n dX11_giveUp_39 rfl ?_
      refine z_iconst (v := nI 1) dX11_giveUp_40 rfl ?_
      refine z_callV1w dX11_giveUp_41 kX3_drop lX11_194 (by first | assumption | exact And.left (by assumption)) rfl (s_drop p1 (v4 k (by omega)) (by omega)) (Nat.le_of_ble_eq_true rfl) (Nat.le_of_ble_eq_true rfl) ⟨Nat.le_of_ble_eq_true rfl, Nat.le_of_ble_eq_true rfl⟩ ?_
      intro V2 hV2
      refine z_iload_n dX11_giveUp_44 rfl ?_
      refine z_ireturn dX11_giveUp_45 (Nat.le_of_ble_eq_true rfl) (Nat.le_of_ble_eq_true rfl) rfl ?_
      rw [show o_giveUp (nI k) w = (nI (xof w k).1.1, wst w (setX w.1 k (xClear 1))) from by unfold o_giveUp; rw [cif_y (rng_k hk), hT, if_neg (show ¬ (xof w k).1.1 = 0 from c_24)]]
      exact ⟨rfl, rfl, rfl, e1.trans (hV2.1.wide (by omega) (by omega)), LI_st h0 (hV2.1.wide (by omega) (by omega)) (ST_ix k10 (by omega) hV2.1 hV2.2)⟩
    · refine z_bipush (v := (-5)) dX11_giveUp_27 rfl ?_
      refine z_ireturn dX11_giveUp_29 (Nat.le_of_ble_eq_true rfl) (Nat.le_of_ble_eq_true rfl) rfl ?_
      rw [show o_giveUp (nI k) w = (-5, w) from by unfold o_giveUp; rw [cif_y (rng_k hk)]; rw [hT]; rw [if_pos (show (xof w k).1.1 = 0 from c_24)]]
      exact ⟨rfl, rfl, rfl, zEq.rf, h0⟩
  · refine z_bipush (v := (-2)) dX11_giveUp_7 rfl ?_
    refine z_ireturn dX11_giveUp_9 (Nat.le_of_ble_eq_true rfl) (Nat.le_of_ble_eq_true rfl) rfl ?_
    rw [show o_giveUp i w = (-2, w) from by unfold o_giveUp; rw [cif_n c_4]]
    exact ⟨rfl, rfl, rfl, zEq.rf, h0⟩

