/-! SortedCodes, on: codes, include, exclude, twins -/
theorem getD_ins (l : List Nat) (x p k : Nat) (hp : p ≤ l.length) : (l.take p ++ x :: l.drop p).getD k 0 = if k < p then l.getD k 0 else if k = p then x else l.getD (k - 1) 0 := by
  simp only [List.getD_eq_getElem?_getD]
  have hlen : (l.take p).length = p := by simp; omega
  split
  · rename_i h
    rw [List.getElem?_append_left (by omega), List.getElem?_take_of_lt h]
  · rename_i h
    rw [List.getElem?_append_right (by omega), hlen]
    split
    · rename_i h2
      subst h2
      simp
    · rename_i h2
      obtain ⟨j, rfl⟩ : ∃ j, k = p + 1 + j := ⟨k - p - 1, by omega⟩
      rw [show p + 1 + j - p = j + 1 by omega, show p + 1 + j - 1 = p + j by omega]
      simp [List.getElem?_drop]
theorem getD_era (l : List Nat) (p k : Nat) : (l.eraseIdx p).getD k 0 = if k < p then l.getD k 0 else l.getD (k + 1) 0 := by
  simp only [List.getD_eq_getElem?_getD, List.getElem?_eraseIdx]
  split <;> rfl
theorem SC_ins {V : zV} {a p x : Nat} {l : List Nat} (h : SC V a l) (hp : p ≤ l.length) (hl : l.length < 48) (hx : x < 2147483648) : SC (zup (zup (zset V (a + 1) (va_cpy (V (a + 1)) (V (a + 1)) p (p + 1) (l.length - p))) (a + 1) p (nI x)) a 1 (nI (l.length + 1))) a (l.take p ++ x :: l.drop p) := by
  have hlen : (l.take p ++ x :: l.drop p).length = l.length + 1 := by simp; omega
  refine ⟨by rw [zup_s, hlen], fun k hk => ?_, by omega, fun c hc => ?_⟩
  · rw [hlen] at hk
    rw [zup_a (by omega), getD_ins l x p k hp]
    by_cases e : k = p
    · subst e
      rw [zup_s, if_neg (by omega), if_pos rfl]
    · rw [zup_k e, zset_s]
      unfold va_cpy
      split
      · rename_i g
        rw [if_neg (show ¬ k < p by omega), show p + (k - (p + 1)) = k - 1 by omega]
        try rw [if_neg e]
        exact h.2.1 _ (by omega)
      · rename_i g
        rw [if_pos (by omega)]
        exact h.2.1 _ (by omega)
  · rcases List.mem_append.mp hc with q | q
    · exact h.2.2.2 c (List.mem_of_mem_take q)
    · rcases List.mem_cons.mp q with rfl | q
      · exact hx
      · exact h.2.2.2 c (List.mem_of_mem_drop q)
theorem SC_era {V : zV} {a p : Nat} {l : List Nat} (h : SC V a l) (hp : p < l.length) : SC (zset (zup V a 1 (nI (l.length - 1))) (a + 1) (va_cpy (zup V a 1 (nI (l.length - 1)) (a + 1)) (zup V a 1 (nI (l.length - 1)) (a + 1)) (p + 1) p (l.length - 1 - p))) a (l.eraseIdx p) := by
  have hlen : (l.eraseIdx p).length = l.length - 1 := by rw [List.length_eraseIdx, if_pos hp]
  refine ⟨by rw [zset_a (by omega), zup_s, hlen], fun k hk => ?_, by have := h.2.2.1; omega, fun c hc => h.2.2.2 c (List.mem_of_mem_eraseIdx hc)⟩
  rw [hlen] at hk
  rw [zset_s, zup_a (by omega), getD_era]
  unfold va_cpy
  split
  · rename_i g
    rw [if_neg (by omega), show p + 1 + (k - p) = k + 1 by omega]
    exact h.2.1 _ (by omega)
  · rename_i g
    rw [if_pos (by omega)]
    exact h.2.1 _ (by omega)

set_option maxHeartbeats 4000000 in
set_option maxRecDepth 100000 in
theorem s_codeOf {D : zD} {z0 nx : Nat} {L : zL} {V : zV} {r w : Nat} (h1 : r < 33554432) (h2 : w < 64) : Sp D z0 1 0 0 mX6_codeOf [.int (nI r), .int (nI w)] L V nx (zi (nI (r * 64 + w)) L V nx) := by
  refine Sp.of 0 (by decide) rfl rfl (Nat.le_of_ble_eq_true rfl) ?_
  refine z_iload_n dX6_codeOf_0 rfl ?_
  refine z_bipush (v := nI 6) dX6_codeOf_1 rfl ?_
  refine z_shlN dX6_codeOf_3 (by decide) (by omega) ?_
  refine z_iload_n dX6_codeOf_4 rfl ?_
  refine z_orN dX6_codeOf_5 (by omega) ?_
  refine z_ireturn dX6_codeOf_6 (Nat.le_of_ble_eq_true rfl) (Nat.le_of_ble_eq_true rfl) rfl ?_
  exact zi_r rfl

set_option maxHeartbeats 4000000 in
set_option maxRecDepth 100000 in
theorem s_rowIn {D : zD} {z0 nx : Nat} {L : zL} {V : zV} {c : Nat} (h1 : c < 2147483648) : Sp D z0 1 0 0 mX6_rowIn [.int (nI c)] L V nx (zi (nI (c % 64)) L V nx) := by
  refine Sp.of 0 (by decide) rfl rfl (Nat.le_of_ble_eq_true rfl) ?_
  refine z_iload_n dX6_rowIn_0 rfl ?_
  refine z_bipush (v := nI 63) dX6_rowIn_1 rfl ?_
  refine z_andN (j := 6) dX6_rowIn_3 (by decide) (by omega) ?_
  refine z_ireturn dX6_rowIn_4 (Nat.le_of_ble_eq_true rfl) (Nat.le_of_ble_eq_true rfl) rfl ?_
  exact zi_r rfl

set_option maxHeartbeats 4000000 in
set_option maxRecDepth 100000 in
theorem s_rankIn {D : zD} {z0 nx : Nat} {L : zL} {V : zV} {c : Nat} (h1 : c < 2147483648) : Sp D z0 1 0 0 mX6_rankIn [.int (nI c)] L V nx (zi (nI (c / 64)) L V nx) := by
  refine Sp.of 0 (by decide) rfl rfl (Nat.le_of_ble_eq_true rfl) ?_
  refine z_iload_n dX6_rankIn_0 rfl ?_
  refine z_bipush (v := nI 6) dX6_rankIn_1 rfl ?_
  refine z_shrN dX6_rankIn_3 (by decide) (by omega) ?_
  refine z_ireturn dX6_rankIn_4 (Nat.le_of_ble_eq_true rfl) (Nat.le_of_ble_eq_true rfl) rfl ?_
  exact zi_r rfl

set_option maxHeartbeats 4000000 in
set_option maxRecDepth 100000 in
theorem s_SCclear {D : zD} {z0 nx : Nat} {L : zL} {V : zV} {a : Nat} (hs : sSC L a) : Sp D z0 1 0 0 mX6_clearAll [.ref a] L V nx (zq none L nx (fun V' => zEq V V' a (a + 2) ∧ SC V' a [])) := by
  obtain ⟨h1, h2⟩ := hs
  refine Sp.of 0 (by decide) rfl rfl (Nat.le_of_ble_eq_true rfl) ?_
  refine z_aload_n dX6_clearAll_0 rfl ?_
  refine z_iconst (v := nI 0) dX6_clearAll_1 rfl ?_
  refine z_putI dX6_clearAll_2 fX6_15 (by first | assumption | exact And.left (by assumption)) rfl ?_
  refine z_return dX6_clearAll_5 (Nat.le_of_ble_eq_true rfl) (Nat.le_of_ble_eq_true rfl) rfl ?_
  exact ⟨rfl, rfl, rfl, zEq.rf.up (by omega) (by omega), by rw [zup_s]; rfl, fun k hk => absurd hk (by simp), by simp, fun c hc => by simp at hc⟩

set_option maxHeartbeats 4000000 in
set_option maxRecDepth 100000 in
theorem s_SCcopy {D : zD} {z0 nx : Nat} {L : zL} {V : zV} {a b : Nat} {l : List Nat} (hs : sSC L a) (hs2 : sSC L b) (hl : SC V b l) (hab : a + 2 ≤ b ∨ b + 2 ≤ a) : Sp D z0 1 0 0 mX6_copyFrom [.ref a, .ref b] L V nx (zq none L nx (fun V' => zEq V V' a (a + 2) ∧ SC V' a l)) := by
  obtain ⟨h1, h2⟩ := hs
  obtain ⟨h3, h4⟩ := hs2
  have hn := hl.1
  refine Sp.of 0 (by decide) rfl rfl (Nat.le_of_ble_eq_true rfl) ?_
  refine z_aload_n dX6_copyFrom_0 rfl ?_
  refine z_getR dX6_copyFrom_1 fX6_9 (by first | assumption | exact And.left (by assumption)) rfl ?_
  refine z_iconst (v := nI 0) dX6_copyFrom_4 rfl ?_
  refine z_aload_n dX6_copyFrom_5 rfl ?_
  refine z_getR dX6_copyFrom_6 fX6_9 (by first | assumption | exact And.left (by assumption)) rfl ?_
  refine z_iconst (v := nI 0) dX6_copyFrom_9 rfl ?_
  refine z_bipush (v := nI 48) dX6_copyFrom_10 rfl ?_
  refine z_copyN dX6_copyFrom_12 lX6_19 w_ac_n w_ac_s w_sys (by assumption) (by assumption) (by decide) (by decide) (by omega) (by omega) (Nat.le_of_ble_eq_true rfl) (Nat.le_of_ble_eq_true rfl) ?_
  refine z_aload_n dX6_copyFrom_15 rfl ?_
  refine z_aload_n dX6_copyFrom_16 rfl ?_
  refine z_getIe dX6_copyFrom_17 fX6_15 (by first | assumption | exact And.left (by assumption)) rfl ((congrFun (zset_a (by omega)) _).trans hn) ?_
  refine z_putI dX6_copyFrom_20 fX6_15 (by first | assumption | exact And.left (by assumption)) rfl ?_
  refine z_return dX6_copyFrom_23 (Nat.le_of_ble_eq_true rfl) (Nat.le_of_ble_eq_true rfl) rfl ?_
  exact ⟨rfl, rfl, rfl, (zEq.rf.set (by omega) (by omega)).up (by omega) (by omega), by rw [zup_s], fun k hk => by rw [zup_a (by omega), zset_s, va_cpy, if_pos (by have := hl.2.2.1; omega), show 0 + (k - 0) = k by omega]; exact hl.2.1 k hk, hl.2.2⟩

set_option maxHeartbeats 4000000 in
set_option maxRecDepth 100000 in
theorem s_include {D : zD} {z0 nx : Nat} {L : zL} {V : zV} {a xc : Nat} {l : List Nat} (hs : sSC L a) (hl : SC V a l) (hx : xc < 2147483648) : Sp D z0 2 0 0 mX6_include [.ref a, .int (nI xc)] L V nx (zq none L nx (fun V' => zEq V V' a (a + 2) ∧ SC V' a (inc xc l))) := by
  have hs0 := hs
  obtain ⟨h1, h2⟩ := hs
  have hn := hl.1
  have hn48 := hl.2.2.1
  have hp := pl_le xc l
  refine Sp.of 1 (by decide) rfl rfl (Nat.le_of_ble_eq_true rfl) ?_
  refine z_aload_n dX6_include_0 rfl ?_
  refine z_iload_n dX6_include_1 rfl ?_
  refine z_callV1i dX6_include_2 kX6_placeFor lX6_25 (by first | assumption | exact And.left (by assumption)) rfl (s_placeFor (by assumption) (by assumption) (by assumption)) (Nat.le_of_ble_eq_true rfl) (Nat.le_of_ble_eq_true rfl) ⟨Nat.le_of_ble_eq_true rfl, Nat.le_of_ble_eq_true rfl⟩ ?_
  refine z_istore_n dX6_include_5 (Nat.le_of_ble_eq_true rfl) rfl ?_
  refine z_aload_n dX6_include_6 rfl ?_
  refine z_getIe dX6_include_7 fX6_15 (by first | assumption | exact And.left (by assumption)) rfl (by first | assumption | exact zup_s _ _ _ _ | rfl) ?_
  refine z_bipush (v := nI 48) dX6_include_10 rfl ?_
  refine z_icmp_geN (tgt := 33) dX6_include_12 (by decide) (by omega) (by omega) (fun c_12 => ?_) (fun c_12 => ?_)
  · refine z_return dX6_include_33 (Nat.le_of_ble_eq_true rfl) (Nat.le_of_ble_eq_true rfl) rfl ?_
    exact ⟨rfl, rfl, rfl, zEq.rf, by rw [inc, if_pos (by omega)]; exact hl⟩
  · refine z_iload_n dX6_include_15 rfl ?_
    refine z_aload_n dX6_include_16 rfl ?_
    refine z_getIe dX6_include_17 fX6_15 (by first | assumption | exact And.left (by assumption)) rfl (by first | assumption | exact zup_s _ _ _ _ | rfl) ?_
    refine z_icmp_geN (tgt := 34) dX6_include_20 (by decide) (by omega) (by omega) (fun c_20 => ?_) (fun c_20 => ?_)
    · refine z_aload_n dX6_include_34 rfl ?_
      refine z_getR dX6_include_35 fX6_9 (by first | assumption | exact And.left (by assumption)) rfl ?_
      refine z_iload_n dX6_include_38 rfl ?_
      refine z_aload_n dX6_include_39 rfl ?_
      refine z_getR dX6_include_40 fX6_9 (by first | assumption | exact And.left (by assumption)) rfl ?_
      refine z_iload_n dX6_include_43 rfl ?_
      refine z_iconst (v := nI 1) dX6_include_44 rfl ?_
      refine z_addN dX6_include_45 ?_
      refine z_aload_n dX6_include_46 rfl ?_
      refine z_getIe dX6_include_47 fX6_15 (by first | assumption | exact And.left (by assumption)) rfl (by first | assumption | exact zup_s _ _ _ _ | rfl) ?_
      refine z_iload_n dX6_include_50 rfl ?_
      refine z_subN dX6_include_51 (by omega) ?_
      refine z_copyN dX6_include_52 lX6_19 w_ac_n w_ac_s w_sys (by assumption) (by assumption) (by decide) (by decide) (by omega) (by omega) (Nat.le_of_ble_eq_true rfl) (Nat.le_of_ble_eq_true rfl) ?_
      refine z_aload_n dX6_include_55 rfl ?_
      refine z_getR dX6_include_56 fX6_9 (by first | assumption | exact And.left (by assumption)) rfl ?_
      refine z_iload_n dX6_include_59 rfl ?_
      refine z_iload_n dX6_include_60 rfl ?_
      refine z_iastN dX6_include_61 (by first | assumption | exact And.left (by assumption)) (by omega) (by decide) ?_
      refine z_aload_n dX6_include_62 rfl ?_
      refine z_dup dX6_include_63 rfl ?_
      refine z_getIe dX6_include_64 fX6_15 (by first | assumption | exact And.left (by assumption)) rfl ((congrFun ((zup_a (by omega)).trans (zset_a (by omega))) _).trans hn) ?_
      refine z_iconst (v := nI 1) dX6_include_67 rfl ?_
      refine z_addN dX6_include_68 ?_
      refine z_putI dX6_include_69 fX6_15 (by first | assumption | exact And.left (by assumption)) rfl ?_
      refine z_return dX6_include_72 (Nat.le_of_ble_eq_true rfl) (Nat.le_of_ble_eq_true rfl) rfl ?_
      exact ⟨rfl, rfl, rfl, ((zEq.rf.set (by omega) (by omega)).up (by omega) (by omega)).up (by omega) (by omega), by rw [inc, if_neg (by omega)]; exact SC_ins hl hp (by omega) hx⟩
    · refine z_aload_n dX6_include_23 rfl ?_
      refine z_getR dX6_include_24 fX6_9 (by first | assumption | exact And.left (by assumption)) rfl ?_
      refine z_iload_n dX6_include_27 rfl ?_
      refine z_ialdN dX6_include_28 (by first | assumption | exact And.left (by assumption)) (by omega) (by decide) (hl.2.1 _ (by omega)) ?_
      refine z_iload_n dX6_include_29 rfl ?_
      have hb1 := hl.lt (k := pl xc l) (by omega)
      refine z_icmp_neN (tgt := 34) dX6_include_30 (by decide) (by omega) (by omega) (fun c_30 => ?_) (fun c_30 => ?_)
      · refine z_aload_n dX6_include_34 rfl ?_
        refine z_getR dX6_include_35 fX6_9 (by first | assumption | exact And.left (by assumption)) rfl ?_
        refine z_iload_n dX6_include_38 rfl ?_
        refine z_aload_n dX6_include_39 rfl ?_
        refine z_getR dX6_include_40 fX6_9 (by first | assumption | exact And.left (by assumption)) rfl ?_
        refine z_iload_n dX6_include_43 rfl ?_
        refine z_iconst (v := nI 1) dX6_include_44 rfl ?_
        refine z_addN dX6_include_45 ?_
        refine z_aload_n dX6_include_46 rfl ?_
        refine z_getIe dX6_include_47 fX6_15 (by first | assumption | exact And.left (by assumption)) rfl (by first | assumption | exact zup_s _ _ _ _ | rfl) ?_
        refine z_iload_n dX6_include_50 rfl ?_
        refine z_subN dX6_include_51 (by omega) ?_
        refine z_copyN dX6_include_52 lX6_19 w_ac_n w_ac_s w_sys (by assumption) (by assumption) (by decide) (by decide) (by omega) (by omega) (Nat.le_of_ble_eq_true rfl) (Nat.le_of_ble_eq_true rfl) ?_
        refine z_aload_n dX6_include_55 rfl ?_
        refine z_getR dX6_include_56 fX6_9 (by first | assumption | exact And.left (by assumption)) rfl ?_
        refine z_iload_n dX6_include_59 rfl ?_
        refine z_iload_n dX6_include_60 rfl ?_
        refine z_iastN dX6_include_61 (by first | assumption | exact And.left (by assumption)) (by omega) (by decide) ?_
        refine z_aload_n dX6_include_62 rfl ?_
        refine z_dup dX6_include_63 rfl ?_
        refine z_getIe dX6_include_64 fX6_15 (by first | assumption | exact And.left (by assumption)) rfl ((congrFun ((zup_a (by omega)).trans (zset_a (by omega))) _).trans hn) ?_
        refine z_iconst (v := nI 1) dX6_include_67 rfl ?_
        refine z_addN dX6_include_68 ?_
        refine z_putI dX6_include_69 fX6_15 (by first | assumption | exact And.left (by assumption)) rfl ?_
        refine z_return dX6_include_72 (Nat.le_of_ble_eq_true rfl) (Nat.le_of_ble_eq_true rfl) rfl ?_
        exact ⟨rfl, rfl, rfl, ((zEq.rf.set (by omega) (by omega)).up (by omega) (by omega)).up (by omega) (by omega), by rw [inc, if_neg (by omega)]; exact SC_ins hl hp (by omega) hx⟩
      · refine z_return dX6_include_33 (Nat.le_of_ble_eq_true rfl) (Nat.le_of_ble_eq_true rfl) rfl ?_
        exact ⟨rfl, rfl, rfl, zEq.rf, by rw [inc, if_pos (by omega)]; exact hl⟩

set_option maxHeartbeats 4000000 in
set_option maxRecDepth 100000 in
theorem s_exclude {D : zD} {z0 nx : Nat} {L : zL} {V : zV} {a xc : Nat} {l : List Nat} (hs : sSC L a) (hl : SC V a l) (hx : xc < 2147483648) : Sp D z0 2 0 0 mX6_exclude [.ref a, .int (nI xc)] L V nx (zq none L nx (fun V' => zEq V V' a (a + 2) ∧ SC V' a (exc xc l))) := by
  have hs0 := hs
  obtain ⟨h1, h2⟩ := hs
  have hn := hl.1
  have hn48 := hl.2.2.1
  have hp := pl_le xc l
  refine Sp.of 1 (by decide) rfl rfl (Nat.le_of_ble_eq_true rfl) ?_
  refine z_aload_n dX6_exclude_0 rfl ?_
  refine z_iload_n dX6_exclude_1 rfl ?_
  refine z_callV1i dX6_exclude_2 kX6_placeFor lX6_25 (by first | assumption | exact And.left (by assumption)) rfl (s_placeFor (by assumption) (by assumption) (by assumption)) (Nat.le_of_ble_eq_true rfl) (Nat.le_of_ble_eq_true rfl) ⟨Nat.le_of_ble_eq_true rfl, Nat.le_of_ble_eq_true rfl⟩ ?_
  refine z_istore_n dX6_exclude_5 (Nat.le_of_ble_eq_true rfl) rfl ?_
  refine z_iload_n dX6_exclude_6 rfl ?_
  refine z_aload_n dX6_exclude_7 rfl ?_
  refine z_getIe dX6_exclude_8 fX6_15 (by first | assumption | exact And.left (by assumption)) rfl (by first | assumption | exact zup_s _ _ _ _ | rfl) ?_
  refine z_icmp_geN (tgt := 24) dX6_exclude_11 (by decide) (by omega) (by omega) (fun c_11 => ?_) (fun c_11 => ?_)
  · refine z_return dX6_exclude_24 (Nat.le_of_ble_eq_true rfl) (Nat.le_of_ble_eq_true rfl) rfl ?_
    exact ⟨rfl, rfl, rfl, zEq.rf, by rw [exc, if_neg (by omega)]; exact hl⟩
  · refine z_aload_n dX6_exclude_14 rfl ?_
    refine z_getR dX6_exclude_15 fX6_9 (by first | assumption | exact And.left (by assumption)) rfl ?_
    refine z_iload_n dX6_exclude_18 rfl ?_
    refine z_ialdN dX6_exclude_19 (by first | assumption | exact And.left (by assumption)) (by omega) (by decide) (hl.2.1 _ (by omega)) ?_
    refine z_iload_n dX6_exclude_20 rfl ?_
    have hb1 := hl.lt (k := pl xc l) (by omega)
    refine z_icmp_eqN (tgt := 25) dX6_exclude_21 (by decide) (by omega) (by omega) (fun c_21 => ?_) (fun c_21 => ?_)
    · refine z_aload_n dX6_exclude_25 rfl ?_
      refine z_dup dX6_exclude_26 rfl ?_
      refine z_getIe dX6_exclude_27 fX6_15 (by first | assumption | exact And.left (by assumption)) rfl (by first | assumption | exact zup_s _ _ _ _ | rfl) ?_
      refine z_iconst (v := nI 1) dX6_exclude_30 rfl ?_
      refine z_subN dX6_exclude_31 (by omega) ?_
      refine z_putI dX6_exclude_32 fX6_15 (by first | assumption | exact And.left (by assumption)) rfl ?_
      refine z_aload_n dX6_exclude_35 rfl ?_
      refine z_getR dX6_exclude_36 fX6_9 (by first | assumption | exact And.left (by assumption)) rfl ?_
      refine z_iload_n dX6_exclude_39 rfl ?_
      refine z_iconst (v := nI 1) dX6_exclude_40 rfl ?_
      refine z_addN dX6_exclude_41 ?_
      refine z_aload_n dX6_exclude_42 rfl ?_
      refine z_getR dX6_exclude_43 fX6_9 (by first | assumption | exact And.left (by assumption)) rfl ?_
      refine z_iload_n dX6_exclude_46 rfl ?_
      refine z_aload_n dX6_exclude_47 rfl ?_
      refine z_getIe dX6_exclude_48 fX6_15 (by first | assumption | exact And.left (by assumption)) rfl (by first | assumption | exact zup_s _ _ _ _ | rfl) ?_
      refine z_iload_n dX6_exclude_51 rfl ?_
      refine z_subN dX6_exclude_52 (by omega) ?_
      refine z_copyN dX6_exclude_53 lX6_19 w_ac_n w_ac_s w_sys (by assumption) (by assumption) (by decide) (by decide) (by omega) (by omega) (Nat.le_of_ble_eq_true rfl) (Nat.le_of_ble_eq_true rfl) ?_
      refine z_return dX6_exclude_56 (Nat.le_of_ble_eq_true rfl) (Nat.le_of_ble_eq_true rfl) rfl ?_
      exact ⟨rfl, rfl, rfl, (zEq.rf.up (by omega) (by omega)).set (by omega) (by omega), by rw [exc, if_pos (by omega)]; exact SC_era hl (by omega)⟩
    · refine z_return dX6_exclude_24 (Nat.le_of_ble_eq_true rfl) (Nat.le_of_ble_eq_true rfl) rfl ?_
      exact ⟨rfl, rfl, rfl, zEq.rf, by rw [exc, if_neg (by omega)]; exact hl⟩

set_option maxHeartbeats 4000000 in
set_option maxRecDepth 100000 in
theorem s_sizeBelow {D : zD} {z0 nx : Nat} {L : zL} {V : zV} {a r : Nat} {l : List Nat} (hs : sSC L a) (hl : SC V a l) (hr : r < 33554432) : Sp D z0 2 0 0 mX6_sizeBelow [.ref a, .int (nI r)] L V nx (zi (nI (pl (r * 64) l)) L V nx) := by
  have hs0 := hs
  obtain ⟨h1, h2⟩ := hs
  refine Sp.of 0 (by decide) rfl rfl (Nat.le_of_ble_eq_true rfl) ?_
  refine z_aload_n dX6_sizeBelow_0 rfl ?_
  refine z_iload_n dX6_sizeBelow_1 rfl ?_
  refine z_iconst (v := nI 0) dX6_sizeBelow_2 rfl ?_
  refine z_callS2i dX6_sizeBelow_3 kX6_codeOf lX6_29 (s_codeOf (by omega) (by omega)) (Nat.le_of_ble_eq_true rfl) (Nat.le_of_ble_eq_true rfl) ⟨Nat.le_of_ble_eq_true rfl, Nat.le_of_ble_eq_true rfl⟩ ?_
  refine z_callV1i dX6_sizeBelow_6 kX6_placeFor lX6_25 (by first | assumption | exact And.left (by assumption)) rfl (s_placeFor (by assumption) (by assumption) (by omega)) (Nat.le_of_ble_eq_true rfl) (Nat.le_of_ble_eq_true rfl) ⟨Nat.le_of_ble_eq_true rfl, Nat.le_of_ble_eq_true rfl⟩ ?_
  refine z_ireturn dX6_sizeBelow_9 (Nat.le_of_ble_eq_true rfl) (Nat.le_of_ble_eq_true rfl) rfl ?_
  exact zi_r rfl

