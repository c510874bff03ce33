/-! the reference: what a transaction writes, ends; the calls about transactions -/
theorem MT_new {g : Nat → Int32} {b sn : Nat} {op : Bool} (h0 : g (b + 0) = zb (op = true)) (h1 : g (b + 1) = nI sn) (hs : sn < 1000000) (h2 : g (b + 2) = nI 0) : MT g b (op, sn, fun _ => none) :=
  ⟨h0, h1, hs, [], h2, by simp, cn_0 (fun k _ q => q rfl), fun k hk => absurd hk (by simp), fun j k _ hk => absurd hk (by simp), fun r _ x hx => by cases hx⟩
theorem wk_set {ws : List (Nat × Option Nat)} {k j : Nat} {x : Nat × Option Nat} (hk : k < ws.length) : wk (ws.set k x) j = if j = k then x else wk ws j := by
  unfold wk
  simp only [List.getD_eq_getElem?_getD, List.getElem?_set]
  by_cases e : k = j
  · subst e
    simp [hk]
  · rw [if_neg e, if_neg (fun q => e q.symm)]
theorem wk_snoc {ws : List (Nat × Option Nat)} {j : Nat} {x : Nat × Option Nat} (hj : j < ws.length + 1) : wk (ws ++ [x]) j = if j < ws.length then wk ws j else x := by
  unfold wk
  simp only [List.getD_eq_getElem?_getD]
  split
  · rename_i q; rw [List.getElem?_append_left q]
  · rename_i q; rw [List.getElem?_append_right (by omega), show j - ws.length = 0 by omega] <;> rfl
theorem tWr_s {t : Tr} {r : Nat} {v : Option Nat} : (tWr t r v).2.2 r = some v := if_pos rfl
theorem tWr_o {t : Tr} {r q : Nat} {v : Option Nat} (h : ¬ q = r) : (tWr t r v).2.2 q = t.2.2 q := if_neg h
theorem nwr_old {t : Tr} {r : Nat} {v : Option Nat} (h : t.2.2 r ≠ none) : nwr (tWr t r v) = nwr t := by
  unfold nwr
  refine cn_cg (fun k _ => ?_)
  by_cases e : k = r
  · subst e
    rw [tWr_s]
    exact ⟨fun _ => h, fun _ q => by cases q⟩
  · rw [tWr_o e]
theorem nwr_new {t : Tr} {r : Nat} {v : Option Nat} (hr : r < 48) (h : t.2.2 r = none) : nwr (tWr t r v) = nwr t + 1 := by
  unfold nwr
  refine cn_upd hr (fun k hk => ?_) (fun q => q h) (by rw [tWr_s]; simp)
  rw [tWr_o hk]
theorem MTw_old {f g : Nat → Int32} {b r : Nat} {ws : List (Nat × Option Nat)} {t : Tr} {v : Option Nat} (h : MTw f b ws t) (hr : r < 48) (hk : wpl ws r < ws.length) (e : ∀ j, b ≤ j → j < b + 43 → ¬ (b + 3 + 5 * wpl ws r ≤ j ∧ j < b + 3 + 5 * wpl ws r + 5) → g j = f j) (h0 : g (b + 3 + 5 * wpl ws r) = nI r) (ha : AT g (b + 3 + 5 * wpl ws r) v) : MTw g b (ws.set (wpl ws r) (r, v)) (tWr t r v) := by
  obtain ⟨y1, y2, y3⟩ := wpl_y h hk
  obtain ⟨h1, h2, h3, h4, h5, h6⟩ := h
  refine ⟨by rw [List.length_set, e _ (by omega) (by omega) (by omega)]; exact h1, by rw [List.length_set]; exact h2, by rw [List.length_set, nwr_old (by rw [y1]; simp)]; exact h3, fun k hk2 => ?_, fun j k hjk hk2 => ?_, fun q hq x hx => ?_⟩
  · rw [List.length_set] at hk2
    rw [wk_set hk]
    by_cases c : k = wpl ws r
    · subst c
      rw [if_pos rfl]
      exact ⟨h0, hr, ha, tWr_s⟩
    · rw [if_neg c]
      obtain ⟨j1, j2, j3, j4⟩ := h4 k hk2
      have hne : ¬ (wk ws k).1 = r := fun z => by
        rcases Nat.lt_or_ge k (wpl ws r) with q | q
        · exact h5 k (wpl ws r) q hk (by rw [z, y3])
        · exact h5 (wpl ws r) k (by omega) hk2 (by rw [z, y3])
      exact ⟨by rw [e _ (by omega) (by omega) (by omega)]; exact j1, j2, j3.cg (fun j a1 a2 => e j (by omega) (by omega) (by omega)), by rw [tWr_o hne]; exact j4⟩
  · rw [List.length_set] at hk2
    rw [wk_set hk, wk_set hk]
    by_cases c1 : j = wpl ws r
    · rw [if_pos c1, if_neg (by omega)]
      intro z
      exact h5 j k hjk hk2 (by rw [c1, y3]; exact z)
    · rw [if_neg c1]
      by_cases c2 : k = wpl ws r
      · rw [if_pos c2]
        intro z
        exact h5 j k hjk hk2 (by rw [c2, y3]; exact z)
      · rw [if_neg c2]
        exact h5 j k hjk hk2
  · by_cases c : q = r
    · subst c
      rw [tWr_s] at hx
      refine ⟨wpl ws q, by rw [List.length_set]; exact hk, ?_⟩
      rw [wk_set hk, if_pos rfl]
      rw [Option.some.inj hx]
    · rw [tWr_o c] at hx
      obtain ⟨k, k1, k2⟩ := h6 q hq x hx
      refine ⟨k, by rw [List.length_set]; exact k1, ?_⟩
      rw [wk_set hk, if_neg (fun z => c (by rw [z] at k2; rw [k2] at y3; exact y3))]
      exact k2
theorem MTw_new {f g : Nat → Int32} {b r : Nat} {ws : List (Nat × Option Nat)} {t : Tr} {v : Option Nat} (h : MTw f b ws t) (hr : r < 48) (hk : ¬ wpl ws r < ws.length) (h8 : ws.length < 8) (e : ∀ j, b ≤ j → j < b + 43 → j ≠ b + 2 → ¬ (b + 3 + 5 * ws.length ≤ j ∧ j < b + 3 + 5 * ws.length + 5) → g j = f j) (hn : g (b + 2) = nI (ws.length + 1)) (h0 : g (b + 3 + 5 * ws.length) = nI r) (ha : AT g (b + 3 + 5 * ws.length) v) : MTw g b (ws ++ [(r, v)]) (tWr t r v) := by
  have y1 := wpl_n h hr hk
  obtain ⟨h1, h2, h3, h4, h5, h6⟩ := h
  have hno : ∀ k, k < ws.length → ¬ (wk ws k).1 = r := fun k hk2 z => by
    obtain ⟨-, -, -, j4⟩ := h4 k hk2
    rw [z, y1] at j4
    cases j4
  refine ⟨by simp; exact hn, by simp; omega, by rw [nwr_new hr y1, h3]; simp, fun k hk2 => ?_, fun j k hjk hk2 => ?_, fun q hq x hx => ?_⟩
  · have hk3 : k < ws.length + 1 := by simpa using hk2
    rw [wk_snoc hk3]
    by_cases c : k < ws.length
    · rw [if_pos c]
      obtain ⟨j1, j2, j3, j4⟩ := h4 k c
      exact ⟨by rw [e _ (by omega) (by omega) (by omega) (by omega)]; exact j1, j2, j3.cg (fun j a1 a2 => e j (by omega) (by omega) (by omega) (by omega)), by rw [tWr_o (hno k c)]; exact j4⟩
    · rw [if_neg c, show k = ws.length by omega]
      exact ⟨h0, hr, ha, tWr_s⟩
  · have hk3 : k < ws.length + 1 := by simpa using hk2
    rw [wk_snoc hk3, wk_snoc (show j < ws.length + 1 by omega), if_pos (show j < ws.length by omega)]
    by_cases c : k < ws.length
    · rw [if_pos c]
      exact h5 j k hjk c
    · rw [if_neg c]
      exact hno j (by omega)
  · by_cases c : q = r
    · subst c
      rw [tWr_s] at hx
      refine ⟨ws.length, by simp, ?_⟩
      rw [wk_snoc (by omega), if_neg (by omega), Option.some.inj hx]
    · rw [tWr_o c] at hx
      obtain ⟨k, k1, k2⟩ := h6 q hq x hx
      refine ⟨k, by simp; omega, ?_⟩
      rw [wk_snoc (by omega), if_pos k1]
      exact k2
def vrg (v : Option Nat) (e a b c : Int32) : Prop := match v with
  | none => e = nI 0
  | some p => e = nI 1 ∧ p < 1000000 ∧ a = nI (pt p 0) ∧ b = nI (pt p 1) ∧ c = nI (pt p 2)
theorem AT_of {g : Nat → Int32} {p : Nat} {v : Option Nat} {e a b c : Int32} (h : vrg v e a b c) (h1 : g (p + 1) = e) (h2 : g (p + 2) = a) (h3 : g (p + 3) = b) (h4 : g (p + 4) = c) : AT g p v := by
  cases v with
  | none => exact h1.trans h
  | some q =>
    obtain ⟨e1, e2, e3, e4, e5⟩ := h
    refine ⟨h1.trans e1, e2, fun j hj => ?_⟩
    rcases (show j = 0 ∨ j = 1 ∨ j = 2 by omega) with rfl | rfl | rfl
    · exact h2.trans e3
    · exact h3.trans e4
    · exact h4.trans e5

set_option maxHeartbeats 4000000 in
set_option maxRecDepth 100000 in
theorem s_mWrites {D : zD} {z0 nx : Nat} {L : zL} {V : zV} {m t r : Nat} {s : St} {v : Option Nat} {e y1 y2 y3 : Int32} (hm : sM L m) (hB : MB (V (m + 1)) s) (ht : t < 4) (hr : r < 48) (hv : vrg v e y1 y2 y3) (hroom : (s.2.2.1 t).2.2 r ≠ none ∨ nwr (s.2.2.1 t) < 8) : Sp D z0 3 0 0 mX12_writes [.ref m, .int (nI t), .int (nI r), .int e, .int y1, .int y2, .int y3] L V nx (zq none L nx (fun V' => oA V V' m ∧ MB (V' (m + 1)) (setT s t (tWr (s.2.2.1 t) r v)))) := by
  have hm0 := hm
  have hB0 := hB
  obtain ⟨a0, a1, a2, a3, a4, a5, a6, a7, a8, a9, a10, a11, a12, a13, a14, a15⟩ := hm
  obtain ⟨x1, x2, x3, ws, xw⟩ := hB.2.2.1 t ht
  have xw0 := xw
  obtain ⟨w1, w2, w3, w4, w5, w6⟩ := xw
  have hnn := wpl_nn xw0 hr
  rw [w3] at hroom
  refine Sp.of 2 (by decide) rfl rfl (Nat.le_of_ble_eq_true rfl) ?_
  refine z_aload_n dX12_writes_0 rfl ?_
  refine z_iload_n dX12_writes_1 rfl ?_
  refine z_iload_n dX12_writes_2 rfl ?_
  refine z_callV2i dX12_writes_3 kX12_writeAt lX12_98 (by first | assumption | exact And.left (by assumption)) rfl (s_mWr hm0 ht hr xw0) (Nat.le_of_ble_eq_true rfl) (Nat.le_of_ble_eq_true rfl) ⟨Nat.le_of_ble_eq_true rfl, Nat.le_of_ble_eq_true rfl⟩ ?_
  refine z_istore dX12_writes_6 (Nat.le_of_ble_eq_true rfl) rfl ?_
  refine z_sipush (v := nI 1968) dX12_writes_8 rfl ?_
  refine z_bipush (v := nI 43) dX12_writes_11 rfl ?_
  refine z_iload_n dX12_writes_13 rfl ?_
  refine z_mulN dX12_writes_14 ?_
  refine z_addN dX12_writes_15 ?_
  refine z_istore dX12_writes_16 (Nat.le_of_ble_eq_true rfl) rfl ?_
  refine z_iload dX12_writes_18 rfl ?_
  refine z_iconst (v := (-1)) dX12_writes_20 rfl ?_
  refine z_icmp_ne (tgt := 55) dX12_writes_21 (by decide) (fun c_21 => ?_) (fun c_21 => ?_)
  · have hw : wpl ws r < ws.length := Classical.byContradiction (fun z => c_21 (if_neg z))
    rw [if_pos hw]
    refine z_aload_n dX12_writes_55 rfl ?_
    refine z_getR dX12_writes_56 fX12_13 (by first | assumption | exact And.left (by assumption)) rfl ?_
    refine z_iload dX12_writes_59 rfl ?_
    refine z_iload_n dX12_writes_61 rfl ?_
    refine z_iastN dX12_writes_62 (by first | assumption | exact And.left (by assumption)) (by omega) (by decide) ?_
    refine z_aload_n dX12_writes_63 rfl ?_
    refine z_getR dX12_writes_64 fX12_13 (by first | assumption | exact And.left (by assumption)) rfl ?_
    refine z_iload dX12_writes_67 rfl ?_
    refine z_iconst (v := nI 1) dX12_writes_69 rfl ?_
    refine z_addN dX12_writes_70 ?_
    refine z_iload_n dX12_writes_71 rfl ?_
    refine z_iastN dX12_writes_72 (by first | assumption | exact And.left (by assumption)) (by omega) (by decide) ?_
    refine z_aload_n dX12_writes_73 rfl ?_
    refine z_getR dX12_writes_74 fX12_13 (by first | assumption | exact And.left (by assumption)) rfl ?_
    refine z_iload dX12_writes_77 rfl ?_
    refine z_iconst (v := nI 2) dX12_writes_79 rfl ?_
    refine z_addN dX12_writes_80 ?_
    refine z_iload dX12_writes_81 rfl ?_
    refine z_iastN dX12_writes_83 (by first | assumption | exact And.left (by assumption)) (by omega) (by decide) ?_
    refine z_aload_n dX12_writes_84 rfl ?_
    refine z_getR dX12_writes_85 fX12_13 (by first | assumption | exact And.left (by assumption)) rfl ?_
    refine z_iload dX12_writes_88 rfl ?_
    refine z_iconst (v := nI 3) dX12_writes_90 rfl ?_
    refine z_addN dX12_writes_91 ?_
    refine z_iload dX12_writes_92 rfl ?_
    refine z_iastN dX12_writes_94 (by first | assumption | exact And.left (by assumption)) (by omega) (by decide) ?_
    refine z_aload_n dX12_writes_95 rfl ?_
    refine z_getR dX12_writes_96 fX12_13 (by first | assumption | exact And.left (by assumption)) rfl ?_
    refine z_iload dX12_writes_99 rfl ?_
    refine z_iconst (v := nI 4) dX12_writes_101 rfl ?_
    refine z_addN dX12_writes_102 ?_
    refine z_iload dX12_writes_103 rfl ?_
    refine z_iastN dX12_writes_105 (by first | assumption | exact And.left (by assumption)) (by omega) (by decide) ?_
    refine z_return dX12_writes_106 (Nat.le_of_ble_eq_true rfl) (Nat.le_of_ble_eq_true rfl) rfl ?_
    first
      | (refine ⟨rfl, rfl, rfl, (((((oA.rf.up (by omega)).up (by omega)).up (by omega)).up (by omega)).up (by omega)).up (by omega), MB_tr hB0 ht (fun j j1 j2 => ?_) (fun j j1 j2 => ?_) ⟨?_, ?_, x3, _, MTw_new xw0 hr hw h8 (fun j j1 j2 j3 j4 => ?_) ?_ ?_ (AT_of hv ?_ ?_ ?_ ?_)⟩⟩
         · repeat (rw [zup_k (by omega)])
         · repeat (rw [zup_k (by omega)])
         · rw [zup_k (by omega), zup_k (by omega), zup_k (by omega), zup_k (by omega), zup_k (by omega), zup_k (by omega)]
           exact x1
         · rw [zup_k (by omega), zup_k (by omega), zup_k (by omega), zup_k (by omega), zup_k (by omega), zup_k (by omega)]
           exact x2
         · repeat (rw [zup_k (by omega)])
         · repeat (first | rw [zup_s] | rw [zup_k (by omega)])
         · repeat (first | rw [zup_s] | rw [zup_k (by omega)])
         · repeat (first | rw [zup_s] | rw [zup_k (by omega)])
         · repeat (first | rw [zup_s] | rw [zup_k (by omega)])
         · repeat (first | rw [zup_s] | rw [zup_k (by omega)])
         · repeat (first | rw [zup_s] | rw [zup_k (by omega)]))
      | (refine ⟨rfl, rfl, rfl, ((((oA.rf.up (by omega)).up (by omega)).up (by omega)).up (by omega)).up (by omega), MB_tr hB0 ht (fun j j1 j2 => ?_) (fun j j1 j2 => ?_) ⟨?_, ?_, x3, _, MTw_old xw0 hr hw (fun j j1 j2 j3 => ?_) ?_ (AT_of hv ?_ ?_ ?_ ?_)⟩⟩
         · repeat (rw [zup_k (by omega)])
         · repeat (rw [zup_k (by omega)])
         · rw [zup_k (by omega), zup_k (by omega), zup_k (by omega), zup_k (by omega), zup_k (by omega)]
           exact x1
         · rw [zup_k (by omega), zup_k (by omega), zup_k (by omega), zup_k (by omega), zup_k (by omega)]
           exact x2
         · repeat (rw [zup_k (by omega)])
         · repeat (first | rw [zup_s] | rw [zup_k (by omega)])
         · repeat (first | rw [zup_s] | rw [zup_k (by omega)])
         · repeat (first | rw [zup_s] | rw [zup_k (by omega)])
         · repeat (first | rw [zup_s] | rw [zup_k (by omega)])
         · repeat (first | rw [zup_s] | rw [zup_k (by omega)]))
  · have hw : ¬ wpl ws r < ws.length := fun z => by rw [if_pos z] at c_21; exact nI_ne_m1 (by omega) c_21
    have h8 : ws.length < 8 := hroom.resolve_left (fun z => hw (hnn.mpr z))
    refine z_iload dX12_writes_24 rfl ?_
    refine z_iconst (v := nI 3) dX12_writes_26 rfl ?_
    refine z_addN dX12_writes_27 ?_
    refine z_iconst (v := nI 5) dX12_writes_28 rfl ?_
    refine z_aload_n dX12_writes_29 rfl ?_
    refine z_getR dX12_writes_30 fX12_13 (by first | assumption | exact And.left (by assumption)) rfl ?_
    refine z_iload dX12_writes_33 rfl ?_
    refine z_iconst (v := nI 2) dX12_writes_35 rfl ?_
    refine z_addN dX12_writes_36 ?_
    refine z_ialdN dX12_writes_37 (by first | assumption | exact And.left (by assumption)) (by omega) (by decide) w1 ?_
    refine z_mulN dX12_writes_38 ?_
    refine z_addN dX12_writes_39 ?_
    refine z_istore dX12_writes_40 (Nat.le_of_ble_eq_true rfl) rfl ?_
    refine z_aload_n dX12_writes_42 rfl ?_
    refine z_getR dX12_writes_43 fX12_13 (by first | assumption | exact And.left (by assumption)) rfl ?_
    refine z_iload dX12_writes_46 rfl ?_
    refine z_iconst (v := nI 2) dX12_writes_48 rfl ?_
    refine z_addN dX12_writes_49 ?_
    refine z_dup2 dX12_writes_50 rfl rfl ?_
    refine z_ialdN dX12_writes_51 (by first | assumption | exact And.left (by assumption)) (by omega) (by decide) w1 ?_
    refine z_iconst (v := nI 1) dX12_writes_52 rfl ?_
    refine z_addN dX12_writes_53 ?_
    refine z_iastN dX12_writes_54 (by first | assumption | exact And.left (by assumption)) (by omega) (by decide) ?_
    refine z_aload_n dX12_writes_55 rfl ?_
    refine z_getR dX12_writes_56 fX12_13 (by first | assumption | exact And.left (by assumption)) rfl ?_
    refine z_iload dX12_writes_59 rfl ?_
    refine z_iload_n dX12_writes_61 rfl ?_
    refine z_iastN dX12_writes_62 (by first | assumption | exact And.left (by assumption)) (by omega) (by decide) ?_
    refine z_aload_n dX12_writes_63 rfl ?_
    refine z_getR dX12_writes_64 fX12_13 (by first | assumption | exact And.left (by assumption)) rfl ?_
    refine z_iload dX12_writes_67 rfl ?_
    refine z_iconst (v := nI 1) dX12_writes_69 rfl ?_
    refine z_addN dX12_writes_70 ?_
    refine z_iload_n dX12_writes_71 rfl ?_
    refine z_iastN dX12_writes_72 (by first | assumption | exact And.left (by assumption)) (by omega) (by decide) ?_
    refine z_aload_n dX12_writes_73 rfl ?_
    refine z_getR dX12_writes_74 fX12_13 (by first | assumption | exact And.left (by assumption)) rfl ?_
    refine z_iload dX12_writes_77 rfl ?_
    refine z_iconst (v := nI 2) dX12_writes_79 rfl ?_
    refine z_addN dX12_writes_80 ?_
    refine z_iload dX12_writes_81 rfl ?_
    refine z_iastN dX12_writes_83 (by first | assumption | exact And.left (by assumption)) (by omega) (by decide) ?_
    refine z_aload_n dX12_writes_84 rfl ?_
    refine z_getR dX12_writes_85 fX12_13 (by first | assumption | exact And.left (by assumption)) rfl ?_
    refine z_iload dX12_writes_88 rfl ?_
    refine z_iconst (v := nI 3) dX12_writes_90 rfl ?_
    refine z_addN dX12_writes_91 ?_
    refine z_iload dX12_writes_92 rfl ?_
    refine z_iastN dX12_writes_94 (by first | assumption | exact And.left (by assumption)) (by omega) (by decide) ?_
    refine z_aload_n dX12_writes_95 rfl ?_
    refine z_getR dX12_writes_96 fX12_13 (by first | assumption | exact And.left (by assumption)) rfl ?_
    refine z_iload dX12_writes_99 rfl ?_
    refine z_iconst (v := nI 4) dX12_writes_101 rfl ?_
    refine z_addN dX12_writes_102 ?_
    refine z_iload dX12_writes_103 rfl ?_
    refine z_iastN dX12_writes_105 (by first | assumption | exact And.left (by assumption)) (by omega) (by decide) ?_
    refine z_return dX12_writes_106 (Nat.le_of_ble_eq_true rfl) (Nat.le_of_ble_eq_true rfl) rfl ?_
    first
      | (refine ⟨rfl, rfl, rfl, (((((oA.rf.up (by omega)).up (by omega)).up (by omega)).up (by omega)).up (by omega)).up (by omega), MB_tr hB0 ht (fun j j1 j2 => ?_) (fun j j1 j2 => ?_) ⟨?_, ?_, x3, _, MTw_new xw0 hr hw h8 (fun j j1 j2 j3 j4 => ?_) ?_ ?_ (AT_of hv ?_ ?_ ?_ ?_)⟩⟩
         · repeat (rw [zup_k (by omega)])
         · repeat (rw [zup_k (by omega)])
         · rw [zup_k (by omega), zup_k (by omega), zup_k (by omega), zup_k (by omega), zup_k (by omega), zup_k (by omega)]
           exact x1
         · rw [zup_k (by omega), zup_k (by omega), zup_k (by omega), zup_k (by omega), zup_k (by omega), zup_k (by omega)]
           exact x2
         · repeat (rw [zup_k (by omega)])
         · repeat (first | rw [zup_s] | rw [zup_k (by omega)])
         · repeat (first | rw [zup_s] | rw [zup_k (by omega)])
         · repeat (first | rw [zup_s] | rw [zup_k (by omega)])
         · repeat (first | rw [zup_s] | rw [zup_k (by omega)])
         · repeat (first | rw [zup_s] | rw [zup_k (by omega)])
         · repeat (first | rw [zup_s] | rw [zup_k (by omega)]))
      | (refine ⟨rfl, rfl, rfl, ((((oA.rf.up (by omega)).up (by omega)).up (by omega)).up (by omega)).up (by omega), MB_tr hB0 ht (fun j j1 j2 => ?_) (fun j j1 j2 => ?_) ⟨?_, ?_, x3, _, MTw_old xw0 hr hw (fun j j1 j2 j3 => ?_) ?_ (AT_of hv ?_ ?_ ?_ ?_)⟩⟩
         · repeat (rw [zup_k (by omega)])
         · repeat (rw [zup_k (by omega)])
         · rw [zup_k (by omega), zup_k (by omega), zup_k (by omega), zup_k (by omega), zup_k (by omega)]
           exact x1
         · rw [zup_k (by omega), zup_k (by omega), zup_k (by omega), zup_k (by omega), zup_k (by omega)]
           exact x2
         · repeat (rw [zup_k (by omega)])
         · repeat (first | rw [zup_s] | rw [zup_k (by omega)])
         · repeat (first | rw [zup_s] | rw [zup_k (by omega)])
         · repeat (first | rw [zup_s] | rw [zup_k (by omega)])
         · repeat (first | rw [zup_s] | rw [zup_k (by omega)])
         · repeat (first | rw [zup_s] | rw [zup_k (by omega)]))

set_option maxHeartbeats 4000000 in
set_option maxRecDepth 100000 in
theorem s_mEnds {D : zD} {z0 nx : Nat} {L : zL} {V : zV} {m t : Nat} {s : St} (hm : sM L m) (hB : MB (V (m + 1)) s) (ht : t < 4) : Sp D z0 1 0 0 mX12_ends [.ref m, .int (nI t)] L V nx (zq none L nx (fun V' => oA V V' m ∧ MB (V' (m + 1)) (setT s t tEnd))) := by
  have hm0 := hm
  obtain ⟨a0, a1, a2, a3, a4, a5, a6, a7, a8, a9, a10, a11, a12, a13, a14, a15⟩ := hm
  refine Sp.of 1 (by decide) rfl rfl (Nat.le_of_ble_eq_true rfl) ?_
  refine z_sipush (v := nI 1968) dX12_ends_0 rfl ?_
  refine z_bipush (v := nI 43) dX12_ends_3 rfl ?_
  refine z_iload_n dX12_ends_5 rfl ?_
  refine z_mulN dX12_ends_6 ?_
  refine z_addN dX12_ends_7 ?_
  refine z_istore_n dX12_ends_8 (Nat.le_of_ble_eq_true rfl) rfl ?_
  refine z_aload_n dX12_ends_9 rfl ?_
  refine z_getR dX12_ends_10 fX12_13 (by first | assumption | exact And.left (by assumption)) rfl ?_
  refine z_iload_n dX12_ends_13 rfl ?_
  refine z_iconst (v := nI 0) dX12_ends_14 rfl ?_
  refine z_addN dX12_ends_15 ?_
  refine z_iconst (v := nI 0) dX12_ends_16 rfl ?_
  refine z_iastN dX12_ends_17 (by first | assumption | exact And.left (by assumption)) (by omega) (by decide) ?_
  refine z_aload_n dX12_ends_18 rfl ?_
  refine z_getR dX12_ends_19 fX12_13 (by first | assumption | exact And.left (by assumption)) rfl ?_
  refine z_iload_n dX12_ends_22 rfl ?_
  refine z_iconst (v := nI 1) dX12_ends_23 rfl ?_
  refine z_addN dX12_ends_24 ?_
  refine z_iconst (v := nI 0) dX12_ends_25 rfl ?_
  refine z_iastN dX12_ends_26 (by first | assumption | exact And.left (by assumption)) (by omega) (by decide) ?_
  refine z_aload_n dX12_ends_27 rfl ?_
  refine z_getR dX12_ends_28 fX12_13 (by first | assumption | exact And.left (by assumption)) rfl ?_
  refine z_iload_n dX12_ends_31 rfl ?_
  refine z_iconst (v := nI 2) dX12_ends_32 rfl ?_
  refine z_addN dX12_ends_33 ?_
  refine z_iconst (v := nI 0) dX12_ends_34 rfl ?_
  refine z_iastN dX12_ends_35 (by first | assumption | exact And.left (by assumption)) (by omega) (by decide) ?_
  refine z_return dX12_ends_36 (Nat.le_of_ble_eq_true rfl) (Nat.le_of_ble_eq_true rfl) rfl ?_
  refine ⟨rfl, rfl, rfl, ((oA.rf.up (by omega)).up (by omega)).up (by omega), MB_tr hB ht (fun j j1 j2 => ?_) (fun j j1 j2 => ?_) (MT_new ?_ ?_ (by decide) ?_)⟩
  · repeat (rw [zup_k (by omega)])
  · repeat (rw [zup_k (by omega)])
  · rw [zb_f (by simp)]
    repeat (first | rw [zup_s] | rw [zup_k (by omega)])
    rfl
  · repeat (first | rw [zup_s] | rw [zup_k (by omega)])
  · repeat (first | rw [zup_s] | rw [zup_k (by omega)])

set_option maxHeartbeats 4000000 in
set_option maxRecDepth 100000 in
theorem s_mRef {D : zD} {z0 nx : Nat} {L : zL} {V : zV} {m t r : Nat} {w : Wo} (hm : sM L m) (hB : MB (V (m + 1)) w.1) (ht : t < 4) (hr : r < 48) : Sp D z0 3 0 0 mX12_refuses [.ref m, .int (nI t), .int (nI r)] L V nx (zi (rfw (nI t) (nI r) w) L V nx) := by
  have hm0 := hm
  have hB0 := hB
  obtain ⟨a0, a1, a2, a3, a4, a5, a6, a7, a8, a9, a10, a11, a12, a13, a14, a15⟩ := hm
  have hT0 := hB.2.2.1 t ht
  obtain ⟨x1, x2, x3, ws, xw⟩ := hB.2.2.1 t ht
  have xw0 := xw
  obtain ⟨w1, w2, w3, w4, w5, w6⟩ := xw
  have hnn := wpl_nn xw0 hr
  have hR : rfw (nI t) (nI r) w = cif ((w.1.2.2.1 t).1 = true) (cif (room w t r) 0 (-4)) (-5) := by unfold rfw; rw [cif_y ⟨rng_k ht, rng_k hr⟩, tn_k (k := t) (by omega), tn_k (k := r) (by omega)]; unfold opn; rw [tn_k (k := t) (by omega)]
  refine Sp.of 0 (by decide) rfl rfl (Nat.le_of_ble_eq_true rfl) ?_
  refine z_aload_n dX12_refuses_0 rfl ?_
  refine z_iload_n dX12_refuses_1 rfl ?_
  refine z_callV1i dX12_refuses_2 kX12_isOpen lX12_149 (by first | assumption | exact And.left (by assumption)) rfl (s_mOpen hm0 ht hT0) (Nat.le_of_ble_eq_true rfl) (Nat.le_of_ble_eq_true rfl) ⟨Nat.le_of_ble_eq_true rfl, Nat.le_of_ble_eq_true rfl⟩ ?_
  refine z_if_neB (tgt := 11) dX12_refuses_5 (by decide) (fun c_5 => ?_) (fun c_5 => ?_)
  · refine z_aload_n dX12_refuses_11 rfl ?_
    refine z_iload_n dX12_refuses_12 rfl ?_
    refine z_iload_n dX12_refuses_13 rfl ?_
    refine z_callV2i dX12_refuses_14 kX12_writeAt lX12_98 (by first | assumption | exact And.left (by assumption)) rfl (s_mWr hm0 ht hr xw0) (Nat.le_of_ble_eq_true rfl) (Nat.le_of_ble_eq_true rfl) ⟨Nat.le_of_ble_eq_true rfl, Nat.le_of_ble_eq_true rfl⟩ ?_
    refine z_iconst (v := (-1)) dX12_refuses_17 rfl ?_
    refine z_icmp_ne (tgt := 37) dX12_refuses_18 (by decide) (fun c_18 => ?_) (fun c_18 => ?_)
    · have hrm : room w t r := Or.inl (hnn.mp (Classical.byContradiction (fun z => c_18 (if_neg z))))
      refine z_iconst (v := nI 0) dX12_refuses_37 rfl ?_
      refine z_ireturn dX12_refuses_38 (Nat.le_of_ble_eq_true rfl) (Nat.le_of_ble_eq_true rfl) rfl ?_
      first
        | exact zi_r (by rw [hR, cif_y c_5, cif_n hno])
        | exact zi_r (by rw [hR, cif_y c_5, cif_y hrm] <;> rfl)
    · have hw : ¬ wpl ws r < ws.length := fun z => by rw [if_pos z] at c_18; exact nI_ne_m1 (by omega) c_18
      refine z_aload_n dX12_refuses_21 rfl ?_
      refine z_iload_n dX12_refuses_22 rfl ?_
      refine z_iconst (v := nI 2) dX12_refuses_23 rfl ?_
      refine z_callV2i dX12_refuses_24 kX12_ofTransaction lX12_94 (by first | assumption | exact And.left (by assumption)) rfl (s_ofTr hm0 ht (by omega) w1) (Nat.le_of_ble_eq_true rfl) (Nat.le_of_ble_eq_true rfl) ⟨Nat.le_of_ble_eq_true rfl, Nat.le_of_ble_eq_true rfl⟩ ?_
      refine z_bipush (v := nI 8) dX12_refuses_27 rfl ?_
      refine z_icmp_neN (tgt := 37) dX12_refuses_29 (by decide) (by omega) (by omega) (fun c_29 => ?_) (fun c_29 => ?_)
      · have hrm : room w t r := Or.inr (by show nwr (w.1.2.2.1 t) < 8; omega)
        refine z_iconst (v := nI 0) dX12_refuses_37 rfl ?_
        refine z_ireturn dX12_refuses_38 (Nat.le_of_ble_eq_true rfl) (Nat.le_of_ble_eq_true rfl) rfl ?_
        first
          | exact zi_r (by rw [hR, cif_y c_5, cif_n hno])
          | exact zi_r (by rw [hR, cif_y c_5, cif_y hrm] <;> rfl)
      · have hno : ¬ room w t r := fun z => z.elim (fun q => hw (hnn.mpr q)) (fun q => by have q2 : nwr (w.1.2.2.1 t) < 8 := q; omega)
        refine z_bipush (v := (-4)) dX12_refuses_32 rfl ?_
        refine z_goto (tgt := 38) dX12_refuses_34 (by decide) ?_
        refine z_ireturn dX12_refuses_38 (Nat.le_of_ble_eq_true rfl) (Nat.le_of_ble_eq_true rfl) rfl ?_
        first
          | exact zi_r (by rw [hR, cif_y c_5, cif_n hno])
          | exact zi_r (by rw [hR, cif_y c_5, cif_y hrm] <;> rfl)
  · refine z_bipush (v := (-5)) dX12_refuses_8 rfl ?_
    refine z_ireturn dX12_refuses_10 (Nat.le_of_ble_eq_true rfl) (Nat.le_of_ble_eq_true rfl) rfl ?_
    exact zi_r (by rw [hR, cif_n c_5])

