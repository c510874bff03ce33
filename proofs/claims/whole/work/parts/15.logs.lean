/-! Definition, on; Log; Transaction -/
/-- a part of an entry: 0 its row, 1 to 3 its key -/
def pe (x : Df) (c w : Nat) : Int32 := if w = 0 then nI (c % 64) else if w ≤ x.1.length then nI (tu (x.1.getD (w - 1) (0, false)).2 (pt (c / 64) (w - 1))) else -1

set_option maxHeartbeats 4000000 in
set_option maxRecDepth 100000 in
theorem s_partOfEntry {D : zD} {z0 nx : Nat} {L : zL} {V : zV} {a c w : Nat} {x : Df} (hs : sDf L a) (h : DF V a x) (hc : c < 64000000) (hw : w < 4) : Sp D z0 3 0 0 mX1_partOfEntry [.ref a, .int (nI c), .int (nI w)] L V nx (zi (pe x c w) L V nx) := by
  obtain ⟨h1, h2, h3⟩ := hs
  obtain ⟨g1, g2, g3, g4⟩ := h
  have h20 := h2
  obtain ⟨h4, h5, h6⟩ := h2
  have g10 := g1
  obtain ⟨r1, r2, r3, r4, r5⟩ := g1
  refine Sp.of 0 (by decide) rfl rfl (Nat.le_of_ble_eq_true rfl) ?_
  refine z_iload_n dX1_partOfEntry_0 rfl ?_
  refine z_if_neN (tgt := 9) dX1_partOfEntry_1 (by decide) (by omega) (fun c_1 => ?_) (fun c_1 => ?_)
  · refine z_iload_n dX1_partOfEntry_9 rfl ?_
    refine z_aload_n dX1_partOfEntry_10 rfl ?_
    refine z_getR dX1_partOfEntry_11 fX1_12 (by first | assumption | exact And.left (by assumption)) rfl ?_
    refine z_getIe dX1_partOfEntry_14 fX1_63 (by first | assumption | exact And.left (by assumption)) rfl (by first | assumption | exact zup_s _ _ _ _ | rfl) ?_
    refine z_icmp_gtN (tgt := 37) dX1_partOfEntry_17 (by decide) (by omega) (by omega) (fun c_17 => ?_) (fun c_17 => ?_)
    · refine z_iconst (v := (-1)) dX1_partOfEntry_37 rfl ?_
      refine z_ireturn dX1_partOfEntry_38 (Nat.le_of_ble_eq_true rfl) (Nat.le_of_ble_eq_true rfl) rfl ?_
      exact zi_r (by rw [pe, if_neg (by omega)]; first | rw [if_pos (by omega)] | rw [if_neg (by omega)])
    · refine z_aload_n dX1_partOfEntry_20 rfl ?_
      refine z_getR dX1_partOfEntry_21 fX1_12 (by first | assumption | exact And.left (by assumption)) rfl ?_
      refine z_iload_n dX1_partOfEntry_24 rfl ?_
      refine z_callS1i dX1_partOfEntry_25 kX6_rankIn lX1_67 (s_rankIn (by omega)) (Nat.le_of_ble_eq_true rfl) (Nat.le_of_ble_eq_true rfl) ⟨Nat.le_of_ble_eq_true rfl, Nat.le_of_ble_eq_true rfl⟩ ?_
      refine z_iload_n dX1_partOfEntry_28 rfl ?_
      refine z_iconst (v := nI 1) dX1_partOfEntry_29 rfl ?_
      refine z_subN dX1_partOfEntry_30 (by omega) ?_
      refine z_callV2i dX1_partOfEntry_31 kX4_keyPart lX1_70 (by first | assumption | exact And.left (by assumption)) rfl (s_keyPart (by assumption) (by assumption) (by omega) (by omega)) (Nat.le_of_ble_eq_true rfl) (Nat.le_of_ble_eq_true rfl) ⟨Nat.le_of_ble_eq_true rfl, Nat.le_of_ble_eq_true rfl⟩ ?_
      refine z_goto (tgt := 38) dX1_partOfEntry_34 (by decide) ?_
      refine z_ireturn dX1_partOfEntry_38 (Nat.le_of_ble_eq_true rfl) (Nat.le_of_ble_eq_true rfl) rfl ?_
      exact zi_r (by rw [pe, if_neg (by omega)]; first | rw [if_pos (by omega)] | rw [if_neg (by omega)])
  · refine z_iload_n dX1_partOfEntry_4 rfl ?_
    refine z_callS1i dX1_partOfEntry_5 kX6_rowIn lX1_60 (s_rowIn (by omega)) (Nat.le_of_ble_eq_true rfl) (Nat.le_of_ble_eq_true rfl) ⟨Nat.le_of_ble_eq_true rfl, Nat.le_of_ble_eq_true rfl⟩ ?_
    refine z_ireturn dX1_partOfEntry_8 (Nat.le_of_ble_eq_true rfl) (Nat.le_of_ble_eq_true rfl) rfl ?_
    exact zi_r (by rw [pe, if_pos (by omega)])

/-- the numbers 9 to 11 of index() -/
def tc (x : Df) (k : Nat) : Int32 := if k < x.1.length then nI ((x.1.getD k (0, false)).1 + (if (x.1.getD k (0, false)).2 then 10 else 0)) else -1

set_option maxHeartbeats 4000000 in
set_option maxRecDepth 100000 in
theorem s_toldColumn {D : zD} {z0 nx : Nat} {L : zL} {V : zV} {a k : Nat} {x : Df} (hs : sDf L a) (h : DF V a x) (hk : k < 3) : Sp D z0 1 0 0 mX1_toldColumn [.ref a, .int (nI k)] L V nx (zi (tc x k) L V nx) := by
  obtain ⟨h1, h2, h3⟩ := hs
  obtain ⟨g1, g2, g3, g4⟩ := h
  have h20 := h2
  obtain ⟨h4, h5, h6⟩ := h2
  have g10 := g1
  obtain ⟨r1, r2, r3, r4, r5⟩ := g1
  refine Sp.of 0 (by decide) rfl rfl (Nat.le_of_ble_eq_true rfl) ?_
  refine z_iload_n dX1_toldColumn_0 rfl ?_
  refine z_if_ltN (tgt := 15) dX1_toldColumn_1 (by decide) (by omega) ?_
  refine z_iload_n dX1_toldColumn_4 rfl ?_
  refine z_aload_n dX1_toldColumn_5 rfl ?_
  refine z_getR dX1_toldColumn_6 fX1_12 (by first | assumption | exact And.left (by assumption)) rfl ?_
  refine z_getIe dX1_toldColumn_9 fX1_63 (by first | assumption | exact And.left (by assumption)) rfl (by first | assumption | exact zup_s _ _ _ _ | rfl) ?_
  refine z_icmp_ltN (tgt := 17) dX1_toldColumn_12 (by decide) (by omega) (by omega) (fun c_12 => ?_) (fun c_12 => ?_)
  · refine z_aload_n dX1_toldColumn_17 rfl ?_
    refine z_getR dX1_toldColumn_18 fX1_12 (by first | assumption | exact And.left (by assumption)) rfl ?_
    refine z_getR dX1_toldColumn_21 fX1_85 (by first | assumption | exact And.left (by assumption)) rfl ?_
    refine z_iload_n dX1_toldColumn_24 rfl ?_
    refine z_ialdN dX1_toldColumn_25 (by first | assumption | exact And.left (by assumption)) (by omega) (by decide) ((r3 k (by omega)).1) ?_
    refine z_aload_n dX1_toldColumn_26 rfl ?_
    refine z_getR dX1_toldColumn_27 fX1_12 (by first | assumption | exact And.left (by assumption)) rfl ?_
    refine z_getR dX1_toldColumn_30 fX1_89 (by first | assumption | exact And.left (by assumption)) rfl ?_
    refine z_iload_n dX1_toldColumn_33 rfl ?_
    refine z_zaldN dX1_toldColumn_34 (by first | assumption | exact And.left (by assumption)) (by omega) (by decide) ((r3 k (by omega)).2) ?_
    refine z_if_eqB (tgt := 43) dX1_toldColumn_35 (by decide) (fun c_35 => ?_) (fun c_35 => ?_)
    · refine z_iconst (v := nI 0) dX1_toldColumn_43 rfl ?_
      refine z_addN dX1_toldColumn_44 ?_
      refine z_ireturn dX1_toldColumn_45 (Nat.le_of_ble_eq_true rfl) (Nat.le_of_ble_eq_true rfl) rfl ?_
      exact zi_r (by rw [tc, if_pos (by omega)]; first | rw [if_pos c_35] | rw [if_neg c_35])
    · refine z_bipush (v := nI 10) dX1_toldColumn_38 rfl ?_
      refine z_goto (tgt := 44) dX1_toldColumn_40 (by decide) ?_
      refine z_addN dX1_toldColumn_44 ?_
      refine z_ireturn dX1_toldColumn_45 (Nat.le_of_ble_eq_true rfl) (Nat.le_of_ble_eq_true rfl) rfl ?_
      exact zi_r (by rw [tc, if_pos (by omega)]; first | rw [if_pos c_35] | rw [if_neg c_35])
  · refine z_iconst (v := (-1)) dX1_toldColumn_15 rfl ?_
    refine z_ireturn dX1_toldColumn_16 (Nat.le_of_ble_eq_true rfl) (Nat.le_of_ble_eq_true rfl) rfl ?_
    exact zi_r (by rw [tc, if_neg (by omega)])

def td (x : Df) (w : Nat) : Int32 := if w = 7 then (if x.2.1 then 1 else 0) else if w = 8 then nI x.1.length else if w = 12 then (if x.2.2.1 then nI x.2.2.2.1 else -1) else if w = 13 then nI x.2.2.2.2.1 else if w = 14 then nI x.2.2.2.2.2 else tc x (w - 9)

set_option maxHeartbeats 4000000 in
set_option maxRecDepth 100000 in
theorem s_told {D : zD} {z0 nx : Nat} {L : zL} {V : zV} {a w : Nat} {x : Df} (hs : sDf L a) (h : DF V a x) (h7 : 7 ≤ w) (h14 : w ≤ 14) : Sp D z0 2 0 0 mX1_told [.ref a, .int (nI w)] L V nx (zi (td x w) L V nx) := by
  have hs0 := hs
  have h0 := h
  obtain ⟨h1, h2, h3⟩ := hs
  obtain ⟨g1, g2, g3, g4⟩ := h
  have h20 := h2
  obtain ⟨h4, h5, h6⟩ := h2
  have g10 := g1
  obtain ⟨r1, r2, r3, r4, r5⟩ := g1
  obtain ⟨q1, q2, q3, q4, q5, q6⟩ := g4
  refine Sp.of 0 (by decide) rfl rfl (Nat.le_of_ble_eq_true rfl) ?_
  rcases (show w = 7 ∨ w = 8 ∨ w = 9 ∨ w = 10 ∨ w = 11 ∨ w = 12 ∨ w = 13 ∨ w = 14 by omega) with rfl | rfl | rfl | rfl | rfl | rfl | rfl | rfl
  · refine z_iload_n dX1_told_0 rfl ?_
    refine z_tableIn (tgt := 48) dX1_told_1 (by decide) (by decide) rfl (by decide) ?_
    refine z_aload_n dX1_told_48 rfl ?_
    refine z_getIe dX1_told_49 fX1_28 (by first | assumption | exact And.left (by assumption)) rfl (by first | assumption | exact zup_s _ _ _ _ | rfl) ?_
    refine z_if_eqB (tgt := 59) dX1_told_52 (by decide) (fun c_52 => ?_) (fun c_52 => ?_)
    · refine z_iconst (v := nI 0) dX1_told_59 rfl ?_
      refine z_ireturn dX1_told_60 (Nat.le_of_ble_eq_true rfl) (Nat.le_of_ble_eq_true rfl) rfl ?_
      exact zi_r (by first | (rw [td, if_pos rfl, if_pos c_52]; rfl) | (rw [td, if_pos rfl, if_neg c_52]; rfl))
    · refine z_iconst (v := nI 1) dX1_told_55 rfl ?_
      refine z_goto (tgt := 60) dX1_told_56 (by decide) ?_
      refine z_ireturn dX1_told_60 (Nat.le_of_ble_eq_true rfl) (Nat.le_of_ble_eq_true rfl) rfl ?_
      exact zi_r (by first | (rw [td, if_pos rfl, if_pos c_52]; rfl) | (rw [td, if_pos rfl, if_neg c_52]; rfl))
  · refine z_iload_n dX1_told_0 rfl ?_
    refine z_tableIn (tgt := 61) dX1_told_1 (by decide) (by decide) rfl (by decide) ?_
    refine z_aload_n dX1_told_61 rfl ?_
    refine z_getR dX1_told_62 fX1_12 (by first | assumption | exact And.left (by assumption)) rfl ?_
    refine z_getIe dX1_told_65 fX1_63 (by first | assumption | exact And.left (by assumption)) rfl (by first | assumption | exact zup_s _ _ _ _ | rfl) ?_
    refine z_ireturn dX1_told_68 (Nat.le_of_ble_eq_true rfl) (Nat.le_of_ble_eq_true rfl) rfl ?_
    exact zi_r rfl
  · refine z_iload_n dX1_told_0 rfl ?_
    refine z_tableIn (tgt := 104) dX1_told_1 (by decide) (by decide) rfl (by decide) ?_
    refine z_aload_n dX1_told_104 rfl ?_
    refine z_iload_n dX1_told_105 rfl ?_
    refine z_bipush (v := nI 9) dX1_told_106 rfl ?_
    refine z_subN dX1_told_108 (by omega) ?_
    refine z_callV1i dX1_told_109 kX1_toldColumn lX1_82 (by first | assumption | exact And.left (by assumption)) rfl (s_toldColumn (by assumption) (by assumption) (by omega)) (Nat.le_of_ble_eq_true rfl) (Nat.le_of_ble_eq_true rfl) ⟨Nat.le_of_ble_eq_true rfl, Nat.le_of_ble_eq_true rfl⟩ ?_
    refine z_ireturn dX1_told_112 (Nat.le_of_ble_eq_true rfl) (Nat.le_of_ble_eq_true rfl) rfl ?_
    exact zi_r rfl
  · refine z_iload_n dX1_told_0 rfl ?_
    refine z_tableIn (tgt := 104) dX1_told_1 (by decide) (by decide) rfl (by decide) ?_
    refine z_aload_n dX1_told_104 rfl ?_
    refine z_iload_n dX1_told_105 rfl ?_
    refine z_bipush (v := nI 9) dX1_told_106 rfl ?_
    refine z_subN dX1_told_108 (by omega) ?_
    refine z_callV1i dX1_told_109 kX1_toldColumn lX1_82 (by first | assumption | exact And.left (by assumption)) rfl (s_toldColumn (by assumption) (by assumption) (by omega)) (Nat.le_of_ble_eq_true rfl) (Nat.le_of_ble_eq_true rfl) ⟨Nat.le_of_ble_eq_true rfl, Nat.le_of_ble_eq_true rfl⟩ ?_
    refine z_ireturn dX1_told_112 (Nat.le_of_ble_eq_true rfl) (Nat.le_of_ble_eq_true rfl) rfl ?_
    exact zi_r rfl
  · refine z_iload_n dX1_told_0 rfl ?_
    refine z_tableIn (tgt := 104) dX1_told_1 (by decide) (by decide) rfl (by decide) ?_
    refine z_aload_n dX1_told_104 rfl ?_
    refine z_iload_n dX1_told_105 rfl ?_
    refine z_bipush (v := nI 9) dX1_told_106 rfl ?_
    refine z_subN dX1_told_108 (by omega) ?_
    refine z_callV1i dX1_told_109 kX1_toldColumn lX1_82 (by first | assumption | exact And.left (by assumption)) rfl (s_toldColumn (by assumption) (by assumption) (by omega)) (Nat.le_of_ble_eq_true rfl) (Nat.le_of_ble_eq_true rfl) ⟨Nat.le_of_ble_eq_true rfl, Nat.le_of_ble_eq_true rfl⟩ ?_
    refine z_ireturn dX1_told_112 (Nat.le_of_ble_eq_true rfl) (Nat.le_of_ble_eq_true rfl) rfl ?_
    exact zi_r rfl
  · refine z_iload_n dX1_told_0 rfl ?_
    refine z_tableIn (tgt := 69) dX1_told_1 (by decide) (by decide) rfl (by decide) ?_
    refine z_aload_n dX1_told_69 rfl ?_
    refine z_getIe dX1_told_70 fX1_32 (by first | assumption | exact And.left (by assumption)) rfl (by first | assumption | exact zup_s _ _ _ _ | rfl) ?_
    refine z_if_eqB (tgt := 86) dX1_told_73 (by decide) (fun c_73 => ?_) (fun c_73 => ?_)
    · refine z_iconst (v := (-1)) dX1_told_86 rfl ?_
      refine z_ireturn dX1_told_87 (Nat.le_of_ble_eq_true rfl) (Nat.le_of_ble_eq_true rfl) rfl ?_
      exact zi_r (by rw [td, if_neg (by decide), if_neg (by decide), if_pos rfl]; first | rw [if_pos c_73] | rw [if_neg c_73])
    · refine z_aload_n dX1_told_76 rfl ?_
      refine z_getR dX1_told_77 fX1_21 (by first | assumption | exact And.left (by assumption)) rfl ?_
      refine z_getIe dX1_told_80 fX1_73 (by first | assumption | exact And.left (by assumption)) rfl (by first | assumption | exact zup_s _ _ _ _ | rfl) ?_
      refine z_goto (tgt := 87) dX1_told_83 (by decide) ?_
      refine z_ireturn dX1_told_87 (Nat.le_of_ble_eq_true rfl) (Nat.le_of_ble_eq_true rfl) rfl ?_
      exact zi_r (by rw [td, if_neg (by decide), if_neg (by decide), if_pos rfl]; first | rw [if_pos c_73] | rw [if_neg c_73])
  · refine z_iload_n dX1_told_0 rfl ?_
    refine z_tableIn (tgt := 88) dX1_told_1 (by decide) (by decide) rfl (by decide) ?_
    refine z_aload_n dX1_told_88 rfl ?_
    refine z_getR dX1_told_89 fX1_21 (by first | assumption | exact And.left (by assumption)) rfl ?_
    refine z_getIe dX1_told_92 fX1_76 (by first | assumption | exact And.left (by assumption)) rfl (by first | assumption | exact zup_s _ _ _ _ | rfl) ?_
    refine z_ireturn dX1_told_95 (Nat.le_of_ble_eq_true rfl) (Nat.le_of_ble_eq_true rfl) rfl ?_
    exact zi_r rfl
  · refine z_iload_n dX1_told_0 rfl ?_
    refine z_tableIn (tgt := 96) dX1_told_1 (by decide) (by decide) rfl (by decide) ?_
    refine z_aload_n dX1_told_96 rfl ?_
    refine z_getR dX1_told_97 fX1_21 (by first | assumption | exact And.left (by assumption)) rfl ?_
    refine z_getIe dX1_told_100 fX1_79 (by first | assumption | exact And.left (by assumption)) rfl (by first | assumption | exact zup_s _ _ _ _ | rfl) ?_
    refine z_ireturn dX1_told_103 (Nat.le_of_ble_eq_true rfl) (Nat.le_of_ble_eq_true rfl) rfl ?_
    exact zi_r rfl

def sLg (L : zL) (a : Nat) : Prop := L a = some (.inr (.inr (2, [some (.ref (a + 1)), none, none]))) ∧ L (a + 1) = some (.inl (0, 120))
def LG (V : zV) (a f : Nat) (l : List Nat) : Prop := V a 1 = nI f ∧ V a 2 = nI l.length ∧ f + l.length ≤ 120 ∧ (∀ k, k < l.length → V (a + 1) (f + k) = nI (l.getD k 0)) ∧ ∀ c ∈ l, c < 2147483648
theorem LG.eq {V V' : zV} {a f lo hi : Nat} {l : List Nat} (h : LG V a f l) (he : zEq V V' lo hi) (hd : a + 2 ≤ lo ∨ hi ≤ a) : LG V' a f l := by
  unfold LG at h ⊢
  rw [he a (by omega), he (a + 1) (by omega)]
  exact h
theorem getD_app (l : List Nat) (x k : Nat) (hk : k < l.length + 1) : (l ++ [x]).getD k 0 = if k < l.length then l.getD k 0 else x := by
  simp only [List.getD_eq_getElem?_getD]
  split
  · rename_i q; rw [List.getElem?_append_left q]
  · rename_i q; rw [List.getElem?_append_right (by omega), show k - l.length = 0 by omega]; rfl
theorem LG_app {V : zV} {a f x : Nat} {l : List Nat} (h : LG V a f l) (hl : f + l.length < 120) (hx : x < 2147483648) : LG (zup (zup V (a + 1) (f + l.length) (nI x)) a 2 (nI (l.length + 1))) a f (l ++ [x]) := by
  obtain ⟨g1, g2, g3, g4, g5⟩ := h
  refine ⟨by simp [zup]; exact g1, by simp [zup], by simp; omega, fun k hk => ?_, fun c hc => ?_⟩
  · simp at hk
    rw [getD_app l x k hk]
    split
    · rename_i q
      have e : ¬ k = l.length := by omega
      simp [zup, e]
      simpa using g4 k q
    · rename_i q
      have e : k = l.length := by omega
      subst e
      simp [zup]
  · rcases List.mem_append.mp hc with q | q
    · exact g5 c q
    · rw [List.mem_singleton.mp q]; exact hx
theorem LG_drop {V : zV} {a f c : Nat} {l : List Nat} (h : LG V a f (c :: l)) : LG (zup (zup V a 1 (nI (f + 1))) a 2 (nI l.length)) a (f + 1) l := by
  obtain ⟨g1, g2, g3, g4, g5⟩ := h
  simp at g3
  refine ⟨by simp [zup], by simp [zup], by omega, fun k hk => ?_, fun q hq => g5 q (List.mem_cons_of_mem _ hq)⟩
  have := g4 (k + 1) (by simp; omega)
  simp [zup]
  rw [show f + 1 + k = f + (k + 1) by omega]
  simpa using this

set_option maxHeartbeats 4000000 in
set_option maxRecDepth 100000 in
theorem s_codeIn {D : zD} {z0 nx : Nat} {L : zL} {V : zV} {c : Nat} (h1 : c < 2147483648) : Sp D z0 1 0 0 mX2_codeIn [.int (nI c)] L V nx (zi (nI (c / 2)) L V nx) := by
  refine Sp.of 0 (by decide) rfl rfl (Nat.le_of_ble_eq_true rfl) ?_
  refine z_iload_n dX2_codeIn_0 rfl ?_
  refine z_iconst (v := nI 1) dX2_codeIn_1 rfl ?_
  refine z_shrN dX2_codeIn_2 (by decide) (by omega) ?_
  refine z_ireturn dX2_codeIn_3 (Nat.le_of_ble_eq_true rfl) (Nat.le_of_ble_eq_true rfl) rfl ?_
  exact zi_r rfl

set_option maxHeartbeats 4000000 in
set_option maxRecDepth 100000 in
theorem s_isAdd {D : zD} {z0 nx : Nat} {L : zL} {V : zV} {c : Nat} (h1 : c < 2147483648) : Sp D z0 1 0 0 mX2_isAdd [.int (nI c)] L V nx (zi (zb (c % 2 = 1)) L V nx) := by
  refine Sp.of 0 (by decide) rfl rfl (Nat.le_of_ble_eq_true rfl) ?_
  refine z_iload_n dX2_isAdd_0 rfl ?_
  refine z_iconst (v := nI 1) dX2_isAdd_1 rfl ?_
  refine z_andN (j := 1) dX2_isAdd_2 (by decide) (by omega) ?_
  refine z_iconst (v := nI 1) dX2_isAdd_3 rfl ?_
  refine z_icmp_neN (tgt := 11) dX2_isAdd_4 (by decide) (by omega) (by omega) (fun c_4 => ?_) (fun c_4 => ?_)
  · refine z_iconst (v := nI 0) dX2_isAdd_11 rfl ?_
    refine z_zreturn dX2_isAdd_12 (Nat.le_of_ble_eq_true rfl) (Nat.le_of_ble_eq_true rfl) rfl (by first | exact Or.inl rfl | exact Or.inr rfl | exact zb_01 _ | assumption) ?_
    exact zi_r (by first | exact (zb_t (by omega)).symm | exact (zb_f (by omega)).symm)
  · refine z_iconst (v := nI 1) dX2_isAdd_7 rfl ?_
    refine z_goto (tgt := 12) dX2_isAdd_8 (by decide) ?_
    refine z_zreturn dX2_isAdd_12 (Nat.le_of_ble_eq_true rfl) (Nat.le_of_ble_eq_true rfl) rfl (by first | exact Or.inl rfl | exact Or.inr rfl | exact zb_01 _ | assumption) ?_
    exact zi_r (by first | exact (zb_t (by omega)).symm | exact (zb_f (by omega)).symm)

set_option maxHeartbeats 4000000 in
set_option maxRecDepth 100000 in
theorem s_LGclear {D : zD} {z0 nx : Nat} {L : zL} {V : zV} {a : Nat} (hs : sLg L a) : Sp D z0 1 0 0 mX2_clearAll [.ref a] L V nx (zq none L nx (fun V' => zEq V V' a (a + 2) ∧ LG V' a 0 [])) := by
  obtain ⟨h1, h2⟩ := hs
  refine Sp.of 0 (by decide) rfl rfl (Nat.le_of_ble_eq_true rfl) ?_
  refine z_aload_n dX2_clearAll_0 rfl ?_
  refine z_iconst (v := nI 0) dX2_clearAll_1 rfl ?_
  refine z_putI dX2_clearAll_2 fX2_15 (by first | assumption | exact And.left (by assumption)) rfl ?_
  refine z_aload_n dX2_clearAll_5 rfl ?_
  refine z_iconst (v := nI 0) dX2_clearAll_6 rfl ?_
  refine z_putI dX2_clearAll_7 fX2_19 (by first | assumption | exact And.left (by assumption)) rfl ?_
  refine z_return dX2_clearAll_10 (Nat.le_of_ble_eq_true rfl) (Nat.le_of_ble_eq_true rfl) rfl ?_
  exact ⟨rfl, rfl, rfl, (zEq.rf.up (by omega) (by omega)).up (by omega) (by omega), by simp [zup], by simp [zup], by simp, fun k hk => absurd hk (by simp), fun c hc => by simp at hc⟩

set_option maxHeartbeats 4000000 in
set_option maxRecDepth 100000 in
theorem s_LGcopy {D : zD} {z0 nx : Nat} {L : zL} {V : zV} {a b f : Nat} {l : List Nat} (hs : sLg L a) (hs2 : sLg L b) (h : LG V b f l) (hab : a + 2 ≤ b ∨ b + 2 ≤ a) : Sp D z0 1 0 0 mX2_copyFrom [.ref a, .ref b] L V nx (zq none L nx (fun V' => zEq V V' a (a + 2) ∧ LG V' a 0 l)) := by
  obtain ⟨k1, k2⟩ := hs2
  have hs0 := hs
  have h0 := h
  obtain ⟨h1, h2⟩ := hs
  obtain ⟨g1, g2, g3, g4, g5⟩ := h
  refine Sp.of 0 (by decide) rfl rfl (Nat.le_of_ble_eq_true rfl) ?_
  refine z_aload_n dX2_copyFrom_0 rfl ?_
  refine z_getR dX2_copyFrom_1 fX2_9 (by first | assumption | exact And.left (by assumption)) rfl ?_
  refine z_aload_n dX2_copyFrom_4 rfl ?_
  refine z_getIe dX2_copyFrom_5 fX2_15 (by first | assumption | exact And.left (by assumption)) rfl (by first | assumption | exact zup_s _ _ _ _ | rfl) ?_
  refine z_aload_n dX2_copyFrom_8 rfl ?_
  refine z_getR dX2_copyFrom_9 fX2_9 (by first | assumption | exact And.left (by assumption)) rfl ?_
  refine z_iconst (v := nI 0) dX2_copyFrom_12 rfl ?_
  refine z_aload_n dX2_copyFrom_13 rfl ?_
  refine z_getIe dX2_copyFrom_14 fX2_19 (by first | assumption | exact And.left (by assumption)) rfl (by first | assumption | exact zup_s _ _ _ _ | rfl) ?_
  refine z_copyN dX2_copyFrom_17 lX2_22 w_ac_n w_ac_s w_sys (by assumption) (by assumption) (by decide) (by decide) (by omega) (by omega) (Nat.le_of_ble_eq_true rfl) (Nat.le_of_ble_eq_true rfl) ?_
  refine z_aload_n dX2_copyFrom_20 rfl ?_
  refine z_iconst (v := nI 0) dX2_copyFrom_21 rfl ?_
  refine z_putI dX2_copyFrom_22 fX2_15 (by first | assumption | exact And.left (by assumption)) rfl ?_
  refine z_aload_n dX2_copyFrom_25 rfl ?_
  refine z_aload_n dX2_copyFrom_26 rfl ?_
  refine z_getIe dX2_copyFrom_27 fX2_19 (by first | assumption | exact And.left (by assumption)) rfl ((congrFun ((zup_a (by omega)).trans (zset_a (by omega))) _).trans g2) ?_
  refine z_putI dX2_copyFrom_30 fX2_19 (by first | assumption | exact And.left (by assumption)) rfl ?_
  refine z_return dX2_copyFrom_33 (Nat.le_of_ble_eq_true rfl) (Nat.le_of_ble_eq_true rfl) rfl ?_
  refine ⟨rfl, rfl, rfl, ((zEq.rf.set (by omega) (by omega)).up (by omega) (by omega)).up (by omega) (by omega), by simp [zup], by simp [zup], by omega, fun k hk => ?_, g5⟩
  have := g4 k hk
  simpa [zup, zset, va_cpy, hk] using this

set_option maxHeartbeats 4000000 in
set_option maxRecDepth 100000 in
theorem s_LGfull {D : zD} {z0 nx : Nat} {L : zL} {V : zV} {a f : Nat} {l : List Nat} (hs : sLg L a) (h : LG V a f l) : Sp D z0 1 0 0 mX2_isFull [.ref a] L V nx (zi (zb (120 ≤ f + l.length)) L V nx) := by
  have hs0 := hs
  have h0 := h
  obtain ⟨h1, h2⟩ := hs
  obtain ⟨g1, g2, g3, g4, g5⟩ := h
  refine Sp.of 0 (by decide) rfl rfl (Nat.le_of_ble_eq_true rfl) ?_
  refine z_aload_n dX2_isFull_0 rfl ?_
  refine z_getIe dX2_isFull_1 fX2_15 (by first | assumption | exact And.left (by assumption)) rfl (by first | assumption | exact zup_s _ _ _ _ | rfl) ?_
  refine z_aload_n dX2_isFull_4 rfl ?_
  refine z_getIe dX2_isFull_5 fX2_19 (by first | assumption | exact And.left (by assumption)) rfl (by first | assumption | exact zup_s _ _ _ _ | rfl) ?_
  refine z_addN dX2_isFull_8 ?_
  refine z_bipush (v := nI 120) dX2_isFull_9 rfl ?_
  refine z_icmp_ltN (tgt := 18) dX2_isFull_11 (by decide) (by omega) (by omega) (fun c_11 => ?_) (fun c_11 => ?_)
  · refine z_iconst (v := nI 0) dX2_isFull_18 rfl ?_
    refine z_zreturn dX2_isFull_19 (Nat.le_of_ble_eq_true rfl) (Nat.le_of_ble_eq_true rfl) rfl (by first | exact Or.inl rfl | exact Or.inr rfl | exact zb_01 _ | assumption) ?_
    exact zi_r (by first | exact (zb_t (by omega)).symm | exact (zb_f (by omega)).symm)
  · refine z_iconst (v := nI 1) dX2_isFull_14 rfl ?_
    refine z_goto (tgt := 19) dX2_isFull_15 (by decide) ?_
    refine z_zreturn dX2_isFull_19 (Nat.le_of_ble_eq_true rfl) (Nat.le_of_ble_eq_true rfl) rfl (by first | exact Or.inl rfl | exact Or.inr rfl | exact zb_01 _ | assumption) ?_
    exact zi_r (by first | exact (zb_t (by omega)).symm | exact (zb_f (by omega)).symm)

set_option maxHeartbeats 4000000 in
set_option maxRecDepth 100000 in
theorem s_LGapp {D : zD} {z0 nx : Nat} {L : zL} {V : zV} {a f c : Nat} {b : Bool} {l : List Nat} (hs : sLg L a) (h : LG V a f l) (hl : f + l.length < 120) (hc : c < 1000000000) : Sp D z0 2 0 0 mX2_append [.ref a, .int (nI c), .int (zb (b = true))] L V nx (zq none L nx (fun V' => zEq V V' a (a + 2) ∧ LG V' a f (l ++ [c * 2 + if b then 1 else 0]))) := by
  have hs0 := hs
  have h0 := h
  obtain ⟨h1, h2⟩ := hs
  obtain ⟨g1, g2, g3, g4, g5⟩ := h
  refine Sp.of 0 (by decide) rfl rfl (Nat.le_of_ble_eq_true rfl) ?_
  refine z_aload_n dX2_append_0 rfl ?_
  refine z_callV0i dX2_append_1 kX2_isFull lX2_28 (by first | assumption | exact And.left (by assumption)) rfl (s_LGfull (by assumption) (by assumption)) (Nat.le_of_ble_eq_true rfl) (Nat.le_of_ble_eq_true rfl) ⟨Nat.le_of_ble_eq_true rfl, Nat.le_of_ble_eq_true rfl⟩ ?_
  refine z_if_neB (tgt := 44) dX2_append_4 (by decide) (fun c_4 => ?_) (fun c_4 => ?_)
  · exact absurd c_4 (by omega)
  · refine z_aload_n dX2_append_7 rfl ?_
    refine z_getR dX2_append_8 fX2_9 (by first | assumption | exact And.left (by assumption)) rfl ?_
    refine z_aload_n dX2_append_11 rfl ?_
    refine z_getIe dX2_append_12 fX2_15 (by first | assumption | exact And.left (by assumption)) rfl (by first | assumption | exact zup_s _ _ _ _ | rfl) ?_
    refine z_aload_n dX2_append_15 rfl ?_
    refine z_getIe dX2_append_16 fX2_19 (by first | assumption | exact And.left (by assumption)) rfl (by first | assumption | exact zup_s _ _ _ _ | rfl) ?_
    refine z_addN dX2_append_19 ?_
    refine z_iload_n dX2_append_20 rfl ?_
    refine z_iconst (v := nI 1) dX2_append_21 rfl ?_
    refine z_shlN dX2_append_22 (by decide) (by omega) ?_
    refine z_iload_n dX2_append_23 rfl ?_
    refine z_if_eqB (tgt := 31) dX2_append_24 (by decide) (fun c_24 => ?_) (fun c_24 => ?_)
    · refine z_iconst (v := nI 0) dX2_append_31 rfl ?_
      refine z_orN dX2_append_32 (by omega) ?_
      refine z_iastN dX2_append_33 (by first | assumption | exact And.left (by assumption)) (by omega) (by decide) ?_
      refine z_aload_n dX2_append_34 rfl ?_
      refine z_dup dX2_append_35 rfl ?_
      refine z_getIe dX2_append_36 fX2_19 (by first | assumption | exact And.left (by assumption)) rfl ((congrFun (zup_a (by omega)) _).trans g2) ?_
      refine z_iconst (v := nI 1) dX2_append_39 rfl ?_
      refine z_addN dX2_append_40 ?_
      refine z_putI dX2_append_41 fX2_19 (by first | assumption | exact And.left (by assumption)) rfl ?_
      refine z_return dX2_append_44 (Nat.le_of_ble_eq_true rfl) (Nat.le_of_ble_eq_true rfl) rfl ?_
      refine ⟨rfl, rfl, rfl, (zEq.rf.up (by omega) (by omega)).up (by omega) (by omega), ?_⟩
      first | rw [if_pos c_24] | rw [if_neg c_24]
      exact LG_app h0 hl (by omega)
    · refine z_iconst (v := nI 1) dX2_append_27 rfl ?_
      refine z_goto (tgt := 32) dX2_append_28 (by decide) ?_
      refine z_orN dX2_append_32 (by omega) ?_
      refine z_iastN dX2_append_33 (by first | assumption | exact And.left (by assumption)) (by omega) (by decide) ?_
      refine z_aload_n dX2_append_34 rfl ?_
      refine z_dup dX2_append_35 rfl ?_
      refine z_getIe dX2_append_36 fX2_19 (by first | assumption | exact And.left (by assumption)) rfl ((congrFun (zup_a (by omega)) _).trans g2) ?_
      refine z_iconst (v := nI 1) dX2_append_39 rfl ?_
      refine z_addN dX2_append_40 ?_
      refine z_putI dX2_append_41 fX2_19 (by first | assumption | exact And.left (by assumption)) rfl ?_
      refine z_return dX2_append_44 (Nat.le_of_ble_eq_true rfl) (Nat.le_of_ble_eq_true rfl) rfl ?_
      refine ⟨rfl, rfl, rfl, (zEq.rf.up (by omega) (by omega)).up (by omega) (by omega), ?_⟩
      first | rw [if_pos c_24] | rw [if_neg c_24]
      exact LG_app h0 hl (by omega)

set_option maxHeartbeats 4000000 in
set_option maxRecDepth 100000 in
theorem s_itemAt {D : zD} {z0 nx : Nat} {L : zL} {V : zV} {a f k : Nat} {l : List Nat} (hs : sLg L a) (h : LG V a f l) (hk : k < l.length) : Sp D z0 1 0 0 mX2_itemAt [.ref a, .int (nI k)] L V nx (zi (nI (l.getD k 0)) L V nx) := by
  have hs0 := hs
  have h0 := h
  obtain ⟨h1, h2⟩ := hs
  obtain ⟨g1, g2, g3, g4, g5⟩ := h
  refine Sp.of 0 (by decide) rfl rfl (Nat.le_of_ble_eq_true rfl) ?_
  refine z_iload_n dX2_itemAt_0 rfl ?_
  refine z_if_ltN (tgt := 26) dX2_itemAt_1 (by decide) (by omega) ?_
  refine z_iload_n dX2_itemAt_4 rfl ?_
  refine z_aload_n dX2_itemAt_5 rfl ?_
  refine z_getIe dX2_itemAt_6 fX2_19 (by first | assumption | exact And.left (by assumption)) rfl (by first | assumption | exact zup_s _ _ _ _ | rfl) ?_
  refine z_icmp_geN (tgt := 26) dX2_itemAt_9 (by decide) (by omega) (by omega) (fun c_9 => ?_) (fun c_9 => ?_)
  · exact absurd c_9 (by omega)
  · refine z_aload_n dX2_itemAt_12 rfl ?_
    refine z_getR dX2_itemAt_13 fX2_9 (by first | assumption | exact And.left (by assumption)) rfl ?_
    refine z_aload_n dX2_itemAt_16 rfl ?_
    refine z_getIe dX2_itemAt_17 fX2_15 (by first | assumption | exact And.left (by assumption)) rfl (by first | assumption | exact zup_s _ _ _ _ | rfl) ?_
    refine z_iload_n dX2_itemAt_20 rfl ?_
    refine z_addN dX2_itemAt_21 ?_
    refine z_ialdN dX2_itemAt_22 (by first | assumption | exact And.left (by assumption)) (by omega) (by decide) (g4 k hk) ?_
    refine z_goto (tgt := 27) dX2_itemAt_23 (by decide) ?_
    refine z_ireturn dX2_itemAt_27 (Nat.le_of_ble_eq_true rfl) (Nat.le_of_ble_eq_true rfl) rfl ?_
    exact zi_r rfl

set_option maxHeartbeats 4000000 in
set_option maxRecDepth 100000 in
theorem s_LGdrop {D : zD} {z0 nx : Nat} {L : zL} {V : zV} {a f c : Nat} {l : List Nat} (hs : sLg L a) (h : LG V a f (c :: l)) : Sp D z0 1 0 0 mX2_dropFirst [.ref a] L V nx (zq none L nx (fun V' => zEq V V' a (a + 2) ∧ LG V' a (f + 1) l)) := by
  have hs0 := hs
  have h0 := h
  obtain ⟨h1, h2⟩ := hs
  obtain ⟨g1, g2, g3, g4, g5⟩ := h
  simp only [List.length_cons] at g2 g3
  refine Sp.of 0 (by decide) rfl rfl (Nat.le_of_ble_eq_true rfl) ?_
  refine z_aload_n dX2_dropFirst_0 rfl ?_
  refine z_getIe dX2_dropFirst_1 fX2_19 (by first | assumption | exact And.left (by assumption)) rfl (by first | assumption | exact zup_s _ _ _ _ | rfl) ?_
  refine z_if_leN (tgt := 27) dX2_dropFirst_4 (by decide) (by omega) (fun c_4 => ?_) (fun c_4 => ?_)
  · exact absurd c_4 (by omega)
  · refine z_aload_n dX2_dropFirst_7 rfl ?_
    refine z_dup dX2_dropFirst_8 rfl ?_
    refine z_getIe dX2_dropFirst_9 fX2_15 (by first | assumption | exact And.left (by assumption)) rfl (by first | assumption | exact zup_s _ _ _ _ | rfl) ?_
    refine z_iconst (v := nI 1) dX2_dropFirst_12 rfl ?_
    refine z_addN dX2_dropFirst_13 ?_
    refine z_putI dX2_dropFirst_14 fX2_15 (by first | assumption | exact And.left (by assumption)) rfl ?_
    refine z_aload_n dX2_dropFirst_17 rfl ?_
    refine z_dup dX2_dropFirst_18 rfl ?_
    refine z_getIe dX2_dropFirst_19 fX2_19 (by first | assumption | exact And.left (by assumption)) rfl ((zup_k (by omega)).trans g2) ?_
    refine z_iconst (v := nI 1) dX2_dropFirst_22 rfl ?_
    refine z_subN dX2_dropFirst_23 (by omega) ?_
    refine z_putI dX2_dropFirst_24 fX2_19 (by first | assumption | exact And.left (by assumption)) rfl ?_
    refine z_return dX2_dropFirst_27 (Nat.le_of_ble_eq_true rfl) (Nat.le_of_ble_eq_true rfl) rfl ?_
    exact ⟨rfl, rfl, rfl, (zEq.rf.up (by omega) (by omega)).up (by omega) (by omega), LG_drop h0⟩

def ww : Option (Option Nat) → Int32
  | none => -2
  | some x => vv x
abbrev Tr : Type := Bool × Nat × (Nat → Option (Option Nat))
def sTr (L : zL) (a : Nat) : Prop := L a = some (.inr (.inr (9, [none, none, none, some (.ref (a + 1))]))) ∧ L (a + 1) = some (.inl (0, 48))
def TR (V : zV) (a : Nat) (t : Tr) : Prop := V a 0 = zb (t.1 = true) ∧ V a 1 = nI t.2.1 ∧ V a 2 = nI (cn (fun r => t.2.2 r ≠ none) 48) ∧ (∀ r, r < 48 → V (a + 1) r = ww (t.2.2 r)) ∧ t.2.1 < 1000000 ∧ ∀ r p, t.2.2 r = some (some p) → p < 1000000
theorem TR.eq {V V' : zV} {a lo hi : Nat} {t : Tr} (h : TR V a t) (he : zEq V V' lo hi) (hd : a + 2 ≤ lo ∨ hi ≤ a) : TR V' a t := by
  unfold TR at h ⊢
  rw [he a (by omega), he (a + 1) (by omega)]
  exact h
theorem vv_ne2 {v : Option Nat} (h : ∀ p, v = some p → p < 1000000) : ¬ vv v = -2 := by
  cases v with
  | none => exact (by decide)
  | some p =>
    intro q
    have h1 : ¬ nI p < 0 := nI_pos (by have := h p rfl; omega)
    have q' : nI p = -2 := q
    rw [q'] at h1
    exact h1 (by decide)
theorem ww_2 {x : Option (Option Nat)} (h : ∀ p, x = some (some p) → p < 1000000) : ww x = -2 ↔ x = none := by
  cases x with
  | none => exact ⟨fun _ => rfl, fun _ => rfl⟩
  | some v => exact ⟨fun q => absurd q (vv_ne2 (fun p hp => h p (by rw [hp]))), fun q => by cases q⟩
theorem cn_upd {p q : Nat → Prop} {i : Nat} : ∀ {n : Nat}, i < n → (∀ k, k ≠ i → (p k ↔ q k)) → ¬ p i → q i → cn q n = cn p n + 1
  | 0, h, _, _, _ => absurd h (by omega)
  | n + 1, h, hk, hp, hq => by
    by_cases e : i = n
    · subst e
      rw [cn_y hq, cn_n hp, cn_cg (fun k hk' => (hk k (by omega)).symm)]
    · have ih := cn_upd (n := n) (by omega) hk hp hq
      by_cases c : p n
      · rw [cn_y c, cn_y ((hk n (fun z => e z.symm)).mp c), ih]
      · rw [cn_n c, cn_n (fun z => c ((hk n (fun z => e z.symm)).mpr z)), ih]
theorem cn_0 {p : Nat → Prop} : ∀ {n : Nat}, (∀ k, k < n → ¬ p k) → cn p n = 0
  | 0, _ => rfl
  | n + 1, h => by rw [cn_n (h n (by omega)), cn_0 (fun k hk => h k (by omega))]

set_option maxHeartbeats 4000000 in
set_option maxRecDepth 100000 in
theorem s_hasWritten {D : zD} {z0 nx : Nat} {L : zL} {V : zV} {a r : Nat} {t : Tr} (hs : sTr L a) (h : TR V a t) (hr : r < 48) : Sp D z0 1 0 0 mX9_hasWritten [.ref a, .int (nI r)] L V nx (zi (zb (t.2.2 r ≠ none)) L V nx) := by
  have hs0 := hs
  have h0 := h
  obtain ⟨h1, h2⟩ := hs
  obtain ⟨g1, g2, g3, g4, g5, g6⟩ := h
  refine Sp.of 0 (by decide) rfl rfl (Nat.le_of_ble_eq_true rfl) ?_
  refine z_aload_n dX9_hasWritten_0 rfl ?_
  refine z_getR dX9_hasWritten_1 fX9_9 (by first | assumption | exact And.left (by assumption)) rfl ?_
  refine z_iload_n dX9_hasWritten_4 rfl ?_
  refine z_ialdN dX9_hasWritten_5 (by first | assumption | exact And.left (by assumption)) (by omega) (by decide) (by first | assumption | exact zup_s _ _ _ _ | rfl) ?_
  refine z_bipush (v := (-2)) dX9_hasWritten_6 rfl ?_
  refine z_icmp_eq (tgt := 15) dX9_hasWritten_8 (by decide) (fun c_8 => ?_) (fun c_8 => ?_)
  · refine z_iconst (v := nI 0) dX9_hasWritten_15 rfl ?_
    refine z_zreturn dX9_hasWritten_16 (Nat.le_of_ble_eq_true rfl) (Nat.le_of_ble_eq_true rfl) rfl (by first | exact Or.inl rfl | exact Or.inr rfl | exact zb_01 _ | assumption) ?_
    exact zi_r (by first | exact (zb_t (fun q => by simp_all [ww])).symm | exact (zb_f (fun q => q ((ww_2 (fun p hp => g6 r p hp)).mp (by rw [← g4 r hr]; assumption)))).symm)
  · refine z_iconst (v := nI 1) dX9_hasWritten_11 rfl ?_
    refine z_goto (tgt := 16) dX9_hasWritten_12 (by decide) ?_
    refine z_zreturn dX9_hasWritten_16 (Nat.le_of_ble_eq_true rfl) (Nat.le_of_ble_eq_true rfl) rfl (by first | exact Or.inl rfl | exact Or.inr rfl | exact zb_01 _ | assumption) ?_
    exact zi_r (by first | exact (zb_t (fun q => by simp_all [ww])).symm | exact (zb_f (fun q => q ((ww_2 (fun p hp => g6 r p hp)).mp (by rw [← g4 r hr]; assumption)))).symm)

set_option maxHeartbeats 4000000 in
set_option maxRecDepth 100000 in
theorem s_hasRoom {D : zD} {z0 nx : Nat} {L : zL} {V : zV} {a r : Nat} {t : Tr} (hs : sTr L a) (h : TR V a t) (hr : r < 48) : Sp D z0 2 0 0 mX9_hasRoomFor [.ref a, .int (nI r)] L V nx (zi (zb (t.2.2 r ≠ none ∨ cn (fun r => t.2.2 r ≠ none) 48 < 8)) L V nx) := by
  have hs0 := hs
  have h0 := h
  obtain ⟨h1, h2⟩ := hs
  obtain ⟨g1, g2, g3, g4, g5, g6⟩ := h
  have hcl := cn_le (fun r => t.2.2 r ≠ none) 48
  refine Sp.of 0 (by decide) rfl rfl (Nat.le_of_ble_eq_true rfl) ?_
  refine z_aload_n dX9_hasRoomFor_0 rfl ?_
  refine z_iload_n dX9_hasRoomFor_1 rfl ?_
  refine z_callV1i dX9_hasRoomFor_2 kX9_hasWritten lX9_32 (by first | assumption | exact And.left (by assumption)) rfl (s_hasWritten (by assumption) (by assumption) (by omega)) (Nat.le_of_ble_eq_true rfl) (Nat.le_of_ble_eq_true rfl) ⟨Nat.le_of_ble_eq_true rfl, Nat.le_of_ble_eq_true rfl⟩ ?_
  refine z_if_neB (tgt := 17) dX9_hasRoomFor_5 (by decide) (fun c_5 => ?_) (fun c_5 => ?_)
  · refine z_iconst (v := nI 1) dX9_hasRoomFor_17 rfl ?_
    refine z_goto (tgt := 22) dX9_hasRoomFor_18 (by decide) ?_
    refine z_zreturn dX9_hasRoomFor_22 (Nat.le_of_ble_eq_true rfl) (Nat.le_of_ble_eq_true rfl) rfl (by first | exact Or.inl rfl | exact Or.inr rfl | exact zb_01 _ | assumption) ?_
    exact zi_r (by first | exact (zb_t (Or.inl c_5)).symm | exact (zb_t (Or.inr c_14)).symm | exact (zb_f (fun q => q.elim (fun z => c_5 z) (fun z => by omega))).symm)
  · refine z_aload_n dX9_hasRoomFor_8 rfl ?_
    refine z_getIe dX9_hasRoomFor_9 fX9_23 (by first | assumption | exact And.left (by assumption)) rfl (by first | assumption | exact zup_s _ _ _ _ | rfl) ?_
    refine z_bipush (v := nI 8) dX9_hasRoomFor_12 rfl ?_
    refine z_icmp_geN (tgt := 21) dX9_hasRoomFor_14 (by decide) (by omega) (by omega) (fun c_14 => ?_) (fun c_14 => ?_)
    · refine z_iconst (v := nI 0) dX9_hasRoomFor_21 rfl ?_
      refine z_zreturn dX9_hasRoomFor_22 (Nat.le_of_ble_eq_true rfl) (Nat.le_of_ble_eq_true rfl) rfl (by first | exact Or.inl rfl | exact Or.inr rfl | exact zb_01 _ | assumption) ?_
      exact zi_r (by first | exact (zb_t (Or.inl c_5)).symm | exact (zb_t (Or.inr c_14)).symm | exact (zb_f (fun q => q.elim (fun z => c_5 z) (fun z => by omega))).symm)
    · refine z_iconst (v := nI 1) dX9_hasRoomFor_17 rfl ?_
      refine z_goto (tgt := 22) dX9_hasRoomFor_18 (by decide) ?_
      refine z_zreturn dX9_hasRoomFor_22 (Nat.le_of_ble_eq_true rfl) (Nat.le_of_ble_eq_true rfl) rfl (by first | exact Or.inl rfl | exact Or.inr rfl | exact zb_01 _ | assumption) ?_
      exact zi_r (by first | exact (zb_t (Or.inl c_5)).symm | exact (zb_t (Or.inr c_14)).symm | exact (zb_f (fun q => q.elim (fun z => c_5 z) (fun z => by omega))).symm)

set_option maxHeartbeats 4000000 in
set_option maxRecDepth 100000 in
theorem s_start {D : zD} {z0 nx : Nat} {L : zL} {V : zV} {a sq : Nat} {t : Tr} (hs : sTr L a) (h : TR V a t) (hq : sq < 1000000) : Sp D z0 1 0 0 mX9_start [.ref a, .int (nI sq)] L V nx (zq none L nx (fun V' => zEq V V' a (a + 2) ∧ TR V' a (true, sq, t.2.2))) := by
  have hs0 := hs
  have h0 := h
  obtain ⟨h1, h2⟩ := hs
  obtain ⟨g1, g2, g3, g4, g5, g6⟩ := h
  refine Sp.of 0 (by decide) rfl rfl (Nat.le_of_ble_eq_true rfl) ?_
  refine z_aload_n dX9_start_0 rfl ?_
  refine z_iconst (v := nI 1) dX9_start_1 rfl ?_
  refine z_putZ dX9_start_2 fX9_15 (by first | assumption | exact And.left (by assumption)) rfl (by first | exact Or.inl rfl | exact Or.inr rfl | assumption) ?_
  refine z_aload_n dX9_start_5 rfl ?_
  refine z_iload_n dX9_start_6 rfl ?_
  refine z_putI dX9_start_7 fX9_19 (by first | assumption | exact And.left (by assumption)) rfl ?_
  refine z_return dX9_start_10 (Nat.le_of_ble_eq_true rfl) (Nat.le_of_ble_eq_true rfl) rfl ?_
  refine ⟨rfl, rfl, rfl, (zEq.rf.up (by omega) (by omega)).up (by omega) (by omega), ?_, ?_, ?_, ?_, hq, g6⟩
  · simp [zup, zb_t]; rfl
  · simp [zup]
  · simp [zup]; exact g3
  · intro r hr; simp [zup]; exact g4 r hr

theorem TR_wr {V : zV} {a r : Nat} {t : Tr} {v : Option Nat} {n : Nat} (h : TR V a t) (hr : r < 48) (hv : ∀ p, v = some p → p < 1000000) (hn : n = cn (fun q => (if q = r then some v else t.2.2 q) ≠ none) 48) : TR (zup (zup V a 2 (nI n)) (a + 1) r (vv v)) a (t.1, t.2.1, fun q => if q = r then some v else t.2.2 q) := by
  obtain ⟨g1, g2, g3, g4, g5, g6⟩ := h
  refine ⟨by simp [zup]; exact g1, by simp [zup]; exact g2, by simp [zup, hn], fun q hq => ?_, g5, fun q p hp => ?_⟩
  · by_cases e : q = r
    · subst e; simp [zup, ww]
    · simp [zup, e]; exact g4 q hq
  · by_cases e : q = r
    · simp only [e, if_pos] at hp
      exact hv p (by simpa using hp)
    · simp only [e, if_neg, if_false] at hp
      exact g6 q p hp
theorem zup_same {V : zV} {a k : Nat} {x : Int32} (h : V a k = x) : zup V a k x = V := by
  funext q j
  simp only [zup]
  split
  · rename_i c; rw [c.1, c.2, h]
  · rfl

set_option maxHeartbeats 4000000 in
set_option maxRecDepth 100000 in
theorem s_write {D : zD} {z0 nx : Nat} {L : zL} {V : zV} {a r : Nat} {t : Tr} {v : Option Nat} (hs : sTr L a) (h : TR V a t) (hr : r < 48) (hv : ∀ p, v = some p → p < 1000000) : Sp D z0 2 0 0 mX9_write [.ref a, .int (nI r), .int (vv v)] L V nx (zq none L nx (fun V' => zEq V V' a (a + 2) ∧ TR V' a (t.1, t.2.1, fun q => if q = r then some v else t.2.2 q))) := by
  have hs0 := hs
  have h0 := h
  obtain ⟨h1, h2⟩ := hs
  obtain ⟨g1, g2, g3, g4, g5, g6⟩ := h
  have hcl := cn_le (fun r => t.2.2 r ≠ none) 48
  refine Sp.of 0 (by decide) rfl rfl (Nat.le_of_ble_eq_true rfl) ?_
  refine z_aload_n dX9_write_0 rfl ?_
  refine z_iload_n dX9_write_1 rfl ?_
  refine z_callV1i dX9_write_2 kX9_hasWritten lX9_32 (by first | assumption | exact And.left (by assumption)) rfl (s_hasWritten (by assumption) (by assumption) (by omega)) (Nat.le_of_ble_eq_true rfl) (Nat.le_of_ble_eq_true rfl) ⟨Nat.le_of_ble_eq_true rfl, Nat.le_of_ble_eq_true rfl⟩ ?_
  refine z_if_neB (tgt := 18) dX9_write_5 (by decide) (fun c_5 => ?_) (fun c_5 => ?_)
  · refine z_aload_n dX9_write_18 rfl ?_
    refine z_getR dX9_write_19 fX9_9 (by first | assumption | exact And.left (by assumption)) rfl ?_
    refine z_iload_n dX9_write_22 rfl ?_
    refine z_iload_n dX9_write_23 rfl ?_
    refine z_iastN dX9_write_24 (by first | assumption | exact And.left (by assumption)) (by omega) (by decide) ?_
    refine z_return dX9_write_25 (Nat.le_of_ble_eq_true rfl) (Nat.le_of_ble_eq_true rfl) rfl ?_
    first
      | exact ⟨rfl, rfl, rfl, (zEq.rf.up (by omega) (by omega)).up (by omega) (by omega), TR_wr h0 hr hv (cn_upd hr (fun k hk => by simp [hk]) c_5 (by simp)).symm⟩
      | exact ⟨rfl, rfl, rfl, zEq.rf.up (by omega) (by omega), by
          have e := TR_wr h0 hr hv (n := cn (fun r => t.2.2 r ≠ none) 48) (cn_cg (fun k hk => by by_cases e : k = r <;> simp_all))
          rwa [zup_same g3] at e⟩
  · refine z_aload_n dX9_write_8 rfl ?_
    refine z_dup dX9_write_9 rfl ?_
    refine z_getIe dX9_write_10 fX9_23 (by first | assumption | exact And.left (by assumption)) rfl (by first | assumption | exact zup_s _ _ _ _ | rfl) ?_
    refine z_iconst (v := nI 1) dX9_write_13 rfl ?_
    refine z_addN dX9_write_14 ?_
    refine z_putI dX9_write_15 fX9_23 (by first | assumption | exact And.left (by assumption)) rfl ?_
    refine z_aload_n dX9_write_18 rfl ?_
    refine z_getR dX9_write_19 fX9_9 (by first | assumption | exact And.left (by assumption)) rfl ?_
    refine z_iload_n dX9_write_22 rfl ?_
    refine z_iload_n dX9_write_23 rfl ?_
    refine z_iastN dX9_write_24 (by first | assumption | exact And.left (by assumption)) (by omega) (by decide) ?_
    refine z_return dX9_write_25 (Nat.le_of_ble_eq_true rfl) (Nat.le_of_ble_eq_true rfl) rfl ?_
    first
      | exact ⟨rfl, rfl, rfl, (zEq.rf.up (by omega) (by omega)).up (by omega) (by omega), TR_wr h0 hr hv (cn_upd hr (fun k hk => by simp [hk]) c_5 (by simp)).symm⟩
      | exact ⟨rfl, rfl, rfl, zEq.rf.up (by omega) (by omega), by
          have e := TR_wr h0 hr hv (n := cn (fun r => t.2.2 r ≠ none) 48) (cn_cg (fun k hk => by by_cases e : k = r <;> simp_all))
          rwa [zup_same g3] at e⟩

def wre (V : zV) (b i : Nat) : zV := fun q j => if q = b ∧ j < i then -2 else V q j
theorem wre_0 (V : zV) (b : Nat) : wre V b 0 = V := by
  funext q j
  simp [wre]
theorem wre_s {V : zV} {b i : Nat} : zup (wre V b i) b i (-2) = wre V b (i + 1) := by
  funext q j
  simp only [zup, wre]
  by_cases e1 : q = b
  · subst e1
    by_cases e2 : j = i
    · subst e2; simp
    · have : (j < i + 1) ↔ j < i := by omega
      simp [e2, this]
  · simp [e1]

set_option maxHeartbeats 4000000 in
set_option maxRecDepth 100000 in
theorem lp_end {D : zD} {z0 nx : Nat} {L : zL} {V : zV} {a : Nat} (hs : sTr L a) : ∀ (fu : Nat) (i : Nat), 48 - i = fu → i ≤ 48 → Z D z0 1 0 0 mX9_end 0 0 17 [some (.ref a), some (.int (nI i))] [] L (wre V (a + 1) i) nx (zq none L nx (fun V' => V' = wre V (a + 1) 48)) := by
  intro fu
  induction fu using Nat.strongRecOn with
  | ind fu ih =>
    intro i h_fu h_0
    obtain ⟨h1, h2⟩ := hs
    refine z_iload_n dX9_end_17 rfl ?_
    refine z_bipush (v := nI 48) dX9_end_18 rfl ?_
    refine z_icmp_geN (tgt := 37) dX9_end_20 (by decide) (by omega) (by omega) (fun c_20 => ?_) (fun c_20 => ?_)
    · refine z_return dX9_end_37 (Nat.le_of_ble_eq_true rfl) (Nat.le_of_ble_eq_true rfl) rfl ?_
      exact ⟨rfl, rfl, rfl, by rw [show i = 48 by omega]⟩
    · refine z_aload_n dX9_end_23 rfl ?_
      refine z_getR dX9_end_24 fX9_9 (by first | assumption | exact And.left (by assumption)) rfl ?_
      refine z_iload_n dX9_end_27 rfl ?_
      refine z_bipush (v := (-2)) dX9_end_28 rfl ?_
      refine z_iastN dX9_end_30 (by first | assumption | exact And.left (by assumption)) (by omega) (by decide) ?_
      refine z_incN dX9_end_31 rfl rfl ?_
      refine z_goto (tgt := 17) dX9_end_34 (by decide) ?_
      rw [wre_s]
      exact ih _ (by omega) (i + 1) rfl (by omega)

set_option maxHeartbeats 4000000 in
set_option maxRecDepth 100000 in
theorem s_end {D : zD} {z0 nx : Nat} {L : zL} {V : zV} {a : Nat} (hs : sTr L a) : Sp D z0 1 0 0 mX9_end [.ref a] L V nx (zq none L nx (fun V' => zEq V V' a (a + 2) ∧ TR V' a (false, 0, fun _ => none))) := by
  have hs0 := hs
  obtain ⟨h1, h2⟩ := hs
  refine Sp.of 1 (by decide) rfl rfl (Nat.le_of_ble_eq_true rfl) ?_
  refine z_aload_n dX9_end_0 rfl ?_
  refine z_iconst (v := nI 0) dX9_end_1 rfl ?_
  refine z_putZ dX9_end_2 fX9_15 (by first | assumption | exact And.left (by assumption)) rfl (by first | exact Or.inl rfl | exact Or.inr rfl | assumption) ?_
  refine z_aload_n dX9_end_5 rfl ?_
  refine z_iconst (v := nI 0) dX9_end_6 rfl ?_
  refine z_putI dX9_end_7 fX9_19 (by first | assumption | exact And.left (by assumption)) rfl ?_
  refine z_aload_n dX9_end_10 rfl ?_
  refine z_iconst (v := nI 0) dX9_end_11 rfl ?_
  refine z_putI dX9_end_12 fX9_23 (by first | assumption | exact And.left (by assumption)) rfl ?_
  refine z_iconst (v := nI 0) dX9_end_15 rfl ?_
  refine z_istore_n dX9_end_16 (Nat.le_of_ble_eq_true rfl) rfl ?_
  have hz := lp_end (D := D) (z0 := z0) (nx := nx) (V := zup (zup (zup V a 0 (nI 0)) a 1 (nI 0)) a 2 (nI 0)) hs0 _ 0 rfl (by omega)
  rw [wre_0] at hz
  refine hz.mono (fun v L2 V2 n2 h2 => ?_)
  obtain ⟨e1, e2, e3, e4⟩ := h2
  subst e4
  refine ⟨e1, e2, e3, fun q hq => ?_, ?_, ?_, ?_, ?_, by decide, fun r p hp => by cases hp⟩
  · have x1 : q ≠ a := by omega
    have x2 : q ≠ a + 1 := by omega
    funext j
    simp [wre, zup, x1, x2]
  · simp [wre, zup, zb_f]; rfl
  · simp [wre, zup]
  · simp [wre, zup]; rw [cn_0 (fun k hk q => q)]
  · intro r hr; simp [wre, hr, ww]

set_option maxHeartbeats 4000000 in
set_option maxRecDepth 100000 in
theorem s_TRcopy {D : zD} {z0 nx : Nat} {L : zL} {V : zV} {a b : Nat} {t : Tr} (hs : sTr L a) (hs2 : sTr L b) (h : TR V b t) (hab : a + 2 ≤ b ∨ b + 2 ≤ a) : Sp D z0 1 0 0 mX9_copyFrom [.ref a, .ref b] L V nx (zq none L nx (fun V' => zEq V V' a (a + 2) ∧ TR V' a t)) := by
  obtain ⟨k1, k2⟩ := hs2
  have hs0 := hs
  have h0 := h
  obtain ⟨h1, h2⟩ := hs
  obtain ⟨g1, g2, g3, g4, g5, g6⟩ := h
  refine Sp.of 0 (by decide) rfl rfl (Nat.le_of_ble_eq_true rfl) ?_
  refine z_aload_n dX9_copyFrom_0 rfl ?_
  refine z_aload_n dX9_copyFrom_1 rfl ?_
  refine z_getIe dX9_copyFrom_2 fX9_15 (by first | assumption | exact And.left (by assumption)) rfl (by first | assumption | exact zup_s _ _ _ _ | rfl) ?_
  refine z_putZb dX9_copyFrom_5 fX9_15 (by first | assumption | exact And.left (by assumption)) rfl ?_
  refine z_aload_n dX9_copyFrom_8 rfl ?_
  refine z_aload_n dX9_copyFrom_9 rfl ?_
  refine z_getIe dX9_copyFrom_10 fX9_19 (by first | assumption | exact And.left (by assumption)) rfl ((congrFun (zup_a (by omega)) _).trans g2) ?_
  refine z_putI dX9_copyFrom_13 fX9_19 (by first | assumption | exact And.left (by assumption)) rfl ?_
  refine z_aload_n dX9_copyFrom_16 rfl ?_
  refine z_aload_n dX9_copyFrom_17 rfl ?_
  refine z_getIe dX9_copyFrom_18 fX9_23 (by first | assumption | exact And.left (by assumption)) rfl ((congrFun ((zup_a (by omega)).trans (zup_a (by omega))) _).trans g3) ?_
  refine z_putI dX9_copyFrom_21 fX9_23 (by first | assumption | exact And.left (by assumption)) rfl ?_
  refine z_aload_n dX9_copyFrom_24 rfl ?_
  refine z_getR dX9_copyFrom_25 fX9_9 (by first | assumption | exact And.left (by assumption)) rfl ?_
  refine z_iconst (v := nI 0) dX9_copyFrom_28 rfl ?_
  refine z_aload_n dX9_copyFrom_29 rfl ?_
  refine z_getR dX9_copyFrom_30 fX9_9 (by first | assumption | exact And.left (by assumption)) rfl ?_
  refine z_iconst (v := nI 0) dX9_copyFrom_33 rfl ?_
  refine z_bipush (v := nI 48) dX9_copyFrom_34 rfl ?_
  refine z_copyN dX9_copyFrom_36 lX9_26 w_ac_n w_ac_s w_sys (by assumption) (by assumption) (by decide) (by decide) (by omega) (by omega) (Nat.le_of_ble_eq_true rfl) (Nat.le_of_ble_eq_true rfl) ?_
  refine z_return dX9_copyFrom_39 (Nat.le_of_ble_eq_true rfl) (Nat.le_of_ble_eq_true rfl) rfl ?_
  refine ⟨rfl, rfl, rfl, (((zEq.rf.up (by omega) (by omega)).up (by omega) (by omega)).up (by omega) (by omega)).set (by omega) (by omega), ?_, ?_, ?_, fun r hr => ?_, g5, g6⟩
  · simp [zup, zset]
  · simp [zup, zset]
  · simp [zup, zset]
  · have x1 : ¬ b + 1 = a := by omega
    have := g4 r hr
    simpa [zup, zset, va_cpy, hr, x1] using this

