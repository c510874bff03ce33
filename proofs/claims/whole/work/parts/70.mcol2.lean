/-- a column: fault, place, the columns then -/
noncomputable def rO1 (b : List Nat) (p : Nat) (o : List (Nat × Bool)) : Nat × Nat × List (Nat × Bool) := match clm b p with
  | none => (1, p, o)
  | some c => if po o c < o.length then (3, p, o) else (0, pd b p, o ++ [(c, pb (isW b (sk b (p + 1)) 1))])
noncomputable def rO0 (b : List Nat) (r p : Nat) (o : List (Nat × Bool)) : Nat × Nat × List (Nat × Bool) := if r = 0 then rO1 b p o else (r, p, o)
theorem rO1_n {b : List Nat} {p : Nat} {o : List (Nat × Bool)} (h : clm b p = none) : rO1 b p o = (1, p, o) := by unfold rO1; rw [h]
theorem rO1_3 {b : List Nat} {p c : Nat} {o : List (Nat × Bool)} (h : clm b p = some c) (h2 : po o c < o.length) : rO1 b p o = (3, p, o) := by unfold rO1; rw [h]; exact if_pos h2
theorem rO1_0 {b : List Nat} {p c : Nat} {o : List (Nat × Bool)} (h : clm b p = some c) (h2 : ¬ po o c < o.length) : rO1 b p o = (0, pd b p, o ++ [(c, pb (isW b (sk b (p + 1)) 1))]) := by unfold rO1; rw [h]; exact if_neg h2
theorem rO_s (b : List Nat) (f p : Nat) (o : List (Nat × Bool)) : rO b (f + 1) p o = @ite _ ((rO1 b p o).1 = 0 ∧ cma b (rO1 b p o).2.1) (Classical.propDecidable _) (rO b f (sk b ((rO1 b p o).2.1 + 1)) (rO1 b p o).2.2) (rO1 b p o) := by
  cases hc : clm b p with
  | none =>
    rw [rO1_n hc, if_neg (fun z => absurd z.1 (by simp)), rO]
    simp only [hc]
  | some c =>
    by_cases h2 : po o c < o.length
    · rw [rO1_3 hc h2, if_neg (fun z => absurd z.1 (by simp)), rO]
      simp only [hc]
      rw [if_pos h2]
    · rw [rO1_0 hc h2, rO]
      simp only [hc]
      rw [if_neg h2]
      by_cases h3 : cma b (pd b p)
      · rw [if_pos h3, if_pos ⟨rfl, h3⟩]
      · rw [if_neg h3, if_neg (fun z => h3 z.2)]
/-- what a column may change -/
def cF (V V' : zV) (m n : Nat) : Prop := (∀ q, q ≠ m → q ≠ m + 7 → V' q = V q) ∧ (∀ j, ¬ j ∈ [11, 12, 13, 16, 17] → V' m j = V m j) ∧ ∀ j, j ≠ 5 → j ≠ 6 + n → V' (m + 7) j = V (m + 7) j
theorem cF.fm {V V' : zV} {m n : Nat} (h : fm V V' m [11, 12, 13, 16, 17]) : cF V V' m n := ⟨fun q h1 _ => h.1 q h1, h.2, fun j _ _ => by rw [h.1 (m + 7) (by omega)]⟩
theorem pd_V {b : List Nat} {p : Nat} : pd b p = pv b 0 (sk b (p + 1)) 1 := by
  have h := isW_V (b := b) (p := sk b (p + 1)) (i := 1) (by decide)
  unfold pd pv
  by_cases c : isW b (sk b (p + 1)) 1
  · rw [if_pos c, if_pos ⟨rfl, h.mp c⟩]
    rfl
  · rw [if_neg c, if_neg (fun z => c (h.mpr z.2))]
theorem ndc_l {o : List (Nat × Bool)} {c : Nat} (h : ndc o) (hl : o.length ≤ 3) (h3 : ∀ k, k < o.length → (o.getD k (0, false)).1 < 3) (hc : c < 3) (h2 : ¬ po o c < o.length) : o.length < 3 := by
  rcases (show o.length = 3 ∨ o.length < 3 by omega) with e | e
  · exact absurd (po_full h e h3 hc) h2
  · exact e
theorem RO_snoc {V V' : zV} {m c : Nat} {x : Bool} {o : List (Nat × Bool)} (h : RO V m o) (hc : c < 3) (hl : o.length < 3) (e1 : V' (m + 7) 5 = nI (o.length + 1)) (e2 : V' (m + 7) (6 + o.length) = nI (c + (if x then 10 else 0))) (e3 : ∀ j, j ≠ 5 → j ≠ 6 + o.length → V' (m + 7) j = V (m + 7) j) : RO V' m (o ++ [(c, x)]) := by
  obtain ⟨r1, r2, r3⟩ := h
  have el : (o ++ [(c, x)]).length = o.length + 1 := by simp
  refine ⟨by rw [el]; exact e1, by omega, fun k hk => ?_⟩
  rw [el] at hk
  unfold kc
  rw [getD_snoc hk]
  by_cases e : k < o.length
  · rw [if_pos e, e3 _ (by omega) (by omega)]
    exact r3 k e
  · rw [if_neg e, show k = o.length by omega]
    exact ⟨e2, hc⟩

set_option maxHeartbeats 4000000 in
set_option maxRecDepth 100000 in
theorem lp_col64 {D : zD} {z0 nx : Nat} {L : zL} {V V1 : zV} {m p c : Nat} {b : List Nat} {o : List (Nat × Bool)} (hm : sM L m) (hf : fm V V1 m [11, 16, 17]) (hO : OUT V1 m b 0 p) (hP : PS V1 m b p) (h17 : V1 m 17 = nI (p + 1)) (hR : RO V1 m o) (hd : ndc o) (hc : clm b p = some c) (hp : ¬ po o c < o.length) : Z D z0 5 0 0 mX12_column 0 0 64 [some (.ref m), some (.int (nI c))] [] L V1 nx (zq none L nx (fun V' => OUT V' m b (rO1 b p o).1 (rO1 b p o).2.1 ∧ ((rO1 b p o).1 = 0 → RO V' m (rO1 b p o).2.2 ∧ ndc (rO1 b p o).2.2) ∧ cF V V' m o.length)) := by

  have hm0 := hm
  obtain ⟨a0, a1, a2, a3, a4, a5, a6, a7, a8, a9, a10, a11, a12, a13, a14, a15⟩ := hm
  obtain ⟨r5, r6, r7⟩ := hR
  have hc3 := (clm_some hc).1
  have hpl := (clm_some hc).2
  have hl3 := ndc_l hd r6 (fun k hk => (r7 k hk).2) hc3 hp
  have g3 := hP.1.2.2.1
  have hO2 : OUT (zup V1 m 11 (nI (p + 1))) m b 0 (sk b (p + 1)) := hO.go (ks := [11]) (fm.rf.up rfl) rfl rfl (hP.to (by omega)) (fun _ => rfl) (fun z => absurd rfl z)
  refine z_aload_n dX12_column_64 rfl ?_
  refine z_aload_n dX12_column_65 rfl ?_
  refine z_getIe dX12_column_66 fX12_232 (by first | assumption | exact And.left (by assumption)) rfl h17 ?_
  refine z_putI dX12_column_69 fX12_213 (by first | assumption | exact And.left (by assumption)) rfl ?_
  refine z_aload_n dX12_column_72 rfl ?_
  refine z_getR dX12_column_73 fX12_38 (by first | assumption | exact And.left (by assumption)) rfl ?_
  refine z_bipush (v := nI 6) dX12_column_76 rfl ?_
  refine z_aload_n dX12_column_78 rfl ?_
  refine z_getR dX12_column_79 fX12_38 (by first | assumption | exact And.left (by assumption)) rfl ?_
  refine z_iconst (v := nI 5) dX12_column_82 rfl ?_
  refine z_ialdN dX12_column_83 (by first | assumption | exact And.left (by assumption)) (by omega) (by decide) ((congrFun (zup_a (by omega)) 5).trans r5) ?_
  refine z_addN dX12_column_84 ?_
  refine z_iload_n dX12_column_85 rfl ?_
  refine z_aload_n dX12_column_86 rfl ?_
  refine z_iconst (v := nI 1) dX12_column_87 rfl ?_
  refine z_callV1q dX12_column_88 kX12_passes lX12_242 (by first | assumption | exact And.left (by assumption)) rfl (s_passes hm0 hO2 (by decide)) (Nat.le_of_ble_eq_true rfl) (Nat.le_of_ble_eq_true rfl) ⟨Nat.le_of_ble_eq_true rfl, Nat.le_of_ble_eq_true rfl⟩ ?_
  intro V3 hV3
  obtain ⟨e1, e2, e3⟩ := hV3
  have r9 : V3 (m + 7) = V1 (m + 7) := (e1.1 _ (by omega)).trans (zup_a (by omega))
  refine z_if_eqB (tgt := 99) dX12_column_91 (by decide) (fun c_91 => ?_) (fun c_91 => ?_)
  · have hx9 : pb (isW b (sk b (p + 1)) 1) = false := by
      have : ¬ pb (isW b (sk b (p + 1)) 1) = true := fun z => c_91 ⟨rfl, (isW_V (by decide)).mp (pb_iff.mp z)⟩
      simpa using this
    refine z_iconst (v := nI 0) dX12_column_99 rfl ?_
    refine z_addN dX12_column_100 ?_
    refine z_iastN dX12_column_101 (by first | assumption | exact And.left (by assumption)) (by omega) (by decide) ?_
    refine z_aload_n dX12_column_102 rfl ?_
    refine z_getR dX12_column_103 fX12_38 (by first | assumption | exact And.left (by assumption)) rfl ?_
    refine z_iconst (v := nI 5) dX12_column_106 rfl ?_
    refine z_dup2 dX12_column_107 rfl rfl ?_
    refine z_ialdN dX12_column_108 (by first | assumption | exact And.left (by assumption)) (by omega) (by decide) ((zup_k (by omega)).trans ((congrFun r9 5).trans r5)) ?_
    refine z_iconst (v := nI 1) dX12_column_109 rfl ?_
    refine z_addN dX12_column_110 ?_
    refine z_iastN dX12_column_111 (by first | assumption | exact And.left (by assumption)) (by omega) (by decide) ?_
    refine z_return dX12_column_112 (Nat.le_of_ble_eq_true rfl) (Nat.le_of_ble_eq_true rfl) rfl ?_
    rw [rO1_0 hc hp, pd_V]
    have hx : pb (isW b (sk b (p + 1)) 1) = false := hx9
    have hff : fm V V3 m [11, 12, 13, 16, 17] := ((hf.up (k := 11) (x := nI (p + 1)) rfl).trans e1).wide rfl
    have hcf : cF V (zup (zup V3 (m + 7) (6 + o.length) (nI (c + 0))) (m + 7) 5 (nI (o.length + 1))) m o.length := ⟨fun q q1 q2 => by rw [zup_a q2, zup_a q2]; exact hff.1 q q1, fun j hj => by rw [zup_a (by omega), zup_a (by omega)]; exact hff.2 j hj, fun j j1 j2 => by rw [zup_k j1, zup_k j2, r9, hf.1 (m + 7) (by omega)]⟩
    refine ⟨rfl, rfl, rfl, ?_, fun _ => ⟨RO_snoc (V := V1) (x := pb (isW b (sk b (p + 1)) 1)) ⟨r5, r6, r7⟩ hc3 hl3 (zup_s _ _ _ _) (by rw [zup_k (by omega), zup_s, hx] <;> rfl) (fun j j1 j2 => by rw [zup_k j1, zup_k j2, r9]), ndc_snoc hd (po_no hp)⟩, hcf⟩
    obtain ⟨u1, u2, u3, s, ⟨⟨v1, v2, v3, v4, v5⟩, v6⟩, u5⟩ := e2
    refine ⟨?_, u2, ?_, s, ⟨⟨?_, ?_, v3, v4, fun j hj => ?_⟩, fun j hj => ?_⟩, u5⟩
    · rw [zup_a (by omega), zup_a (by omega)]; exact u1
    · rw [zup_a (by omega), zup_a (by omega)]; exact u3
    · rw [zup_a (by omega), zup_a (by omega)]; exact v1
    · rw [zup_a (by omega), zup_a (by omega)]; exact v2
    · rw [zup_a (by omega), zup_a (by omega)]; exact v5 j hj
    · rw [zup_a (by omega), zup_a (by omega)]; exact v6 j hj
  · have hx9 : pb (isW b (sk b (p + 1)) 1) = true := pb_iff.mpr ((isW_V (by decide)).mpr c_91.2)
    refine z_bipush (v := nI 10) dX12_column_94 rfl ?_
    refine z_goto (tgt := 100) dX12_column_96 (by decide) ?_
    refine z_addN dX12_column_100 ?_
    refine z_iastN dX12_column_101 (by first | assumption | exact And.left (by assumption)) (by omega) (by decide) ?_
    refine z_aload_n dX12_column_102 rfl ?_
    refine z_getR dX12_column_103 fX12_38 (by first | assumption | exact And.left (by assumption)) rfl ?_
    refine z_iconst (v := nI 5) dX12_column_106 rfl ?_
    refine z_dup2 dX12_column_107 rfl rfl ?_
    refine z_ialdN dX12_column_108 (by first | assumption | exact And.left (by assumption)) (by omega) (by decide) ((zup_k (by omega)).trans ((congrFun r9 5).trans r5)) ?_
    refine z_iconst (v := nI 1) dX12_column_109 rfl ?_
    refine z_addN dX12_column_110 ?_
    refine z_iastN dX12_column_111 (by first | assumption | exact And.left (by assumption)) (by omega) (by decide) ?_
    refine z_return dX12_column_112 (Nat.le_of_ble_eq_true rfl) (Nat.le_of_ble_eq_true rfl) rfl ?_
    rw [rO1_0 hc hp, pd_V]
    have hx : pb (isW b (sk b (p + 1)) 1) = true := hx9
    have hff : fm V V3 m [11, 12, 13, 16, 17] := ((hf.up (k := 11) (x := nI (p + 1)) rfl).trans e1).wide rfl
    have hcf : cF V (zup (zup V3 (m + 7) (6 + o.length) (nI (c + 10))) (m + 7) 5 (nI (o.length + 1))) m o.length := ⟨fun q q1 q2 => by rw [zup_a q2, zup_a q2]; exact hff.1 q q1, fun j hj => by rw [zup_a (by omega), zup_a (by omega)]; exact hff.2 j hj, fun j j1 j2 => by rw [zup_k j1, zup_k j2, r9, hf.1 (m + 7) (by omega)]⟩
    refine ⟨rfl, rfl, rfl, ?_, fun _ => ⟨RO_snoc (V := V1) (x := pb (isW b (sk b (p + 1)) 1)) ⟨r5, r6, r7⟩ hc3 hl3 (zup_s _ _ _ _) (by rw [zup_k (by omega), zup_s, hx] <;> rfl) (fun j j1 j2 => by rw [zup_k j1, zup_k j2, r9]), ndc_snoc hd (po_no hp)⟩, hcf⟩
    obtain ⟨u1, u2, u3, s, ⟨⟨v1, v2, v3, v4, v5⟩, v6⟩, u5⟩ := e2
    refine ⟨?_, u2, ?_, s, ⟨⟨?_, ?_, v3, v4, fun j hj => ?_⟩, fun j hj => ?_⟩, u5⟩
    · rw [zup_a (by omega), zup_a (by omega)]; exact u1
    · rw [zup_a (by omega), zup_a (by omega)]; exact u3
    · rw [zup_a (by omega), zup_a (by omega)]; exact v1
    · rw [zup_a (by omega), zup_a (by omega)]; exact v2
    · rw [zup_a (by omega), zup_a (by omega)]; exact v5 j hj
    · rw [zup_a (by omega), zup_a (by omega)]; exact v6 j hj

set_option maxHeartbeats 4000000 in
set_option maxRecDepth 100000 in
theorem s_column {D : zD} {z0 nx : Nat} {L : zL} {V : zV} {m r p : Nat} {b : List Nat} (hm : sM L m) (hO : OUT V m b r p) {o : List (Nat × Bool)} (hR : r = 0 → RO V m o ∧ ndc o) : Sp D z0 5 0 0 mX12_column [.ref m] L V nx (zq none L nx (fun V' => OUT V' m b (rO0 b r p o).1 (rO0 b r p o).2.1 ∧ ((rO0 b r p o).1 = 0 → RO V' m (rO0 b r p o).2.2 ∧ ndc (rO0 b r p o).2.2) ∧ cF V V' m o.length)) := by
  have hm0 := hm
  obtain ⟨a0, a1, a2, a3, a4, a5, a6, a7, a8, a9, a10, a11, a12, a13, a14, a15⟩ := hm
  have hO0 := hO
  obtain ⟨o1, o2, o3, s, hP, hs⟩ := hO
  obtain ⟨⟨g1, g2, g3, g4, g5⟩, g6⟩ := id hP
  have hsk := sk_lt g4 g3
  refine Sp.of 1 (by decide) rfl rfl (Nat.le_of_ble_eq_true rfl) ?_
  refine z_aload_n dX12_column_0 rfl ?_
  refine z_getIe dX12_column_1 fX12_223 (by first | assumption | exact And.left (by assumption)) rfl o1 ?_
  refine z_if_eqN (tgt := 8) dX12_column_4 (by decide) (by first | exact wno_31 _ _ | omega) (fun c_4 => ?_) (fun c_4 => ?_)
  · subst c_4
    have hp := hs rfl
    subst hp
    obtain ⟨hR1, hR2⟩ := hR rfl
    refine z_aload_n dX12_column_8 rfl ?_
    refine z_callV0q dX12_column_9 kX12_word lX12_239 (by first | assumption | exact And.left (by assumption)) rfl (s_mWord hm0 hP) (Nat.le_of_ble_eq_true rfl) (Nat.le_of_ble_eq_true rfl) ⟨Nat.le_of_ble_eq_true rfl, Nat.le_of_ble_eq_true rfl⟩ ?_
    intro V1 hV1
    obtain ⟨f1, f2, f3, f4⟩ := hV1
    have w12 : V1 m 12 = nI 0 := (f1.2 12 (by decide)).trans o1
    refine z_iconst (v := nI 4) dX12_column_12 rfl ?_
    refine z_isub dX12_column_13 ?_
    refine z_istore_n dX12_column_14 (Nat.le_of_ble_eq_true rfl) rfl ?_
    refine z_iload_n dX12_column_15 rfl ?_
    refine z_i2l dX12_column_16 ?_
    refine z_lconst dX12_column_17 rfl ?_
    refine z_ldc2 dX12_column_18 qX12_248 ?_
    refine z_callS3i dX12_column_21 kX12_isIn lX12_86 (s_isIn (v := (nI (wno b (sk b s)) - nI 4).toInt64)) (Nat.le_of_ble_eq_true rfl) (Nat.le_of_ble_eq_true rfl) ⟨Nat.le_of_ble_eq_true rfl, Nat.le_of_ble_eq_true rfl⟩ ?_
    refine z_if_neB (tgt := 39) dX12_column_24 (by decide) (fun c_24 => ?_) (fun c_24 => ?_)
    · obtain ⟨c, hc3, hc, he, hr1⟩ := its_y (b := b) (p := sk b s) (by rw [i64] at c_24; exact c_24)
      rw [he]
      have hR3 := hR1.cg (V' := V1) (f1.1 _ (by omega))
      refine z_aload_n dX12_column_39 rfl ?_
      refine z_iload_n dX12_column_40 rfl ?_
      refine z_callV1i dX12_column_41 kX12_isTold lX12_250 (by first | assumption | exact And.left (by assumption)) rfl (s_mTold hm0 hR3 (by omega)) (Nat.le_of_ble_eq_true rfl) (Nat.le_of_ble_eq_true rfl) ⟨Nat.le_of_ble_eq_true rfl, Nat.le_of_ble_eq_true rfl⟩ ?_
      refine z_if_eqB (tgt := 56) dX12_column_44 (by decide) (fun c_44 => ?_) (fun c_44 => ?_)
      · refine z_aload_n dX12_column_56 rfl ?_
        refine z_getIe dX12_column_57 fX12_223 (by first | assumption | exact And.left (by assumption)) rfl (by first | exact hw | exact w12) ?_
        refine z_if_eqN (tgt := 64) dX12_column_60 (by decide) (by first | exact wno_31 _ _ | omega) (fun c_60 => ?_) (fun c_60 => ?_)
        · first
            | exact absurd c_60 (by decide)
            | (rw [show rO0 b 0 (sk b s) o = rO1 b (sk b s) o from if_pos rfl]; exact lp_col64 hm0 f1 (hO0.go f1 rfl rfl f2 (fun _ => sk_i b s) (fun z => absurd rfl z)) f2 (by rw [f4, hr1]) hR3 hR2 hc c_44)
        · refine z_return dX12_column_63 (Nat.le_of_ble_eq_true rfl) (Nat.le_of_ble_eq_true rfl) rfl ?_
          first
            | exact absurd rfl c_60
            | (have e : rO0 b 0 (sk b s) o = (1, sk b s, o) := (if_pos rfl).trans (rO1_n hc)
               rw [e]
               exact ⟨rfl, rfl, rfl, OUT.fl f2 (by simp) (by simp) hV3, fun z => absurd z (by simp), cF.fm (by rw [hV3]; exact ((f1.wide rfl).up rfl).up rfl)⟩)
            | (have e : rO0 b 0 (sk b s) o = (3, sk b s, o) := (if_pos rfl).trans (rO1_3 hc c_44)
               rw [e]
               exact ⟨rfl, rfl, rfl, OUT.fl f2 (by simp) (by simp) hV3, fun z => absurd z (by simp), cF.fm (by rw [hV3]; exact ((f1.wide rfl).up rfl).up rfl)⟩)
      · refine z_aload_n dX12_column_47 rfl ?_
        refine z_iconst (v := nI 3) dX12_column_48 rfl ?_
        refine z_aload_n dX12_column_49 rfl ?_
        refine z_getIe dX12_column_50 fX12_229 (by first | assumption | exact And.left (by assumption)) rfl f3 ?_
        refine z_callV2w dX12_column_53 kX12_fails lX12_245 (by first | assumption | exact And.left (by assumption)) rfl (s_fails (k0 := 0) hm0 w12 (by decide)) (Nat.le_of_ble_eq_true rfl) (Nat.le_of_ble_eq_true rfl) ⟨Nat.le_of_ble_eq_true rfl, Nat.le_of_ble_eq_true rfl⟩ ?_
        intro V3 hV3
        rw [if_pos rfl] at hV3
        have hw : V3 m 12 = nI 3 := by rw [hV3]; exact (zup_k (by decide)).trans (zup_s _ _ _ _)
        refine z_aload_n dX12_column_56 rfl ?_
        refine z_getIe dX12_column_57 fX12_223 (by first | assumption | exact And.left (by assumption)) rfl (by first | exact hw | exact w12) ?_
        refine z_if_eqN (tgt := 64) dX12_column_60 (by decide) (by first | exact wno_31 _ _ | omega) (fun c_60 => ?_) (fun c_60 => ?_)
        · first
            | exact absurd c_60 (by decide)
            | (rw [show rO0 b 0 (sk b s) o = rO1 b (sk b s) o from if_pos rfl]; exact lp_col64 hm0 f1 (hO0.go f1 rfl rfl f2 (fun _ => sk_i b s) (fun z => absurd rfl z)) f2 (by rw [f4, hr1]) hR3 hR2 hc c_44)
        · refine z_return dX12_column_63 (Nat.le_of_ble_eq_true rfl) (Nat.le_of_ble_eq_true rfl) rfl ?_
          first
            | exact absurd rfl c_60
            | (have e : rO0 b 0 (sk b s) o = (1, sk b s, o) := (if_pos rfl).trans (rO1_n hc)
               rw [e]
               exact ⟨rfl, rfl, rfl, OUT.fl f2 (by simp) (by simp) hV3, fun z => absurd z (by simp), cF.fm (by rw [hV3]; exact ((f1.wide rfl).up rfl).up rfl)⟩)
            | (have e : rO0 b 0 (sk b s) o = (3, sk b s, o) := (if_pos rfl).trans (rO1_3 hc c_44)
               rw [e]
               exact ⟨rfl, rfl, rfl, OUT.fl f2 (by simp) (by simp) hV3, fun z => absurd z (by simp), cF.fm (by rw [hV3]; exact ((f1.wide rfl).up rfl).up rfl)⟩)
    · have hc := its_no (b := b) (p := sk b s) (fun z => c_24 (by rw [i64]; exact z))
      refine z_aload_n dX12_column_27 rfl ?_
      refine z_iconst (v := nI 1) dX12_column_28 rfl ?_
      refine z_aload_n dX12_column_29 rfl ?_
      refine z_getIe dX12_column_30 fX12_229 (by first | assumption | exact And.left (by assumption)) rfl f3 ?_
      refine z_callV2w dX12_column_33 kX12_fails lX12_245 (by first | assumption | exact And.left (by assumption)) rfl (s_fails (k0 := 0) hm0 w12 (by decide)) (Nat.le_of_ble_eq_true rfl) (Nat.le_of_ble_eq_true rfl) ⟨Nat.le_of_ble_eq_true rfl, Nat.le_of_ble_eq_true rfl⟩ ?_
      intro V3 hV3
      rw [if_pos rfl] at hV3
      have hw : V3 m 12 = nI 1 := by rw [hV3]; exact (zup_k (by decide)).trans (zup_s _ _ _ _)
      refine z_goto (tgt := 56) dX12_column_36 (by decide) ?_
      refine z_aload_n dX12_column_56 rfl ?_
      refine z_getIe dX12_column_57 fX12_223 (by first | assumption | exact And.left (by assumption)) rfl (by first | exact hw | exact w12) ?_
      refine z_if_eqN (tgt := 64) dX12_column_60 (by decide) (by first | exact wno_31 _ _ | omega) (fun c_60 => ?_) (fun c_60 => ?_)
      · first
          | exact absurd c_60 (by decide)
          | (rw [show rO0 b 0 (sk b s) o = rO1 b (sk b s) o from if_pos rfl]; exact lp_col64 hm0 f1 (hO0.go f1 rfl rfl f2 (fun _ => sk_i b s) (fun z => absurd rfl z)) f2 (by rw [f4, hr1]) hR3 hR2 hc c_44)
      · refine z_return dX12_column_63 (Nat.le_of_ble_eq_true rfl) (Nat.le_of_ble_eq_true rfl) rfl ?_
        first
          | exact absurd rfl c_60
          | (have e : rO0 b 0 (sk b s) o = (1, sk b s, o) := (if_pos rfl).trans (rO1_n hc)
             rw [e]
             exact ⟨rfl, rfl, rfl, OUT.fl f2 (by simp) (by simp) hV3, fun z => absurd z (by simp), cF.fm (by rw [hV3]; exact ((f1.wide rfl).up rfl).up rfl)⟩)
          | (have e : rO0 b 0 (sk b s) o = (3, sk b s, o) := (if_pos rfl).trans (rO1_3 hc c_44)
             rw [e]
             exact ⟨rfl, rfl, rfl, OUT.fl f2 (by simp) (by simp) hV3, fun z => absurd z (by simp), cF.fm (by rw [hV3]; exact ((f1.wide rfl).up rfl).up rfl)⟩)
  · refine z_return dX12_column_7 (Nat.le_of_ble_eq_true rfl) (Nat.le_of_ble_eq_true rfl) rfl ?_
    have e : rO0 b r p o = (r, p, o) := if_neg c_4
    rw [e]
    exact ⟨rfl, rfl, rfl, hO0, fun z => absurd z c_4, cF.fm fm.rf⟩

