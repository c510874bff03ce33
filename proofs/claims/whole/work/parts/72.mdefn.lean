/-! the reference reads its tape: a definition -/
theorem cX_F (b : List Nat) (p : Nat) : cX False b p = rC b p := by
  unfold cX
  cases hc : clm b p with
  | none => unfold rC; simp only [hc]
  | some c => exact if_neg id

theorem s_condF {D : zD} {z0 nx : Nat} {L : zL} {V : zV} {m p : Nat} {b : List Nat} (hm : sM L m) (hO : OUT V m b 0 p) : Sp D z0 6 0 0 mX12_cond [.ref m, .int (nI 0)] L V nx (zq none L nx (fun V' => OUT V' m b (cX False b p).1 (cX False b p).2.1 ∧ ((cX False b p).1 = 0 → V' m 18 = nI (cX False b p).2.2.1 ∧ V' m 19 = nI (cX False b p).2.2.2.1 ∧ V' m 20 = nI (cX False b p).2.2.2.2) ∧ fm V V' m [11, 12, 13, 16, 17, 18, 19, 20])) := by
  have h := s_cond (D := D) (z0 := z0) (nx := nx) (L := L) (V := V) (mo := False) hm hO
  rw [show zb False = nI 0 from zb_f id] at h
  exact h
theorem s_condT {D : zD} {z0 nx : Nat} {L : zL} {V : zV} {m p : Nat} {b : List Nat} (hm : sM L m) (hO : OUT V m b 0 p) : Sp D z0 6 0 0 mX12_cond [.ref m, .int (nI 1)] L V nx (zq none L nx (fun V' => OUT V' m b (cX True b p).1 (cX True b p).2.1 ∧ ((cX True b p).1 = 0 → V' m 18 = nI (cX True b p).2.2.1 ∧ V' m 19 = nI (cX True b p).2.2.2.1 ∧ V' m 20 = nI (cX True b p).2.2.2.2) ∧ fm V V' m [11, 12, 13, 16, 17, 18, 19, 20])) := by
  have h := s_cond (D := D) (z0 := z0) (nx := nx) (L := L) (V := V) (mo := True) hm hO
  rw [show zb True = nI 1 from zb_t trivial] at h
  exact h
theorem fm.one {V : zV} {m : Nat} (k : Nat) (x : Int32) : fm V (zup V m k x) m [k] := fm.rf.up (by simp)
/-- what columns may change -/
def hF (V V' : zV) (m : Nat) : Prop := (∀ q, q ≠ m → q ≠ m + 7 → V' q = V q) ∧ ∀ j, ¬ j ∈ [11, 12, 13, 16, 17] → V' m j = V m j
theorem hF.rf {V : zV} {m : Nat} : hF V V m := ⟨fun _ _ _ => rfl, fun _ _ => rfl⟩
theorem hF.trans {V V' V'' : zV} {m : Nat} (h : hF V V' m) (h' : hF V' V'' m) : hF V V'' m := ⟨fun q h1 h2 => (h'.1 q h1 h2).trans (h.1 q h1 h2), fun j h1 => (h'.2 j h1).trans (h.2 j h1)⟩
theorem hF.fm {V V' : zV} {m : Nat} {ks : List Nat} (h : fm V V' m ks) (hk : ks.all (fun k => [11, 12, 13, 16, 17].contains k) = true) : hF V V' m := ⟨fun q h1 _ => h.1 q h1, (h.wide hk).2⟩
theorem hF.cF {V V' : zV} {m n : Nat} (h : cF V V' m n) : hF V V' m := ⟨h.1, h.2.1⟩
/-- what a reading may change -/
def gF (V V' : zV) (m : Nat) : Prop := (∀ q, q ≠ m → q ≠ m + 7 → q ≠ m + 11 → V' q = V q) ∧ ∀ j, ¬ j ∈ [11, 12, 13, 16, 17, 18, 19, 20, 26] → V' m j = V m j
theorem gF.rf {V : zV} {m : Nat} : gF V V m := ⟨fun _ _ _ _ => rfl, fun _ _ => rfl⟩
theorem gF.trans {V V' V'' : zV} {m : Nat} (h : gF V V' m) (h' : gF V' V'' m) : gF V V'' m := ⟨fun q h1 h2 h3 => (h'.1 q h1 h2 h3).trans (h.1 q h1 h2 h3), fun j h1 => (h'.2 j h1).trans (h.2 j h1)⟩
theorem gF.fm {V V' : zV} {m : Nat} {ks : List Nat} (h : fm V V' m ks) (hk : ks.all (fun k => [11, 12, 13, 16, 17, 18, 19, 20, 26].contains k) = true) : gF V V' m := ⟨fun q h1 _ _ => h.1 q h1, (h.wide hk).2⟩
theorem gF.cF {V V' : zV} {m n : Nat} (h : cF V V' m n) : gF V V' m := ⟨fun q h1 h2 _ => h.1 q h1 h2, fun j hj => h.2.1 j (fun q => hj (by simp at q ⊢; omega))⟩
theorem gF.up7 {V V' : zV} {m k : Nat} {x : Int32} (h : gF V V' m) : gF V (zup V' (m + 7) k x) m := ⟨fun q h1 h2 h3 => by rw [zup_a h2]; exact h.1 q h1 h2 h3, fun j hj => by rw [zup_a (by omega)]; exact h.2 j hj⟩
theorem OUT.rd {V : zV} {m a k r p : Nat} {b : List Nat} {x : Int32} (h : OUT V m b r p) (ha : a = m + 7 ∨ a = m + 11) : OUT (zup V a k x) m b r p := by
  obtain ⟨u1, u2, u3, s, ⟨⟨v1, v2, v3, v4, v5⟩, v6⟩, u5⟩ := h
  refine ⟨by rw [zup_a (by omega)]; exact u1, u2, by rw [zup_a (by omega)]; exact u3, s, ⟨⟨by rw [zup_a (by omega)]; exact v1, by rw [zup_a (by omega)]; exact v2, v3, v4, fun j hj => ?_⟩, fun j hj => ?_⟩, u5⟩
  · rw [zup_a (by omega)]; exact v5 j hj
  · rw [zup_a (by omega)]; exact v6 j hj

set_option maxHeartbeats 4000000 in
set_option maxRecDepth 100000 in
theorem s_where {D : zD} {z0 nx : Nat} {L : zL} {V : zV} {m p : Nat} {b : List Nat} (hm : sM L m) (hO : OUT V m b 0 p) : Sp D z0 7 0 0 mX12_where [.ref m] L V nx (zq none L nx (fun V' => OUT V' m b (rC b p).1 (rC b p).2.1 ∧ ((rC b p).1 = 0 → V' (m + 7) 9 = nI (rC b p).2.2.1 ∧ V' (m + 7) 10 = nI (rC b p).2.2.2.1 ∧ V' (m + 7) 11 = nI (rC b p).2.2.2.2) ∧ gF V V' m ∧ ∀ j, j ≠ 9 → j ≠ 10 → j ≠ 11 → V' (m + 7) j = V (m + 7) j)) := by
  have hm0 := hm
  obtain ⟨a0, a1, a2, a3, a4, a5, a6, a7, a8, a9, a10, a11, a12, a13, a14, a15⟩ := hm
  refine Sp.of 0 (by decide) rfl rfl (Nat.le_of_ble_eq_true rfl) ?_
  refine z_aload_n dX12_where_0 rfl ?_
  refine z_iconst (v := nI 0) dX12_where_1 rfl ?_
  refine z_callV1w dX12_where_2 kX12_cond lX12_269 (by first | assumption | exact And.left (by assumption)) rfl (s_condF hm0 hO) (Nat.le_of_ble_eq_true rfl) (Nat.le_of_ble_eq_true rfl) ⟨Nat.le_of_ble_eq_true rfl, Nat.le_of_ble_eq_true rfl⟩ ?_
  intro V1 hV1
  rw [cX_F] at hV1
  obtain ⟨f1, f2, f3⟩ := hV1
  refine z_aload_n dX12_where_5 rfl ?_
  refine z_getR dX12_where_6 fX12_38 (by first | assumption | exact And.left (by assumption)) rfl ?_
  refine z_bipush (v := nI 9) dX12_where_9 rfl ?_
  refine z_aload_n dX12_where_11 rfl ?_
  refine z_getIe dX12_where_12 fX12_253 (by first | assumption | exact And.left (by assumption)) rfl rfl ?_
  refine z_iastN dX12_where_15 (by first | assumption | exact And.left (by assumption)) (by omega) (by decide) ?_
  refine z_aload_n dX12_where_16 rfl ?_
  refine z_getR dX12_where_17 fX12_38 (by first | assumption | exact And.left (by assumption)) rfl ?_
  refine z_bipush (v := nI 10) dX12_where_20 rfl ?_
  refine z_aload_n dX12_where_22 rfl ?_
  refine z_getIe dX12_where_23 fX12_259 (by first | assumption | exact And.left (by assumption)) rfl (congrFun (zup_a (by omega)) 19) ?_
  refine z_iastN dX12_where_26 (by first | assumption | exact And.left (by assumption)) (by omega) (by decide) ?_
  refine z_aload_n dX12_where_27 rfl ?_
  refine z_getR dX12_where_28 fX12_38 (by first | assumption | exact And.left (by assumption)) rfl ?_
  refine z_bipush (v := nI 11) dX12_where_31 rfl ?_
  refine z_aload_n dX12_where_33 rfl ?_
  refine z_getIe dX12_where_34 fX12_266 (by first | assumption | exact And.left (by assumption)) rfl ((congrFun (zup_a (by omega)) 20).trans (congrFun (zup_a (by omega)) 20)) ?_
  refine z_iastN dX12_where_37 (by first | assumption | exact And.left (by assumption)) (by omega) (by decide) ?_
  refine z_return dX12_where_38 (Nat.le_of_ble_eq_true rfl) (Nat.le_of_ble_eq_true rfl) rfl ?_
  refine ⟨rfl, rfl, rfl, ((f1.rd (Or.inl rfl)).rd (Or.inl rfl)).rd (Or.inl rfl), fun z => ?_, (((gF.fm f3 rfl).up7).up7).up7, fun j j1 j2 j3 => ?_⟩
  · obtain ⟨g1, g2, g3⟩ := f2 z
    exact ⟨(zup_k (by decide)).trans ((zup_k (by decide)).trans ((zup_s _ _ _ _).trans g1)), (zup_k (by decide)).trans ((zup_s _ _ _ _).trans g2), (zup_s _ _ _ _).trans g3⟩
  · rw [zup_k j3, zup_k j2, zup_k j1, f3.1 (m + 7) (by omega)]

set_option maxHeartbeats 4000000 in
set_option maxRecDepth 100000 in
theorem lp_dend {D : zD} {z0 nx : Nat} {L : zL} {V : zV} {m r p : Nat} {b : List Nat} (hm : sM L m) (hO : OUT V m b r p) : Z D z0 8 0 0 mX12_definition 0 0 129 [some (.ref m), none] [] L V nx (zq none L nx (fun V' => OUT V' m b (if r = 0 ∧ p < b.length then 1 else r) p ∧ fm V V' m [11, 12, 13])) := by
  have hm0 := hm
  obtain ⟨a0, a1, a2, a3, a4, a5, a6, a7, a8, a9, a10, a11, a12, a13, a14, a15⟩ := hm
  have hO0 := hO
  obtain ⟨o1, o2, o3, s, hP, hs⟩ := hO
  obtain ⟨⟨g1, g2, g3, g4, g5⟩, g6⟩ := id hP
  have hsk := sk_lt g4 g3
  refine z_aload_n dX12_definition_129 rfl ?_
  refine z_callV0w dX12_definition_130 kX12_blanks lX12_226 (by first | assumption | exact And.left (by assumption)) rfl (s_blk hm0 hP.1) (Nat.le_of_ble_eq_true rfl) (Nat.le_of_ble_eq_true rfl) ⟨Nat.le_of_ble_eq_true rfl, Nat.le_of_ble_eq_true rfl⟩ ?_
  intro V1 hV1
  subst hV1
  refine z_aload_n dX12_definition_133 rfl ?_
  refine z_getIe dX12_definition_134 fX12_213 (by first | assumption | exact And.left (by assumption)) rfl (zup_s _ _ _ _) ?_
  refine z_aload_n dX12_definition_137 rfl ?_
  refine z_getIe dX12_definition_138 fX12_216 (by first | assumption | exact And.left (by assumption)) rfl ((zup_k (by decide)).trans g1) ?_
  refine z_icmp_geN (tgt := 153) dX12_definition_141 (by decide) (by omega) (by omega) (fun c_141 => ?_) (fun c_141 => ?_)
  · refine z_return dX12_definition_153 (Nat.le_of_ble_eq_true rfl) (Nat.le_of_ble_eq_true rfl) rfl ?_
    first
      | (have hN : ¬ (r = 0 ∧ p < b.length) := fun z => by have := hs z.1; omega
         rw [if_neg hN]
         exact ⟨rfl, rfl, rfl, hO0.go (ks := [11]) (fm.rf.up rfl) rfl rfl (hP.to hsk) (fun z => (sk_i b s).trans (hs z)) (fun _ => rfl), fm.rf.up rfl⟩)
      | (by_cases e : r = 0
         · rw [if_pos e] at hV3
           rw [if_pos ⟨e, by have := hs e; omega⟩]
           exact ⟨rfl, rfl, rfl, OUT.fl (hP.to hsk) (by decide) (by decide) (by rw [hV3, hs e]), by rw [hV3]; exact ((fm.rf.up rfl).up rfl).up rfl⟩
         · rw [if_neg e] at hV3
           subst hV3
           rw [if_neg (fun z => e z.1)]
           exact ⟨rfl, rfl, rfl, hO0.go (ks := [11]) (fm.rf.up rfl) rfl rfl (hP.to hsk) (fun z => absurd z e) (fun _ => rfl), fm.rf.up rfl⟩)
  · refine z_aload_n dX12_definition_144 rfl ?_
    refine z_iconst (v := nI 1) dX12_definition_145 rfl ?_
    refine z_aload_n dX12_definition_146 rfl ?_
    refine z_getIe dX12_definition_147 fX12_213 (by first | assumption | exact And.left (by assumption)) rfl (zup_s _ _ _ _) ?_
    refine z_callV2w dX12_definition_150 kX12_fails lX12_245 (by first | assumption | exact And.left (by assumption)) rfl (s_fails hm0 ((zup_k (by decide)).trans o1) (by omega)) (Nat.le_of_ble_eq_true rfl) (Nat.le_of_ble_eq_true rfl) ⟨Nat.le_of_ble_eq_true rfl, Nat.le_of_ble_eq_true rfl⟩ ?_
    intro V3 hV3
    refine z_return dX12_definition_153 (Nat.le_of_ble_eq_true rfl) (Nat.le_of_ble_eq_true rfl) rfl ?_
    first
      | (have hN : ¬ (r = 0 ∧ p < b.length) := fun z => by have := hs z.1; omega
         rw [if_neg hN]
         exact ⟨rfl, rfl, rfl, hO0.go (ks := [11]) (fm.rf.up rfl) rfl rfl (hP.to hsk) (fun z => (sk_i b s).trans (hs z)) (fun _ => rfl), fm.rf.up rfl⟩)
      | (by_cases e : r = 0
         · rw [if_pos e] at hV3
           rw [if_pos ⟨e, by have := hs e; omega⟩]
           exact ⟨rfl, rfl, rfl, OUT.fl (hP.to hsk) (by decide) (by decide) (by rw [hV3, hs e]), by rw [hV3]; exact ((fm.rf.up rfl).up rfl).up rfl⟩
         · rw [if_neg e] at hV3
           subst hV3
           rw [if_neg (fun z => e z.1)]
           exact ⟨rfl, rfl, rfl, hO0.go (ks := [11]) (fm.rf.up rfl) rfl rfl (hP.to hsk) (fun z => absurd z e) (fun _ => rfl), fm.rf.up rfl⟩)

set_option maxHeartbeats 4000000 in
set_option maxRecDepth 100000 in
theorem lp_dcol {D : zD} {z0 nx : Nat} {L : zL} {V : zV} {m : Nat} {b : List Nat} {X : Nat × Nat × List (Nat × Bool)} (hm : sM L m) {P : zP} (K : ∀ V2, hF V V2 m → OUT V2 m b X.1 X.2.1 → (X.1 = 0 → RO V2 m X.2.2 ∧ ndc X.2.2 ∧ ∀ j, (j < 5 ∨ 6 + X.2.2.length ≤ j) → V2 (m + 7) j = V (m + 7) j) → Z D z0 8 0 0 mX12_definition 0 0 102 [some (.ref m), none] [] L V2 nx P) : ∀ (fu : Nat) (f : Nat) (r : Nat) (p : Nat) (o : List (Nat × Bool)) (V1 : zV), f = fu → hF V V1 m → OUT V1 m b r p → (r = 0 → PS V1 m b p ∧ sk b p = p ∧ RO V1 m o ∧ ndc o ∧ o.length + f = 4 ∧ ∀ j, (j < 5 ∨ 6 + o.length ≤ j) → V1 (m + 7) j = V (m + 7) j) → @ite _ (r = 0 ∧ cma b p) (Classical.propDecidable _) (rO b f (sk b (p + 1)) o) (r, p, o) = X → Z D z0 8 0 0 mX12_definition 0 0 65 [some (.ref m), none] [] L V1 nx (P) := by
  intro fu
  induction fu using Nat.strongRecOn with
  | ind fu ih =>
    intro f r p o V1 h_fu h_0 h_1 h_2 h_3
    have hm0 := hm
    obtain ⟨a0, a1, a2, a3, a4, a5, a6, a7, a8, a9, a10, a11, a12, a13, a14, a15⟩ := hm
    have hO0 := h_1
    obtain ⟨o1, o2, o3, s0, hP0, hs0⟩ := h_1
    refine z_aload_n dX12_definition_65 rfl ?_
    refine z_getIe dX12_definition_66 fX12_223 (by first | assumption | exact And.left (by assumption)) rfl o1 ?_
    refine z_if_neN (tgt := 102) dX12_definition_69 (by decide) (by omega) (fun c_69 => ?_) (fun c_69 => ?_)
    · rw [if_neg (fun z => c_69 z.1)] at h_3
      subst h_3
      exact K V1 h_0 hO0 (fun z => ⟨(h_2 z).2.2.1, (h_2 z).2.2.2.1, (h_2 z).2.2.2.2.2⟩)
    · obtain ⟨k1, k2, k3, k4, k5, k6⟩ := h_2 c_69
      obtain ⟨⟨g1, g2, g3, g4, g5⟩, g6⟩ := id k1
      have hbb : ∀ j, j < b.length → bt b j < 256 := fun j hj => (g5 j hj).2
      refine z_aload_n dX12_definition_72 rfl ?_
      refine z_callV0i dX12_definition_73 kX12_peek lX12_219 (by first | assumption | exact And.left (by assumption)) rfl (s_peek hm0 k1.1) (Nat.le_of_ble_eq_true rfl) (Nat.le_of_ble_eq_true rfl) ⟨Nat.le_of_ble_eq_true rfl, Nat.le_of_ble_eq_true rfl⟩ ?_
      refine z_bipush (v := nI 44) dX12_definition_76 rfl ?_
      refine z_icmp_ne (tgt := 102) dX12_definition_78 (by decide) (fun c_78 => ?_) (fun c_78 => ?_)
      · have hN : ¬ cma b p := fun z => c_78 ((byI_eq hbb (by decide)).mpr z)
        rw [if_neg (fun z => hN z.2)] at h_3
        subst h_3
        exact K V1 h_0 hO0 (fun z => ⟨(h_2 z).2.2.1, (h_2 z).2.2.2.1, (h_2 z).2.2.2.2.2⟩)
      · have hC : cma b p := (byI_eq hbb (by decide)).mp c_78
        rw [if_pos ⟨c_69, hC⟩] at h_3
        have hC1 := hC.1
        have k3l := k3.2.1
        obtain ⟨f, rfl⟩ : ∃ f2, f = f2 + 1 := ⟨f - 1, by omega⟩
        rw [rO_s] at h_3
        have hO2 : OUT (zup V1 m 11 (nI (p + 1))) m b 0 (sk b (p + 1)) := OUT.go (by rw [c_69] at hO0; exact hO0) (ks := [11]) (fm.rf.up rfl) rfl rfl (k1.to (by omega)) (fun _ => rfl) (fun z => absurd rfl z)
        refine z_aload_n dX12_definition_81 rfl ?_
        refine z_dup dX12_definition_82 rfl ?_
        refine z_getIe dX12_definition_83 fX12_213 (by first | assumption | exact And.left (by assumption)) rfl g2 ?_
        refine z_iconst (v := nI 1) dX12_definition_86 rfl ?_
        refine z_addN dX12_definition_87 ?_
        refine z_putI dX12_definition_88 fX12_213 (by first | assumption | exact And.left (by assumption)) rfl ?_
        refine z_aload_n dX12_definition_91 rfl ?_
        refine z_callV0w dX12_definition_92 kX12_column lX12_276 (by first | assumption | exact And.left (by assumption)) rfl (s_column hm0 hO2 (fun _ => ⟨k3.cg (zup_a (by omega)), k4⟩)) (Nat.le_of_ble_eq_true rfl) (Nat.le_of_ble_eq_true rfl) ⟨Nat.le_of_ble_eq_true rfl, Nat.le_of_ble_eq_true rfl⟩ ?_
        intro V3 hV3
        rw [show rO0 b 0 (sk b (p + 1)) o = rO1 b (sk b (p + 1)) o from if_pos rfl] at hV3
        obtain ⟨e1, e2, e3⟩ := hV3
        obtain ⟨w1, w2, w3, s3, w4, w5⟩ := id e1
        refine z_aload_n dX12_definition_95 rfl ?_
        refine z_callV0w dX12_definition_96 kX12_blanks lX12_226 (by first | assumption | exact And.left (by assumption)) rfl (s_blk hm0 w4.1) (Nat.le_of_ble_eq_true rfl) (Nat.le_of_ble_eq_true rfl) ⟨Nat.le_of_ble_eq_true rfl, Nat.le_of_ble_eq_true rfl⟩ ?_
        intro V4 hV4
        subst hV4
        refine z_goto (tgt := 65) dX12_definition_99 (by decide) ?_
        have e4 := e1.go (ks := [11]) (V' := zup V3 m 11 (nI (sk b s3))) (fm.rf.up rfl) rfl rfl (w4.to w4.sk) (fun z => (sk_i b s3).trans (w5 z)) (fun _ => rfl)
        refine ih f (by omega) f (rO1 b (sk b (p + 1)) o).1 (rO1 b (sk b (p + 1)) o).2.1 (rO1 b (sk b (p + 1)) o).2.2 _ rfl (((h_0.trans (hF.fm (fm.one 11 (nI (p + 1))) rfl)).trans (hF.cF e3)).trans (hF.fm (fm.one 11 (nI (sk b s3))) rfl)) e4 (fun z => ?_) h_3
        obtain ⟨e5, e6⟩ := e2 z
        have e7 : (rO1 b (sk b (p + 1)) o).2.2.length = o.length + 1 := by
          unfold rO1 at z ⊢
          cases hc : clm b (sk b (p + 1)) with
          | none => simp only [hc] at z; exact absurd z (by simp)
          | some c =>
            simp only [hc] at z ⊢
            split
            · rename_i q
              rw [if_pos q] at z
              exact absurd z (by simp)
            · simp
        have w6 := w5 z
        refine ⟨by rw [← w6]; exact w4.to w4.sk, by rw [← w6]; exact sk_i b s3, e5.cg (zup_a (by omega)), e6, by omega, fun j hj => ?_⟩
        rw [e7] at hj
        rw [zup_a (by omega), e3.2.2 j (by omega) (by omega), zup_a (by omega)]
        exact k6 j (by omega)

theorem hF.g {V V' : zV} {m : Nat} (h : hF V V' m) : gF V V' m := ⟨fun q h1 h2 _ => h.1 q h1 h2, fun j hj => h.2 j (fun q => hj (by simp at q ⊢; omega))⟩
/-- what has been read of a definition -/
def RD (V : zV) (m : Nat) (o : List (Nat × Bool)) (u : Bool) : Prop := V (m + 7) 4 = zb (u = true) ∧ RO V m o ∧ (∀ k, o.length ≤ k → k < 3 → V (m + 7) (6 + k) = -1) ∧ V (m + 7) 9 = -1 ∧ V (m + 7) 10 = nI 0 ∧ V (m + 7) 11 = nI 0
theorem RD.cg {V V' : zV} {m : Nat} {o : List (Nat × Bool)} {u : Bool} (h : RD V m o u) (e : V' (m + 7) = V (m + 7)) : RD V' m o u := by
  unfold RD RO at h ⊢
  rw [e]
  exact h
theorem RD_tc {V : zV} {m : Nat} {o : List (Nat × Bool)} {u : Bool} {x : Bool × Bool × Nat × Nat × Nat} (h : RD V m o u) : ∀ k, k < 3 → V (m + 7) (0 + (6 + k)) = tc (o, x) k := fun k hk => by
  obtain ⟨r1, ⟨r2, r3, r4⟩, r5, r6⟩ := h
  unfold tc
  rw [Nat.zero_add]
  by_cases c : k < o.length
  · rw [if_pos c]
    exact (r4 k c).1
  · rw [if_neg c]
    exact r5 k (by omega) hk
theorem RD_0 {V : zV} {m : Nat} {o : List (Nat × Bool)} {u : Bool} (h : RD V m o u) : MXd (V (m + 7)) 0 (o, u, false, 0, 0, 0) ∧ Dfb (o, u, false, 0, 0, 0) := by
  have h0 := h
  obtain ⟨r1, ⟨r2, r3, r4⟩, r5, r6, r7, r8⟩ := h
  exact ⟨⟨r1, r2, RD_tc h0, r6.trans (if_neg (by simp)).symm, r7, r8⟩, r3, fun k hk => (r4 k hk).2, show 0 < 3 by decide, show 0 < 4 by decide, show 0 < 100 by decide⟩
theorem clm_3 {b : List Nat} {p c : Nat} (h : clm b p = some c) : c < 3 := (clm_some h).1
theorem isD_num {b : List Nat} {q : Nat} (h : run isD b q = 1 ∨ run isD b q = 2) : num b q (run isD b q) < 100 := by
  have h1 : isD (bt b (q + 0)) := run_y (by omega)
  obtain ⟨a1, a2⟩ := h1
  rw [Nat.add_zero] at a1 a2
  rcases h with e | e
  · rw [e, num_1]
    omega
  · have h2 : isD (bt b (q + 1)) := run_y (by omega)
    obtain ⟨b1, b2⟩ := h2
    rw [e, num_2]
    omega
theorem rC_b {b : List Nat} {p : Nat} (h : (rC b p).1 = 0) : (rC b p).2.2.1 < 3 ∧ (rC b p).2.2.2.1 < 4 ∧ (rC b p).2.2.2.2 < 100 := by
  cases hc : clm b p with
  | none => rw [show rC b p = (1, p, (0, 0, 0)) from by unfold rC; simp only [hc]] at h; exact absurd h (by simp)
  | some c =>
    cases hx : oph b (sk b (p + 1)) with
    | none => rw [rC_0 hc hx] at h; exact absurd h (by simp)
    | some x =>
      rcases (show run isD b (sk b (sk b (p + 1) + 1)) = 0 ∨ 2 < run isD b (sk b (sk b (p + 1) + 1)) ∨ (run isD b (sk b (sk b (p + 1) + 1)) = 1 ∨ run isD b (sk b (sk b (p + 1) + 1)) = 2) by omega) with e | e | e
      · rw [rC_1 hc hx e] at h; exact absurd h (by simp)
      · rw [rC_2 hc hx e] at h; exact absurd h (by simp)
      · rw [rC_3 hc hx e]
        exact ⟨clm_3 hc, (oph_some hx).1, isD_num e⟩
theorem RD_w {V V' : zV} {m : Nat} {o : List (Nat × Bool)} {u : Bool} {x : Cd} (h : RD V m o u) (e : ∀ j, j ≠ 9 → j ≠ 10 → j ≠ 11 → V' (m + 7) j = V (m + 7) j) (e9 : V' (m + 7) 9 = nI x.1) (e10 : V' (m + 7) 10 = nI x.2.1) (e11 : V' (m + 7) 11 = nI x.2.2) (hx : x.1 < 3 ∧ x.2.1 < 4 ∧ x.2.2 < 100) : MXd (V' (m + 7)) 0 (o, u, true, x) ∧ Dfb (o, u, true, x) := by
  have h0 := h
  obtain ⟨r1, ⟨r2, r3, r4⟩, r5, r6, r7, r8⟩ := h
  refine ⟨⟨by rw [e _ (by decide) (by decide) (by decide)]; exact r1, by rw [e _ (by decide) (by decide) (by decide)]; exact r2, fun k hk => by rw [e _ (by omega) (by omega) (by omega)]; exact RD_tc h0 k hk, ?_, e10, e11⟩, r3, fun k hk => (r4 k hk).2, hx⟩
  show V' (m + 7) 9 = _
  rw [if_pos rfl]
  exact e9
theorem wv_V {b : List Nat} {p i : Nat} (hi : i < 7) : wv b p i = pv b 0 p (wi i) := by
  have h := isW_V (b := b) (p := p) hi
  unfold wv pv
  by_cases c : isW b p i
  · rw [if_pos c, if_pos ⟨rfl, h.mp c⟩, (wi_ok i hi).1]
  · rw [if_neg c, if_neg (fun z => c (h.mpr z.2))]
/-- behind unique -/
noncomputable def rD3 (b : List Nat) (p : Nat) (o : List (Nat × Bool)) (u : Bool) : Nat × Nat × Df :=
  @ite _ (isW b p 3) (Classical.propDecidable _)
    (if (rC b (wv b p 3)).1 = 0 then fin b (rC b (wv b p 3)).2.1 (o, u, true, (rC b (wv b p 3)).2.2) else ((rC b (wv b p 3)).1, (rC b (wv b p 3)).2.1, (o, u, true, 0, 0, 0)))
    (fin b p (o, u, false, 0, 0, 0))
theorem rD2_3 (b : List Nat) (p : Nat) (o : List (Nat × Bool)) : rD2 b p o = rD3 b (wv b p 2) o (pb (isW b p 2)) := rfl
theorem fin_1 {α : Type} (b : List Nat) (p : Nat) (x : α) : (fin b p x).1 = (if 0 = 0 ∧ p < b.length then 1 else 0) ∧ (fin b p x).2.1 = p ∧ (fin b p x).2.2 = x := by
  unfold fin
  by_cases c : b.length ≤ p
  · rw [if_pos c, if_neg (by omega)]
    exact ⟨rfl, rfl, rfl⟩
  · rw [if_neg c, if_pos ⟨rfl, by omega⟩]
    exact ⟨rfl, rfl, rfl⟩

set_option maxHeartbeats 4000000 in
set_option maxRecDepth 100000 in
theorem lp_d117 {D : zD} {z0 nx : Nat} {L : zL} {V : zV} {m r p : Nat} {b : List Nat} (hm : sM L m) (hO : OUT V m b r p) {o : List (Nat × Bool)} {u : Bool} (hR : r = 0 → RD V m o u) : Z D z0 8 0 0 mX12_definition 0 0 117 [some (.ref m), none] [] L V nx (zq none L nx (fun V' => OUT V' m b ((if r = 0 then rD3 b p o u else (r, p, (o, u, false, 0, 0, 0)))).1 ((if r = 0 then rD3 b p o u else (r, p, (o, u, false, 0, 0, 0)))).2.1 ∧ (((if r = 0 then rD3 b p o u else (r, p, (o, u, false, 0, 0, 0)))).1 = 0 → MXd (V' (m + 7)) 0 ((if r = 0 then rD3 b p o u else (r, p, (o, u, false, 0, 0, 0)))).2.2 ∧ Dfb ((if r = 0 then rD3 b p o u else (r, p, (o, u, false, 0, 0, 0)))).2.2) ∧ gF V V' m)) := by

  have hm0 := hm
  obtain ⟨a0, a1, a2, a3, a4, a5, a6, a7, a8, a9, a10, a11, a12, a13, a14, a15⟩ := hm
  have hO0 := hO
  refine z_aload_n dX12_definition_117 rfl ?_
  refine z_iconst (v := nI 3) dX12_definition_118 rfl ?_
  refine z_callV1q dX12_definition_119 kX12_passes lX12_242 (by first | assumption | exact And.left (by assumption)) rfl (s_passes hm0 hO0 (n := 3) (by decide)) (Nat.le_of_ble_eq_true rfl) (Nat.le_of_ble_eq_true rfl) ⟨Nat.le_of_ble_eq_true rfl, Nat.le_of_ble_eq_true rfl⟩ ?_
  intro V3 hV3
  obtain ⟨e1, e2, e3⟩ := hV3
  refine z_if_eqB (tgt := 129) dX12_definition_122 (by decide) (fun c_122 => ?_) (fun c_122 => ?_)
  · first
      | (refine Z.mono (lp_dend (D := D) (z0 := z0) (nx := nx) hm0 k1) ?_
         intro r2 L2 V9 n9 h9
         obtain ⟨q1, q2, q3, q4, q5⟩ := h9
         have hg : gF V V9 m := ((gF.fm e1 rfl).trans k3).trans (gF.fm q5 rfl)
         have e7 : V9 (m + 7) = V4 (m + 7) := q5.1 _ (by omega)
         rw [if_pos rfl]
         by_cases c : (rC b (wv b p 3)).1 = 0
         · have eY : rD3 b p o u = fin b (rC b (wv b p 3)).2.1 (o, u, true, (rC b (wv b p 3)).2.2) := by unfold rD3; rw [if_pos hW, if_pos c]
           obtain ⟨y1, y2, y3⟩ := fin_1 b (rC b (wv b p 3)).2.1 (o, u, true, (rC b (wv b p 3)).2.2)
           rw [eY, y1, y2, y3]
           rw [c] at q4
           refine ⟨q1, q2, q3, q4, fun _ => ?_, hg⟩
           obtain ⟨g1, g2, g3⟩ := k2 c
           rw [e7]
           exact RD_w hR0 k4 g1 g2 g3 (rC_b c)
         · have eY : rD3 b p o u = ((rC b (wv b p 3)).1, (rC b (wv b p 3)).2.1, (o, u, true, 0, 0, 0)) := by unfold rD3; rw [if_pos hW, if_neg c]
           rw [if_neg (fun z => c z.1)] at q4
           rw [eY]
           exact ⟨q1, q2, q3, q4, fun z => absurd z c, hg⟩)
      | (refine Z.mono (lp_dend (D := D) (z0 := z0) (nx := nx) hm0 e2) ?_
         intro r2 L2 V9 n9 h9
         obtain ⟨q1, q2, q3, q4, q5⟩ := h9
         have hg : gF V V9 m := (gF.fm e1 rfl).trans (gF.fm q5 rfl)
         have e7 : V9 (m + 7) = V (m + 7) := (q5.1 _ (by omega)).trans (e1.1 _ (by omega))
         have ep : pv b r p 3 = p := if_neg c_122
         rw [ep] at q4
         by_cases c : r = 0
         · subst c
           have hW : ¬ isW b p 3 := fun z => c_122 ⟨rfl, (isW_V (by decide)).mp z⟩
           have eY : rD3 b p o u = fin b p (o, u, false, 0, 0, 0) := by unfold rD3; rw [if_neg hW]
           obtain ⟨y1, y2, y3⟩ := fin_1 b p ((o, u, false, 0, 0, 0) : Df)
           rw [if_pos rfl, eY, y1, y2, y3]
           refine ⟨q1, q2, q3, q4, fun _ => ?_, hg⟩
           rw [e7]
           exact RD_0 (hR rfl)
         · rw [if_neg (fun z => c z.1)] at q4
           rw [if_neg c]
           exact ⟨q1, q2, q3, q4, fun z => absurd z c, hg⟩)
  · obtain ⟨cr, cv⟩ := c_122
    subst cr
    have hW : isW b p 3 := (isW_V (by decide)).mpr cv
    have eW := (wv_V (b := b) (p := p) (i := 3) (by decide)).symm
    rw [show wi 3 = 3 from rfl] at eW
    rw [eW] at e2
    have hR0 := (hR rfl).cg (V' := V3) (e1.1 _ (by omega))
    refine z_aload_n dX12_definition_125 rfl ?_
    refine z_callV0w dX12_definition_126 kX12_where lX12_279 (by first | assumption | exact And.left (by assumption)) rfl (s_where hm0 e2) (Nat.le_of_ble_eq_true rfl) (Nat.le_of_ble_eq_true rfl) ⟨Nat.le_of_ble_eq_true rfl, Nat.le_of_ble_eq_true rfl⟩ ?_
    intro V4 hV4
    obtain ⟨k1, k2, k3, k4⟩ := hV4
    first
      | (refine Z.mono (lp_dend (D := D) (z0 := z0) (nx := nx) hm0 k1) ?_
         intro r2 L2 V9 n9 h9
         obtain ⟨q1, q2, q3, q4, q5⟩ := h9
         have hg : gF V V9 m := ((gF.fm e1 rfl).trans k3).trans (gF.fm q5 rfl)
         have e7 : V9 (m + 7) = V4 (m + 7) := q5.1 _ (by omega)
         rw [if_pos rfl]
         by_cases c : (rC b (wv b p 3)).1 = 0
         · have eY : rD3 b p o u = fin b (rC b (wv b p 3)).2.1 (o, u, true, (rC b (wv b p 3)).2.2) := by unfold rD3; rw [if_pos hW, if_pos c]
           obtain ⟨y1, y2, y3⟩ := fin_1 b (rC b (wv b p 3)).2.1 (o, u, true, (rC b (wv b p 3)).2.2)
           rw [eY, y1, y2, y3]
           rw [c] at q4
           refine ⟨q1, q2, q3, q4, fun _ => ?_, hg⟩
           obtain ⟨g1, g2, g3⟩ := k2 c
           rw [e7]
           exact RD_w hR0 k4 g1 g2 g3 (rC_b c)
         · have eY : rD3 b p o u = ((rC b (wv b p 3)).1, (rC b (wv b p 3)).2.1, (o, u, true, 0, 0, 0)) := by unfold rD3; rw [if_pos hW, if_neg c]
           rw [if_neg (fun z => c z.1)] at q4
           rw [eY]
           exact ⟨q1, q2, q3, q4, fun z => absurd z c, hg⟩)
      | (refine Z.mono (lp_dend (D := D) (z0 := z0) (nx := nx) hm0 e2) ?_
         intro r2 L2 V9 n9 h9
         obtain ⟨q1, q2, q3, q4, q5⟩ := h9
         have hg : gF V V9 m := (gF.fm e1 rfl).trans (gF.fm q5 rfl)
         have e7 : V9 (m + 7) = V (m + 7) := (q5.1 _ (by omega)).trans (e1.1 _ (by omega))
         have ep : pv b r p 3 = p := if_neg c_122
         rw [ep] at q4
         by_cases c : r = 0
         · subst c
           have hW : ¬ isW b p 3 := fun z => c_122 ⟨rfl, (isW_V (by decide)).mp z⟩
           have eY : rD3 b p o u = fin b p (o, u, false, 0, 0, 0) := by unfold rD3; rw [if_neg hW]
           obtain ⟨y1, y2, y3⟩ := fin_1 b p ((o, u, false, 0, 0, 0) : Df)
           rw [if_pos rfl, eY, y1, y2, y3]
           refine ⟨q1, q2, q3, q4, fun _ => ?_, hg⟩
           rw [e7]
           exact RD_0 (hR rfl)
         · rw [if_neg (fun z => c z.1)] at q4
           rw [if_neg c]
           exact ⟨q1, q2, q3, q4, fun z => absurd z c, hg⟩)

/-- the row of what is read, as it is at first -/
def R0 (V : zV) (m : Nat) : Prop := V (m + 7) 4 = nI 0 ∧ V (m + 7) 5 = nI 0 ∧ (∀ k, k < 3 → V (m + 7) (6 + k) = -1) ∧ V (m + 7) 9 = -1 ∧ V (m + 7) 10 = nI 0 ∧ V (m + 7) 11 = nI 0

set_option maxHeartbeats 4000000 in
set_option maxRecDepth 100000 in
theorem lp_dz1 {D : zD} {z0 nx : Nat} {L : zL} {V : zV} {m : Nat} (hm : sM L m) {P : zP} (K : ∀ V2, zEq V V2 (m + 7) (m + 8) → (∀ j, j < 13 → V2 (m + 7) j = nI 0) → Z D z0 8 0 0 mX12_definition 0 0 21 [some (.ref m), none] [] L V2 nx P) : ∀ (fu : Nat) (k : Nat) (V1 : zV), 13 - k = fu → k ≤ 13 → zEq V V1 (m + 7) (m + 8) → (∀ j, j < k → V1 (m + 7) j = nI 0) → Z D z0 8 0 0 mX12_definition 0 0 2 [some (.ref m), some (.int (nI k))] [] L V1 nx (P) := by
  intro fu
  induction fu using Nat.strongRecOn with
  | ind fu ih =>
    intro k V1 h_fu h_0 h_1 h_2
    have hm0 := hm
    obtain ⟨a0, a1, a2, a3, a4, a5, a6, a7, a8, a9, a10, a11, a12, a13, a14, a15⟩ := hm
    refine z_iload_n dX12_definition_2 rfl ?_
    refine z_bipush (v := nI 13) dX12_definition_3 rfl ?_
    refine z_icmp_geN (tgt := 21) dX12_definition_5 (by decide) (by omega) (by omega) (fun c_5 => ?_) (fun c_5 => ?_)
    · refine z_fg 1 ?_
      exact K V1 h_1 (fun j hj => h_2 j (by omega))
    · refine z_aload_n dX12_definition_8 rfl ?_
      refine z_getR dX12_definition_9 fX12_38 (by first | assumption | exact And.left (by assumption)) rfl ?_
      refine z_iload_n dX12_definition_12 rfl ?_
      refine z_iconst (v := nI 0) dX12_definition_13 rfl ?_
      refine z_iastN dX12_definition_14 (by first | assumption | exact And.left (by assumption)) (by omega) (by decide) ?_
      refine z_incN dX12_definition_15 rfl rfl ?_
      refine z_goto (tgt := 2) dX12_definition_18 (by decide) ?_
      refine ih _ (by omega) (k + 1) _ rfl (by omega) (h_1.up (by omega) (by omega)) (fun j hj => ?_)
      by_cases e : j = k
      · rw [e, zup_s]
      · rw [zup_k e]
        exact h_2 j (by omega)

set_option maxHeartbeats 4000000 in
set_option maxRecDepth 100000 in
theorem lp_dz2 {D : zD} {z0 nx : Nat} {L : zL} {V : zV} {m : Nat} (hm : sM L m) {P : zP} (K : ∀ V2, zEq V V2 (m + 7) (m + 8) → (∀ j, (j < 6 ∨ 9 ≤ j) → V2 (m + 7) j = V (m + 7) j) → (∀ j, j < 3 → V2 (m + 7) (6 + j) = -1) → Z D z0 8 0 0 mX12_definition 0 0 44 [some (.ref m), none] [] L V2 nx P) : ∀ (fu : Nat) (k : Nat) (V1 : zV), 3 - k = fu → k ≤ 3 → zEq V V1 (m + 7) (m + 8) → (∀ j, (j < 6 ∨ 9 ≤ j) → V1 (m + 7) j = V (m + 7) j) → (∀ j, j < k → V1 (m + 7) (6 + j) = -1) → Z D z0 8 0 0 mX12_definition 0 0 23 [some (.ref m), some (.int (nI k))] [] L V1 nx (P) := by
  intro fu
  induction fu using Nat.strongRecOn with
  | ind fu ih =>
    intro k V1 h_fu h_0 h_1 h_2 h_3
    have hm0 := hm
    obtain ⟨a0, a1, a2, a3, a4, a5, a6, a7, a8, a9, a10, a11, a12, a13, a14, a15⟩ := hm
    refine z_iload_n dX12_definition_23 rfl ?_
    refine z_iconst (v := nI 3) dX12_definition_24 rfl ?_
    refine z_icmp_geN (tgt := 44) dX12_definition_25 (by decide) (by omega) (by omega) (fun c_25 => ?_) (fun c_25 => ?_)
    · refine z_fg 1 ?_
      exact K V1 h_1 h_2 (fun j hj => h_3 j (by omega))
    · refine z_aload_n dX12_definition_28 rfl ?_
      refine z_getR dX12_definition_29 fX12_38 (by first | assumption | exact And.left (by assumption)) rfl ?_
      refine z_bipush (v := nI 6) dX12_definition_32 rfl ?_
      refine z_iload_n dX12_definition_34 rfl ?_
      refine z_addN dX12_definition_35 ?_
      refine z_iconst (v := (-1)) dX12_definition_36 rfl ?_
      refine z_iastN dX12_definition_37 (by first | assumption | exact And.left (by assumption)) (by omega) (by decide) ?_
      refine z_incN dX12_definition_38 rfl rfl ?_
      refine z_goto (tgt := 23) dX12_definition_41 (by decide) ?_
      refine ih _ (by omega) (k + 1) _ rfl (by omega) (h_1.up (by omega) (by omega)) (fun j hj => by rw [zup_k (by omega)]; exact h_2 j hj) (fun j hj => ?_)
      by_cases e : j = k
      · rw [e, zup_s]
      · rw [zup_k (by omega)]
        exact h_3 j (by omega)

theorem RO_nil {V : zV} {m : Nat} (h : V (m + 7) 5 = nI 0) : RO V m [] ∧ ndc [] := ⟨⟨h, by simp, fun k hk => absurd hk (by simp)⟩, fun j k _ hk => absurd hk (by simp)⟩
theorem RO_RD {V V2 : zV} {m : Nat} {o : List (Nat × Bool)} (h0 : R0 V m) (h : RO V2 m o) (e : ∀ j, (j < 5 ∨ 6 + o.length ≤ j) → V2 (m + 7) j = V (m + 7) j) : RD V2 m o false := by
  obtain ⟨r1, r2, r3, r4, r5, r6⟩ := h0
  have hl := h.2.1
  exact ⟨by rw [e 4 (by omega), r1, zb_f (by simp)] <;> rfl, h, fun k h1 h2 => by rw [e _ (by omega)]; exact r3 k h2, by rw [e 9 (by omega)]; exact r4, by rw [e 10 (by omega)]; exact r5, by rw [e 11 (by omega)]; exact r6⟩
theorem rD_eq {b : List Nat} {X : Nat × Nat × List (Nat × Bool)} (hX : @ite _ (isV b (sk b 0) 0) (Classical.propDecidable _) (rO b 4 (sk b (sk b 0 + wln 0)) []) (1, sk b 0, []) = X) : (X.1 = 0 → rD b = rD3 b (wv b X.2.1 2) X.2.2 (pb (isW b X.2.1 2))) ∧ (¬ X.1 = 0 → (rD b).1 = X.1 ∧ (rD b).2.1 = X.2.1) := by
  have h := isW_V (b := b) (p := sk b 0) (i := 0) (by decide)
  unfold rD
  by_cases c : isW b (sk b 0) 0
  · rw [if_pos (show isV b (sk b 0) 0 from h.mp c)] at hX
    rw [if_pos c, show zln 0 = wln 0 from rfl, hX]
    constructor
    · intro z
      rw [if_pos z, rD2_3]
    · intro z
      rw [if_neg z]
      exact ⟨rfl, rfl⟩
  · rw [if_neg (fun z : isV b (sk b 0) 0 => c (h.mpr z))] at hX
    subst hX
    rw [if_neg c]
    exact ⟨fun z => absurd z (by simp), fun _ => ⟨rfl, rfl⟩⟩

set_option maxHeartbeats 4000000 in
set_option maxRecDepth 100000 in
theorem lp_d102 {D : zD} {z0 nx : Nat} {L : zL} {V V0 : zV} {m : Nat} {b : List Nat} {X : Nat × Nat × List (Nat × Bool)} (hm : sM L m) (hX : @ite _ (isV b (sk b 0) 0) (Classical.propDecidable _) (rO b 4 (sk b (sk b 0 + wln 0)) []) (1, sk b 0, []) = X) (hg : gF V0 V m) (hO : OUT V m b X.1 X.2.1) (hR : X.1 = 0 → RD V m X.2.2 false) : Z D z0 8 0 0 mX12_definition 0 0 102 [some (.ref m), none] [] L V nx (zq none L nx (fun V' => OUT V' m b (rD b).1 (rD b).2.1 ∧ ((rD b).1 = 0 → MXd (V' (m + 7)) 0 (rD b).2.2 ∧ Dfb (rD b).2.2) ∧ gF V0 V' m)) := by

  have hm0 := hm
  obtain ⟨a0, a1, a2, a3, a4, a5, a6, a7, a8, a9, a10, a11, a12, a13, a14, a15⟩ := hm
  have hO0 := hO
  refine z_aload_n dX12_definition_102 rfl ?_
  refine z_iconst (v := nI 2) dX12_definition_103 rfl ?_
  refine z_callV1q dX12_definition_104 kX12_passes lX12_242 (by first | assumption | exact And.left (by assumption)) rfl (s_passes hm0 hO0 (n := 2) (by decide)) (Nat.le_of_ble_eq_true rfl) (Nat.le_of_ble_eq_true rfl) ⟨Nat.le_of_ble_eq_true rfl, Nat.le_of_ble_eq_true rfl⟩ ?_
  intro V3 hV3
  obtain ⟨e1, e2, e3⟩ := hV3
  refine z_if_eqB (tgt := 117) dX12_definition_107 (by decide) (fun c_107 => ?_) (fun c_107 => ?_)
  · refine Z.mono (lp_d117 (D := D) (z0 := z0) (nx := nx) (o := X.2.2) (u := pb (isW b X.2.1 2)) hm0 e2 (fun z => ?_)) ?_
    · have h1 := hR z
      have h2 : pb (isW b X.2.1 2) = false := by
        have : ¬ pb (isW b X.2.1 2) = true := fun w => c_107 ⟨z, (isW_V (by decide)).mp (pb_iff.mp w)⟩
        simpa using this
      rw [h2]
      exact h1.cg (e1.1 _ (by omega))
    intro r2 L2 V9 n9 h9
    obtain ⟨q1, q2, q3, q4, q5, q6⟩ := h9
    obtain ⟨y1, y2⟩ := rD_eq hX
    by_cases c : X.1 = 0
    · rw [if_pos c] at q4 q5
      rw [y1 c, show wv b X.2.1 2 = pv b X.1 X.2.1 2 from by rw [c]; exact wv_V (by decide)]
      exact ⟨q1, q2, q3, q4, q5, (hg.trans (gF.fm e1 rfl)).trans q6⟩
    · rw [if_neg c] at q4 q5
      obtain ⟨y3, y4⟩ := y2 c
      rw [y3, y4]
      have ep : pv b X.1 X.2.1 2 = X.2.1 := if_neg (fun z => c z.1)
      rw [ep] at q4
      exact ⟨q1, q2, q3, q4, fun z => absurd z c, (hg.trans (gF.fm e1 rfl)).trans q6⟩
  · refine z_aload_n dX12_definition_110 rfl ?_
    refine z_getR dX12_definition_111 fX12_38 (by first | assumption | exact And.left (by assumption)) rfl ?_
    refine z_iconst (v := nI 4) dX12_definition_114 rfl ?_
    refine z_iconst (v := nI 1) dX12_definition_115 rfl ?_
    refine z_iastN dX12_definition_116 (by first | assumption | exact And.left (by assumption)) (by omega) (by decide) ?_
    refine Z.mono (lp_d117 (D := D) (z0 := z0) (nx := nx) (o := X.2.2) (u := pb (isW b X.2.1 2)) hm0 (e2.rd (k := 4) (x := nI 1) (Or.inl rfl)) (fun z => ?_)) ?_
    · obtain ⟨h1, h2, h3, h4, h5, h6⟩ := (hR z).cg (V' := V3) (e1.1 _ (by omega))
      have h7 : pb (isW b X.2.1 2) = true := pb_iff.mpr ((isW_V (by decide)).mpr c_107.2)
      rw [h7]
      exact ⟨by rw [zup_s, zb_t rfl] <;> rfl, ⟨by rw [zup_k (by decide)]; exact h2.1, h2.2.1, fun k hk => by rw [zup_k (by omega)]; exact h2.2.2 k hk⟩, fun k k1 k2 => by rw [zup_k (by omega)]; exact h3 k k1 k2, by rw [zup_k (by decide)]; exact h4, by rw [zup_k (by decide)]; exact h5, by rw [zup_k (by decide)]; exact h6⟩
    intro r2 L2 V9 n9 h9
    obtain ⟨q1, q2, q3, q4, q5, q6⟩ := h9
    obtain ⟨y1, y2⟩ := rD_eq hX
    by_cases c : X.1 = 0
    · rw [if_pos c] at q4 q5
      rw [y1 c, show wv b X.2.1 2 = pv b X.1 X.2.1 2 from by rw [c]; exact wv_V (by decide)]
      exact ⟨q1, q2, q3, q4, q5, (hg.trans (gF.fm e1 rfl).up7).trans q6⟩
    · rw [if_neg c] at q4 q5
      obtain ⟨y3, y4⟩ := y2 c
      rw [y3, y4]
      have ep : pv b X.1 X.2.1 2 = X.2.1 := if_neg (fun z => c z.1)
      rw [ep] at q4
      exact ⟨q1, q2, q3, q4, fun z => absurd z c, (hg.trans (gF.fm e1 rfl).up7).trans q6⟩

set_option maxHeartbeats 4000000 in
set_option maxRecDepth 100000 in
theorem lp_d52 {D : zD} {z0 nx : Nat} {L : zL} {V : zV} {m : Nat} {b : List Nat} (hm : sM L m) (hP : PS V m b 0) (h12 : V m 12 = nI 0) (h13 : V m 13 = -1) (hR : R0 V m) : Z D z0 8 0 0 mX12_definition 0 0 52 [some (.ref m), none] [] L V nx (zq none L nx (fun V' => OUT V' m b (rD b).1 (rD b).2.1 ∧ ((rD b).1 = 0 → MXd (V' (m + 7)) 0 (rD b).2.2 ∧ Dfb (rD b).2.2) ∧ gF V V' m)) := by

  have hm0 := hm
  obtain ⟨a0, a1, a2, a3, a4, a5, a6, a7, a8, a9, a10, a11, a12, a13, a14, a15⟩ := hm
  have hO0 : OUT V m b 0 (sk b 0) := ⟨h12, by decide, by rw [if_pos rfl]; exact h13, 0, hP, fun _ => rfl⟩
  refine z_aload_n dX12_definition_52 rfl ?_
  refine z_iconst (v := nI 0) dX12_definition_53 rfl ?_
  refine z_callV1w dX12_definition_54 kX12_must lX12_273 (by first | assumption | exact And.left (by assumption)) rfl (s_must hm0 hO0 (n := 0) (by decide)) (Nat.le_of_ble_eq_true rfl) (Nat.le_of_ble_eq_true rfl) ⟨Nat.le_of_ble_eq_true rfl, Nat.le_of_ble_eq_true rfl⟩ ?_
  intro V1 hV1
  obtain ⟨e1, e2, e3⟩ := hV1
  have hr7 : V1 (m + 7) = V (m + 7) := e1.1 _ (by omega)
  have hA : ∃ r p, OUT V1 m b r p ∧ @ite _ (isV b (sk b 0) 0) (Classical.propDecidable _) (0, sk b (sk b 0 + wln 0)) (1, sk b 0) = (r, p) := by
    by_cases c : isV b (sk b 0) 0
    · exact ⟨0, _, e2 c, by rw [if_pos c]⟩
    · exact ⟨1, _, e3 c, by rw [if_neg c]⟩
  obtain ⟨r, p, hO1, hrp⟩ := hA
  refine z_aload_n dX12_definition_57 rfl ?_
  refine z_callV0w dX12_definition_58 kX12_column lX12_276 (by first | assumption | exact And.left (by assumption)) rfl (s_column (o := []) hm0 hO1 (fun _ => RO_nil ((congrFun hr7 5).trans hR.2.1))) (Nat.le_of_ble_eq_true rfl) (Nat.le_of_ble_eq_true rfl) ⟨Nat.le_of_ble_eq_true rfl, Nat.le_of_ble_eq_true rfl⟩ ?_
  intro V2 hV2
  obtain ⟨d1, d2, d3⟩ := hV2
  obtain ⟨w1, w2, w3, s3, w4, w5⟩ := id d1
  refine z_aload_n dX12_definition_61 rfl ?_
  refine z_callV0w dX12_definition_62 kX12_blanks lX12_226 (by first | assumption | exact And.left (by assumption)) rfl (s_blk hm0 w4.1) (Nat.le_of_ble_eq_true rfl) (Nat.le_of_ble_eq_true rfl) ⟨Nat.le_of_ble_eq_true rfl, Nat.le_of_ble_eq_true rfl⟩ ?_
  intro V4 hV4
  subst hV4
  have e4 := d1.go (ks := [11]) (V' := zup V2 m 11 (nI (sk b s3))) (fm.rf.up rfl) rfl rfl (w4.to w4.sk) (fun z => (sk_i b s3).trans (w5 z)) (fun _ => rfl)
  have hgA : hF V (zup V2 m 11 (nI (sk b s3))) m := ((hF.fm e1 rfl).trans (hF.cF d3)).trans (hF.fm (fm.one 11 (nI (sk b s3))) rfl)
  have hXe : @ite _ ((rO0 b r p []).1 = 0 ∧ cma b (rO0 b r p []).2.1) (Classical.propDecidable _) (rO b 3 (sk b ((rO0 b r p []).2.1 + 1)) (rO0 b r p []).2.2) ((rO0 b r p []).1, (rO0 b r p []).2.1, (rO0 b r p []).2.2) = @ite _ (isV b (sk b 0) 0) (Classical.propDecidable _) (rO b 4 (sk b (sk b 0 + wln 0)) []) (1, sk b 0, []) := by
    by_cases c : isV b (sk b 0) 0
    · rw [if_pos c] at hrp ⊢
      obtain ⟨rfl, rfl⟩ := Prod.mk.inj hrp
      rw [show rO0 b 0 (sk b (sk b 0 + wln 0)) [] = rO1 b (sk b (sk b 0 + wln 0)) [] from if_pos rfl]
      exact (rO_s b 3 (sk b (sk b 0 + wln 0)) []).symm
    · rw [if_neg c] at hrp ⊢
      obtain ⟨rfl, rfl⟩ := Prod.mk.inj hrp
      rw [show rO0 b 1 (sk b 0) [] = (1, sk b 0, []) from if_neg (by decide), if_neg (fun z => absurd z.1 (by simp))]
  refine lp_dcol (V := V) hm0 (fun V5 k1 k2 k3 => lp_d102 hm0 rfl k1.g k2 (fun z => ?_)) _ 3 (rO0 b r p []).1 (rO0 b r p []).2.1 (rO0 b r p []).2.2 _ rfl hgA e4 (fun z => ?_) hXe
  · obtain ⟨k4, k5, k6⟩ := k3 z
    exact RO_RD hR k4 k6
  · obtain ⟨f1, f2⟩ := d2 z
    have w6 := w5 z
    have hr0 : r = 0 := Classical.byContradiction (fun q => by rw [show rO0 b r p [] = (r, p, []) from if_neg q] at z; exact q z)
    have e7 : (rO0 b r p []).2.2.length = 1 := by
      rw [show rO0 b r p [] = rO1 b p [] from if_pos hr0] at z ⊢
      unfold rO1 at z ⊢
      cases hc : clm b p with
      | none => simp only [hc] at z; exact absurd z (by simp)
      | some c =>
        simp only [hc] at z ⊢
        split
        · rename_i q
          exact absurd q (by simp)
        · simp
    refine ⟨by rw [← w6]; exact w4.to w4.sk, by rw [← w6]; exact sk_i b s3, f1.cg (zup_a (by omega)), f2, by omega, fun j hj => ?_⟩
    rw [e7] at hj
    rw [zup_a (by omega), d3.2.2 j (by omega) (by simp; omega), hr7]

set_option maxHeartbeats 4000000 in
set_option maxRecDepth 100000 in
theorem s_defn {D : zD} {z0 nx : Nat} {L : zL} {V : zV} {m : Nat} {b : List Nat} (hm : sM L m) (hP : PS V m b 0) (h12 : V m 12 = nI 0) (h13 : V m 13 = -1) : Sp D z0 8 0 0 mX12_definition [.ref m] L V nx (zq none L nx (fun V' => OUT V' m b (rD b).1 (rD b).2.1 ∧ ((rD b).1 = 0 → MXd (V' (m + 7)) 0 (rD b).2.2 ∧ Dfb (rD b).2.2) ∧ gF V V' m)) := by
  have hm0 := hm
  obtain ⟨a0, a1, a2, a3, a4, a5, a6, a7, a8, a9, a10, a11, a12, a13, a14, a15⟩ := hm
  refine Sp.of 1 (by decide) rfl rfl (Nat.le_of_ble_eq_true rfl) ?_
  refine z_iconst (v := nI 0) dX12_definition_0 rfl ?_
  refine z_istore_n dX12_definition_1 (Nat.le_of_ble_eq_true rfl) rfl ?_
  refine lp_dz1 hm0 (fun V2 y1 y2 => ?_) _ 0 V rfl (by omega) zEq.rf (fun j hj => absurd hj (by omega))
  refine z_iconst (v := nI 0) dX12_definition_21 rfl ?_
  refine z_istore_n dX12_definition_22 (Nat.le_of_ble_eq_true rfl) rfl ?_
  refine lp_dz2 hm0 (fun V3 y3 y4 y5 => ?_) _ 0 V2 rfl (by omega) zEq.rf (fun j hj => rfl) (fun j hj => absurd hj (by omega))
  refine z_aload_n dX12_definition_44 rfl ?_
  refine z_getR dX12_definition_45 fX12_38 (by first | assumption | exact And.left (by assumption)) rfl ?_
  refine z_bipush (v := nI 9) dX12_definition_48 rfl ?_
  refine z_iconst (v := (-1)) dX12_definition_50 rfl ?_
  refine z_iastN dX12_definition_51 (by first | assumption | exact And.left (by assumption)) (by omega) (by decide) ?_
  have hz : zEq V (zup V3 (m + 7) 9 (-1)) (m + 7) (m + 8) := ((y1.trans y3).up (by omega) (by omega))
  have hP9 : PS (zup V3 (m + 7) 9 (-1)) m b 0 := by
    obtain ⟨⟨g1, g2, g3, g4, g5⟩, g6⟩ := hP
    exact ⟨⟨by rw [hz m (by omega)]; exact g1, by rw [hz m (by omega)]; exact g2, g3, g4, fun j hj => by rw [hz (m + 6) (by omega)]; exact g5 j hj⟩, fun j hj => by rw [hz (m + 8) (by omega)]; exact g6 j hj⟩
  have hR9 : R0 (zup V3 (m + 7) 9 (-1)) m := ⟨(zup_k (by decide)).trans ((y4 4 (by omega)).trans (y2 4 (by omega))), (zup_k (by decide)).trans ((y4 5 (by omega)).trans (y2 5 (by omega))), fun k hk => (zup_k (by omega)).trans (y5 k hk), zup_s _ _ _ _, (zup_k (by decide)).trans ((y4 10 (by omega)).trans (y2 10 (by omega))), (zup_k (by decide)).trans ((y4 11 (by omega)).trans (y2 11 (by omega)))⟩
  refine Z.mono (lp_d52 (D := D) (z0 := z0) (nx := nx) hm0 hP9 (by rw [hz m (by omega)]; exact h12) (by rw [hz m (by omega)]; exact h13) hR9) ?_
  intro r2 L2 V9 n9 h9
  obtain ⟨q1, q2, q3, q4, q5, q6⟩ := h9
  exact ⟨q1, q2, q3, q4, q5, ⟨fun q j1 j2 j3 => (q6.1 q j1 j2 j3).trans (hz q (by omega)), fun j hj => (q6.2 j hj).trans (congrFun (hz m (by omega)) j)⟩⟩

