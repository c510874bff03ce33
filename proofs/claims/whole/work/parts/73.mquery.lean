/-! the reference reads its tape: a query -/
/-- the conditions that have been read -/
def RCs (V : zV) (m : Nat) (cs : List Cd) : Prop := V m 26 = nI cs.length ∧ cs.length ≤ 4 ∧ ∀ k, k < cs.length → V (m + 11) (3 * k) = nI (ck cs k).1 ∧ V (m + 11) (3 * k + 1) = nI (ck cs k).2.1 ∧ V (m + 11) (3 * k + 2) = nI (ck cs k).2.2 ∧ (ck cs k).1 < 3 ∧ (ck cs k).2.1 < 4 ∧ (ck cs k).2.2 < 100
theorem RCs.cg {V V' : zV} {m : Nat} {cs : List Cd} (h : RCs V m cs) (e1 : V' m 26 = V m 26) (e2 : V' (m + 11) = V (m + 11)) : RCs V' m cs := by
  unfold RCs
  rw [e1, e2]
  exact h
theorem cX_T (b : List Nat) (p : Nat) {q : Prop} (h : q) : cX True b p = cX q b p := by rw [show q = True from propext ⟨fun _ => trivial, fun _ => h⟩]
theorem cX_N (b : List Nat) (p : Nat) {q : Prop} (h : ¬ q) : cX False b p = cX q b p := by rw [show q = False from propext ⟨fun z => h z, fun z => z.elim⟩]
theorem cX_y {b : List Nat} {p : Nat} {q : Prop} (h : (cX q b p).1 = 0) : ¬ q ∧ cX q b p = rC b p := by
  unfold cX at h ⊢
  cases hc : clm b p with
  | none => simp only [hc] at h; exact absurd h (by simp)
  | some c =>
    simp only [hc] at h ⊢
    by_cases e : q
    · rw [if_pos e] at h
      exact absurd h (by simp)
    · exact ⟨e, if_neg e⟩
theorem cX_c {b : List Nat} {p : Nat} {q : Prop} (h : ¬ (cX q b p).1 = 0) : (cX q b p).1 < 5 := by
  unfold cX at h ⊢
  cases hc : clm b p with
  | none => simp
  | some c =>
    simp only [hc] at h ⊢
    by_cases e : q
    · rw [if_pos e]
      simp
    · rw [if_neg e]
      cases hx : oph b (sk b (p + 1)) with
      | none => rw [rC_0 hc hx]; simp
      | some x =>
        rcases (show run isD b (sk b (sk b (p + 1) + 1)) = 0 ∨ 2 < run isD b (sk b (sk b (p + 1) + 1)) ∨ (run isD b (sk b (sk b (p + 1) + 1)) = 1 ∨ run isD b (sk b (sk b (p + 1) + 1)) = 2) by omega) with e | e | e
        · rw [rC_1 hc hx e]; simp
        · rw [rC_2 hc hx e]; simp
        · rw [rC_3 hc hx e]; simp
theorem RCs_snoc {V V' : zV} {m : Nat} {cs : List Cd} {x : Cd} (h : RCs V m cs) (hl : cs.length < 4) (hx : x.1 < 3 ∧ x.2.1 < 4 ∧ x.2.2 < 100) (e26 : V' m 26 = nI (cs.length + 1)) (e1 : V' (m + 11) (3 * cs.length) = nI x.1) (e2 : V' (m + 11) (3 * cs.length + 1) = nI x.2.1) (e3 : V' (m + 11) (3 * cs.length + 2) = nI x.2.2) (e4 : ∀ j, j < 3 * cs.length → V' (m + 11) j = V (m + 11) j) : RCs V' m (cs ++ [x]) := by
  have el : (cs ++ [x]).length = cs.length + 1 := by simp
  refine ⟨by rw [el]; exact e26, by omega, fun k hk => ?_⟩
  rw [el] at hk
  rw [ck_snoc hk]
  by_cases e : k < cs.length
  · rw [if_pos e, e4 _ (by omega), e4 _ (by omega), e4 _ (by omega)]
    exact h.2.2 k e
  · rw [if_neg e, show k = cs.length by omega]
    exact ⟨e1, e2, e3, hx⟩

set_option maxHeartbeats 4000000 in
set_option maxRecDepth 100000 in
theorem s_next {D : zD} {z0 nx : Nat} {L : zL} {V : zV} {m p : Nat} {b : List Nat} (hm : sM L m) (hO : OUT V m b 0 p) {cs : List Cd} (hC : RCs V m cs) : Sp D z0 7 0 0 mX12_nextCond [.ref m] L V nx (zq none L nx (fun V' => OUT V' m b (cX (cs.length = 4) b p).1 (cX (cs.length = 4) b p).2.1 ∧ ((cX (cs.length = 4) b p).1 = 0 → RCs V' m (cs ++ [(cX (cs.length = 4) b p).2.2])) ∧ gF V V' m ∧ V' (m + 7) = V (m + 7))) := by
  have hm0 := hm
  obtain ⟨a0, a1, a2, a3, a4, a5, a6, a7, a8, a9, a10, a11, a12, a13, a14, a15⟩ := hm
  have hC0 := hC
  obtain ⟨c1, c2, c3⟩ := hC
  refine Sp.of 0 (by decide) rfl rfl (Nat.le_of_ble_eq_true rfl) ?_
  refine z_aload_n dX12_nextCond_0 rfl ?_
  refine z_aload_n dX12_nextCond_1 rfl ?_
  refine z_getIe dX12_nextCond_2 fX12_282 (by first | assumption | exact And.left (by assumption)) rfl c1 ?_
  refine z_iconst (v := nI 4) dX12_nextCond_5 rfl ?_
  refine z_icmp_neN (tgt := 13) dX12_nextCond_6 (by decide) (by omega) (by omega) (fun c_6 => ?_) (fun c_6 => ?_)
  · refine z_iconst (v := nI 0) dX12_nextCond_13 rfl ?_
    refine z_callV1w dX12_nextCond_14 kX12_cond lX12_269 (by first | assumption | exact And.left (by assumption)) rfl (by first | exact s_condT hm0 hO | exact s_condF hm0 hO) (Nat.le_of_ble_eq_true rfl) (Nat.le_of_ble_eq_true rfl) ⟨Nat.le_of_ble_eq_true rfl, Nat.le_of_ble_eq_true rfl⟩ ?_
    intro V1 hV1
    first
      | rw [cX_T b p (show cs.length = 4 by omega)] at hV1
      | rw [cX_N b p (show ¬ cs.length = 4 from c_6)] at hV1
    obtain ⟨f1, f2, f3⟩ := hV1
    have e26 : V1 m 26 = nI cs.length := (f3.2 26 (by decide)).trans c1
    have hx5 := f1.2.1
    refine z_aload_n dX12_nextCond_17 rfl ?_
    refine z_getIe dX12_nextCond_18 fX12_223 (by first | assumption | exact And.left (by assumption)) rfl f1.1 ?_
    refine z_if_eqN (tgt := 25) dX12_nextCond_21 (by decide) (by omega) (fun c_21 => ?_) (fun c_21 => ?_)
    · obtain ⟨g1, g2, g3⟩ := f2 c_21
      obtain ⟨y1, y2⟩ := cX_y c_21
      have hb := rC_b (b := b) (p := p) (by rw [← y2]; exact c_21)
      rw [← y2] at hb
      have hl : cs.length < 4 := by omega
      refine z_aload_n dX12_nextCond_25 rfl ?_
      refine z_getR dX12_nextCond_26 fX12_50 (by first | assumption | exact And.left (by assumption)) rfl ?_
      refine z_iconst (v := nI 3) dX12_nextCond_29 rfl ?_
      refine z_aload_n dX12_nextCond_30 rfl ?_
      refine z_getIe dX12_nextCond_31 fX12_282 (by first | assumption | exact And.left (by assumption)) rfl e26 ?_
      refine z_mulN dX12_nextCond_34 ?_
      refine z_aload_n dX12_nextCond_35 rfl ?_
      refine z_getIe dX12_nextCond_36 fX12_253 (by first | assumption | exact And.left (by assumption)) rfl g1 ?_
      refine z_iastN dX12_nextCond_39 (by first | assumption | exact And.left (by assumption)) (by omega) (by decide) ?_
      refine z_aload_n dX12_nextCond_40 rfl ?_
      refine z_getR dX12_nextCond_41 fX12_50 (by first | assumption | exact And.left (by assumption)) rfl ?_
      refine z_iconst (v := nI 3) dX12_nextCond_44 rfl ?_
      refine z_aload_n dX12_nextCond_45 rfl ?_
      refine z_getIe dX12_nextCond_46 fX12_282 (by first | assumption | exact And.left (by assumption)) rfl ((congrFun (zup_a (by omega)) 26).trans e26) ?_
      refine z_mulN dX12_nextCond_49 ?_
      refine z_iconst (v := nI 1) dX12_nextCond_50 rfl ?_
      refine z_addN dX12_nextCond_51 ?_
      refine z_aload_n dX12_nextCond_52 rfl ?_
      refine z_getIe dX12_nextCond_53 fX12_259 (by first | assumption | exact And.left (by assumption)) rfl ((congrFun (zup_a (by omega)) 19).trans g2) ?_
      refine z_iastN dX12_nextCond_56 (by first | assumption | exact And.left (by assumption)) (by omega) (by decide) ?_
      refine z_aload_n dX12_nextCond_57 rfl ?_
      refine z_getR dX12_nextCond_58 fX12_50 (by first | assumption | exact And.left (by assumption)) rfl ?_
      refine z_iconst (v := nI 3) dX12_nextCond_61 rfl ?_
      refine z_aload_n dX12_nextCond_62 rfl ?_
      refine z_getIe dX12_nextCond_63 fX12_282 (by first | assumption | exact And.left (by assumption)) rfl ((congrFun (zup_a (by omega)) 26).trans ((congrFun (zup_a (by omega)) 26).trans e26)) ?_
      refine z_mulN dX12_nextCond_66 ?_
      refine z_iconst (v := nI 2) dX12_nextCond_67 rfl ?_
      refine z_addN dX12_nextCond_68 ?_
      refine z_aload_n dX12_nextCond_69 rfl ?_
      refine z_getIe dX12_nextCond_70 fX12_266 (by first | assumption | exact And.left (by assumption)) rfl ((congrFun (zup_a (by omega)) 20).trans ((congrFun (zup_a (by omega)) 20).trans g3)) ?_
      refine z_iastN dX12_nextCond_73 (by first | assumption | exact And.left (by assumption)) (by omega) (by decide) ?_
      refine z_aload_n dX12_nextCond_74 rfl ?_
      refine z_dup dX12_nextCond_75 rfl ?_
      refine z_getIe dX12_nextCond_76 fX12_282 (by first | assumption | exact And.left (by assumption)) rfl ((congrFun (zup_a (by omega)) 26).trans ((congrFun (zup_a (by omega)) 26).trans ((congrFun (zup_a (by omega)) 26).trans e26))) ?_
      refine z_iconst (v := nI 1) dX12_nextCond_79 rfl ?_
      refine z_addN dX12_nextCond_80 ?_
      refine z_putI dX12_nextCond_81 fX12_282 (by first | assumption | exact And.left (by assumption)) rfl ?_
      refine z_return dX12_nextCond_84 (Nat.le_of_ble_eq_true rfl) (Nat.le_of_ble_eq_true rfl) rfl ?_
      have hn : ∀ q, q ≠ m → q ≠ m + 11 → zup (zup (zup (zup V1 (m + 11) (3 * cs.length) (nI (cX (cs.length = 4) b p).2.2.1)) (m + 11) (3 * cs.length + 1) (nI (cX (cs.length = 4) b p).2.2.2.1)) (m + 11) (3 * cs.length + 2) (nI (cX (cs.length = 4) b p).2.2.2.2)) m 26 (nI (cs.length + 1)) q = V1 q := fun q q1 q2 => by rw [zup_a q1, zup_a q2, zup_a q2, zup_a q2]
      refine ⟨rfl, rfl, rfl, (((f1.rd (Or.inr rfl)).rd (Or.inr rfl)).rd (Or.inr rfl)).cg (ks := [26]) (fm.rf.up rfl) rfl rfl rfl rfl, fun _ => RCs_snoc hC0 hl hb (zup_s _ _ _ _) ?_ ?_ ?_ (fun j hj => ?_), ⟨fun q q1 q2 q3 => (hn q q1 q3).trans (f3.1 q q1), fun j hj => ?_⟩, (hn _ (by omega) (by omega)).trans (f3.1 _ (by omega))⟩
      · rw [zup_a (by omega), zup_k (by omega), zup_k (by omega), zup_s]
      · rw [zup_a (by omega), zup_k (by omega), zup_s]
      · rw [zup_a (by omega), zup_s]
      · rw [zup_a (by omega), zup_k (by omega), zup_k (by omega), zup_k (by omega), f3.1 _ (by omega)]
      · rw [zup_k (fun e => hj (by rw [e]; decide)), zup_a (by omega), zup_a (by omega), zup_a (by omega)]
        exact f3.2 j (fun z => hj (by simp at z ⊢; omega))
    · refine z_return dX12_nextCond_24 (Nat.le_of_ble_eq_true rfl) (Nat.le_of_ble_eq_true rfl) rfl ?_
      exact ⟨rfl, rfl, rfl, f1, fun z => absurd z c_21, gF.fm f3 rfl, f3.1 _ (by omega)⟩
  · refine z_iconst (v := nI 1) dX12_nextCond_9 rfl ?_
    refine z_goto (tgt := 14) dX12_nextCond_10 (by decide) ?_
    refine z_callV1w dX12_nextCond_14 kX12_cond lX12_269 (by first | assumption | exact And.left (by assumption)) rfl (by first | exact s_condT hm0 hO | exact s_condF hm0 hO) (Nat.le_of_ble_eq_true rfl) (Nat.le_of_ble_eq_true rfl) ⟨Nat.le_of_ble_eq_true rfl, Nat.le_of_ble_eq_true rfl⟩ ?_
    intro V1 hV1
    first
      | rw [cX_T b p (show cs.length = 4 by omega)] at hV1
      | rw [cX_N b p (show ¬ cs.length = 4 from c_6)] at hV1
    obtain ⟨f1, f2, f3⟩ := hV1
    have e26 : V1 m 26 = nI cs.length := (f3.2 26 (by decide)).trans c1
    have hx5 := f1.2.1
    refine z_aload_n dX12_nextCond_17 rfl ?_
    refine z_getIe dX12_nextCond_18 fX12_223 (by first | assumption | exact And.left (by assumption)) rfl f1.1 ?_
    refine z_if_eqN (tgt := 25) dX12_nextCond_21 (by decide) (by omega) (fun c_21 => ?_) (fun c_21 => ?_)
    · obtain ⟨g1, g2, g3⟩ := f2 c_21
      obtain ⟨y1, y2⟩ := cX_y c_21
      have hb := rC_b (b := b) (p := p) (by rw [← y2]; exact c_21)
      rw [← y2] at hb
      have hl : cs.length < 4 := by omega
      refine z_aload_n dX12_nextCond_25 rfl ?_
      refine z_getR dX12_nextCond_26 fX12_50 (by first | assumption | exact And.left (by assumption)) rfl ?_
      refine z_iconst (v := nI 3) dX12_nextCond_29 rfl ?_
      refine z_aload_n dX12_nextCond_30 rfl ?_
      refine z_getIe dX12_nextCond_31 fX12_282 (by first | assumption | exact And.left (by assumption)) rfl e26 ?_
      refine z_mulN dX12_nextCond_34 ?_
      refine z_aload_n dX12_nextCond_35 rfl ?_
      refine z_getIe dX12_nextCond_36 fX12_253 (by first | assumption | exact And.left (by assumption)) rfl g1 ?_
      refine z_iastN dX12_nextCond_39 (by first | assumption | exact And.left (by assumption)) (by omega) (by decide) ?_
      refine z_aload_n dX12_nextCond_40 rfl ?_
      refine z_getR dX12_nextCond_41 fX12_50 (by first | assumption | exact And.left (by assumption)) rfl ?_
      refine z_iconst (v := nI 3) dX12_nextCond_44 rfl ?_
      refine z_aload_n dX12_nextCond_45 rfl ?_
      refine z_getIe dX12_nextCond_46 fX12_282 (by first | assumption | exact And.left (by assumption)) rfl ((congrFun (zup_a (by omega)) 26).trans e26) ?_
      refine z_mulN dX12_nextCond_49 ?_
      refine z_iconst (v := nI 1) dX12_nextCond_50 rfl ?_
      refine z_addN dX12_nextCond_51 ?_
      refine z_aload_n dX12_nextCond_52 rfl ?_
      refine z_getIe dX12_nextCond_53 fX12_259 (by first | assumption | exact And.left (by assumption)) rfl ((congrFun (zup_a (by omega)) 19).trans g2) ?_
      refine z_iastN dX12_nextCond_56 (by first | assumption | exact And.left (by assumption)) (by omega) (by decide) ?_
      refine z_aload_n dX12_nextCond_57 rfl ?_
      refine z_getR dX12_nextCond_58 fX12_50 (by first | assumption | exact And.left (by assumption)) rfl ?_
      refine z_iconst (v := nI 3) dX12_nextCond_61 rfl ?_
      refine z_aload_n dX12_nextCond_62 rfl ?_
      refine z_getIe dX12_nextCond_63 fX12_282 (by first | assumption | exact And.left (by assumption)) rfl ((congrFun (zup_a (by omega)) 26).trans ((congrFun (zup_a (by omega)) 26).trans e26)) ?_
      refine z_mulN dX12_nextCond_66 ?_
      refine z_iconst (v := nI 2) dX12_nextCond_67 rfl ?_
      refine z_addN dX12_nextCond_68 ?_
      refine z_aload_n dX12_nextCond_69 rfl ?_
      refine z_getIe dX12_nextCond_70 fX12_266 (by first | assumption | exact And.left (by assumption)) rfl ((congrFun (zup_a (by omega)) 20).trans ((congrFun (zup_a (by omega)) 20).trans g3)) ?_
      refine z_iastN dX12_nextCond_73 (by first | assumption | exact And.left (by assumption)) (by omega) (by decide) ?_
      refine z_aload_n dX12_nextCond_74 rfl ?_
      refine z_dup dX12_nextCond_75 rfl ?_
      refine z_getIe dX12_nextCond_76 fX12_282 (by first | assumption | exact And.left (by assumption)) rfl ((congrFun (zup_a (by omega)) 26).trans ((congrFun (zup_a (by omega)) 26).trans ((congrFun (zup_a (by omega)) 26).trans e26))) ?_
      refine z_iconst (v := nI 1) dX12_nextCond_79 rfl ?_
      refine z_addN dX12_nextCond_80 ?_
      refine z_putI dX12_nextCond_81 fX12_282 (by first | assumption | exact And.left (by assumption)) rfl ?_
      refine z_return dX12_nextCond_84 (Nat.le_of_ble_eq_true rfl) (Nat.le_of_ble_eq_true rfl) rfl ?_
      have hn : ∀ q, q ≠ m → q ≠ m + 11 → zup (zup (zup (zup V1 (m + 11) (3 * cs.length) (nI (cX (cs.length = 4) b p).2.2.1)) (m + 11) (3 * cs.length + 1) (nI (cX (cs.length = 4) b p).2.2.2.1)) (m + 11) (3 * cs.length + 2) (nI (cX (cs.length = 4) b p).2.2.2.2)) m 26 (nI (cs.length + 1)) q = V1 q := fun q q1 q2 => by rw [zup_a q1, zup_a q2, zup_a q2, zup_a q2]
      refine ⟨rfl, rfl, rfl, (((f1.rd (Or.inr rfl)).rd (Or.inr rfl)).rd (Or.inr rfl)).cg (ks := [26]) (fm.rf.up rfl) rfl rfl rfl rfl, fun _ => RCs_snoc hC0 hl hb (zup_s _ _ _ _) ?_ ?_ ?_ (fun j hj => ?_), ⟨fun q q1 q2 q3 => (hn q q1 q3).trans (f3.1 q q1), fun j hj => ?_⟩, (hn _ (by omega) (by omega)).trans (f3.1 _ (by omega))⟩
      · rw [zup_a (by omega), zup_k (by omega), zup_k (by omega), zup_s]
      · rw [zup_a (by omega), zup_k (by omega), zup_s]
      · rw [zup_a (by omega), zup_s]
      · rw [zup_a (by omega), zup_k (by omega), zup_k (by omega), zup_k (by omega), f3.1 _ (by omega)]
      · rw [zup_k (fun e => hj (by rw [e]; decide)), zup_a (by omega), zup_a (by omega), zup_a (by omega)]
        exact f3.2 j (fun z => hj (by simp at z ⊢; omega))
    · refine z_return dX12_nextCond_24 (Nat.le_of_ble_eq_true rfl) (Nat.le_of_ble_eq_true rfl) rfl ?_
      exact ⟨rfl, rfl, rfl, f1, fun z => absurd z c_21, gF.fm f3 rfl, f3.1 _ (by omega)⟩

theorem rCs_s (b : List Nat) (f p : Nat) (cs : List Cd) : rCs b (f + 1) p cs = if (cX (cs.length = 4) b p).1 = 0 then @ite _ (isW b (cX (cs.length = 4) b p).2.1 5) (Classical.propDecidable _) (rCs b f (sk b ((cX (cs.length = 4) b p).2.1 + zln 5)) (cs ++ [(cX (cs.length = 4) b p).2.2])) (0, (cX (cs.length = 4) b p).2.1, cs ++ [(cX (cs.length = 4) b p).2.2]) else ((cX (cs.length = 4) b p).1, (cX (cs.length = 4) b p).2.1, cs) := by
  rw [rCs]
  unfold cX
  cases hc : clm b p with
  | none => simp only [hc]; rw [if_neg (by simp)]
  | some c =>
    simp only [hc]
    by_cases e : cs.length = 4
    · rw [if_pos e, if_pos e, if_neg (by simp)]
    · rw [if_neg e, if_neg e]

set_option maxHeartbeats 4000000 in
set_option maxRecDepth 100000 in
theorem lp_qcs {D : zD} {z0 nx : Nat} {L : zL} {V : zV} {m : Nat} {b : List Nat} {X : Nat × Nat × List Cd} (hm : sM L m) {P : zP} (K : ∀ V2, gF V V2 m → OUT V2 m b X.1 X.2.1 → (X.1 = 0 → RCs V2 m X.2.2) → V2 (m + 7) = V (m + 7) → Z D z0 8 0 0 mX12_readsQuery 0 0 62 [some (.ref m)] [] L V2 nx P) : ∀ (fu : Nat) (f : Nat) (r : Nat) (p : Nat) (cs : List Cd) (V1 : zV), f = fu → gF V V1 m → OUT V1 m b r p → (r = 0 → RCs V1 m cs ∧ cs.length + f = 5) → V1 (m + 7) = V (m + 7) → @ite _ (r = 0 ∧ isW b p 5) (Classical.propDecidable _) (rCs b f (sk b (p + zln 5)) cs) (r, p, cs) = X → Z D z0 8 0 0 mX12_readsQuery 0 0 46 [some (.ref m)] [] L V1 nx (P) := by
  intro fu
  induction fu using Nat.strongRecOn with
  | ind fu ih =>
    intro f r p cs V1 h_fu h_0 h_1 h_2 h_3 h_4
    have hm0 := hm
    obtain ⟨a0, a1, a2, a3, a4, a5, a6, a7, a8, a9, a10, a11, a12, a13, a14, a15⟩ := hm
    refine z_aload_n dX12_readsQuery_46 rfl ?_
    refine z_bipush (v := nI 8) dX12_readsQuery_47 rfl ?_
    refine z_callV1q dX12_readsQuery_49 kX12_passes lX12_242 (by first | assumption | exact And.left (by assumption)) rfl (s_passes hm0 h_1 (n := 8) (by decide)) (Nat.le_of_ble_eq_true rfl) (Nat.le_of_ble_eq_true rfl) ⟨Nat.le_of_ble_eq_true rfl, Nat.le_of_ble_eq_true rfl⟩ ?_
    intro V2 hV2
    obtain ⟨e1, e2, e3⟩ := hV2
    have hW := isW_V (b := b) (p := p) (i := 5) (by decide)
    rw [show wi 5 = 8 from rfl] at hW
    refine z_if_eqB (tgt := 62) dX12_readsQuery_52 (by decide) (fun c_52 => ?_) (fun c_52 => ?_)
    · rw [if_neg (fun z => c_52 ⟨z.1, hW.mp z.2⟩)] at h_4
      have ep : pv b r p 8 = p := if_neg c_52
      rw [ep] at e2
      subst h_4
      refine K V2 (h_0.trans (gF.fm e1 rfl)) e2 (fun z => ?_) ((e1.1 _ (by omega)).trans h_3)
      obtain ⟨k1, k2⟩ := h_2 z
      exact k1.cg (e1.2 26 (by decide)) (e1.1 _ (by omega))
    · obtain ⟨cr, cv⟩ := id c_52
      subst cr
      rw [if_pos ⟨rfl, hW.mpr cv⟩] at h_4
      rw [pv, if_pos c_52, show wln 8 = zln 5 from rfl] at e2
      obtain ⟨k1, k2⟩ := h_2 rfl
      have k3 := k1.2.1
      obtain ⟨f, rfl⟩ : ∃ f2, f = f2 + 1 := ⟨f - 1, by omega⟩
      rw [rCs_s] at h_4
      refine z_aload_n dX12_readsQuery_55 rfl ?_
      refine z_callV0w dX12_readsQuery_56 kX12_nextCond lX12_289 (by first | assumption | exact And.left (by assumption)) rfl (s_next hm0 e2 (k1.cg (e1.2 26 (by decide)) (e1.1 _ (by omega)))) (Nat.le_of_ble_eq_true rfl) (Nat.le_of_ble_eq_true rfl) ⟨Nat.le_of_ble_eq_true rfl, Nat.le_of_ble_eq_true rfl⟩ ?_
      intro V3 hV3
      obtain ⟨d1, d2, d3, d4⟩ := hV3
      refine z_goto (tgt := 46) dX12_readsQuery_59 (by decide) ?_
      by_cases c : (cX (cs.length = 4) b (sk b (p + zln 5))).1 = 0
      · rw [if_pos c] at h_4
        refine ih f (by omega) f _ _ (cs ++ [(cX (cs.length = 4) b (sk b (p + zln 5))).2.2]) V3 rfl ((h_0.trans (gF.fm e1 rfl)).trans d3) d1 (fun z => ⟨d2 z, by simp; omega⟩) (d4.trans ((e1.1 _ (by omega)).trans h_3)) ?_
        rw [← h_4]
        by_cases c2 : isW b (cX (cs.length = 4) b (sk b (p + zln 5))).2.1 5
        · rw [if_pos c2, if_pos ⟨c, c2⟩]
        · rw [if_neg c2, if_neg (fun z => c2 z.2), c]
      · rw [if_neg c] at h_4
        refine ih f (by omega) f _ _ cs V3 rfl ((h_0.trans (gF.fm e1 rfl)).trans d3) d1 (fun z => absurd z c) (d4.trans ((e1.1 _ (by omega)).trans h_3)) ?_
        rw [if_neg (fun z => c z.1)]
        exact h_4

set_option maxHeartbeats 4000000 in
set_option maxRecDepth 100000 in
theorem lp_qend {D : zD} {z0 nx : Nat} {L : zL} {V : zV} {m r p : Nat} {b : List Nat} (hm : sM L m) (hO : OUT V m b r p) : Z D z0 8 0 0 mX12_readsQuery 0 0 116 [some (.ref m)] [] L V nx (zq none L nx (fun V' => OUT V' m b (if r = 0 ∧ p < b.length then 1 else r) p ∧ fm V V' m [11, 12, 13])) := by
  have hm0 := hm
  obtain ⟨a0, a1, a2, a3, a4, a5, a6, a7, a8, a9, a10, a11, a12, a13, a14, a15⟩ := hm
  have hO0 := hO
  obtain ⟨o1, o2, o3, s, hP, hs⟩ := hO
  obtain ⟨⟨g1, g2, g3, g4, g5⟩, g6⟩ := id hP
  have hsk := sk_lt g4 g3
  refine z_aload_n dX12_readsQuery_116 rfl ?_
  refine z_callV0w dX12_readsQuery_117 kX12_blanks lX12_226 (by first | assumption | exact And.left (by assumption)) rfl (s_blk hm0 hP.1) (Nat.le_of_ble_eq_true rfl) (Nat.le_of_ble_eq_true rfl) ⟨Nat.le_of_ble_eq_true rfl, Nat.le_of_ble_eq_true rfl⟩ ?_
  intro V1 hV1
  subst hV1
  refine z_aload_n dX12_readsQuery_120 rfl ?_
  refine z_getIe dX12_readsQuery_121 fX12_213 (by first | assumption | exact And.left (by assumption)) rfl (zup_s _ _ _ _) ?_
  refine z_aload_n dX12_readsQuery_124 rfl ?_
  refine z_getIe dX12_readsQuery_125 fX12_216 (by first | assumption | exact And.left (by assumption)) rfl ((zup_k (by decide)).trans g1) ?_
  refine z_icmp_geN (tgt := 140) dX12_readsQuery_128 (by decide) (by omega) (by omega) (fun c_128 => ?_) (fun c_128 => ?_)
  · refine z_return dX12_readsQuery_140 (Nat.le_of_ble_eq_true rfl) (Nat.le_of_ble_eq_true rfl) rfl ?_
    first
      | (have hN : ¬ (r = 0 ∧ p < b.length) := fun z => by have := hs z.1; omega
         rw [if_neg hN]
         exact ⟨rfl, rfl, rfl, hO0.go (ks := [11]) (fm.rf.up rfl) rfl rfl (hP.to hsk) (fun z => (sk_i b s).trans (hs z)) (fun _ => rfl), fm.rf.up rfl⟩)
      | (by_cases e : r = 0
         · rw [if_pos e] at hV3
           rw [if_pos ⟨e, by have := hs e; omega⟩]
           exact ⟨rfl, rfl, rfl, OUT.fl (hP.to hsk) (by decide) (by decide) (by rw [hV3, hs e]), by rw [hV3]; exact ((fm.rf.up rfl).up rfl).up rfl⟩
         · rw [if_neg e] at hV3
           subst hV3
           rw [if_neg (fun z => e z.1)]
           exact ⟨rfl, rfl, rfl, hO0.go (ks := [11]) (fm.rf.up rfl) rfl rfl (hP.to hsk) (fun z => absurd z e) (fun _ => rfl), fm.rf.up rfl⟩)
  · refine z_aload_n dX12_readsQuery_131 rfl ?_
    refine z_iconst (v := nI 1) dX12_readsQuery_132 rfl ?_
    refine z_aload_n dX12_readsQuery_133 rfl ?_
    refine z_getIe dX12_readsQuery_134 fX12_213 (by first | assumption | exact And.left (by assumption)) rfl (zup_s _ _ _ _) ?_
    refine z_callV2w dX12_readsQuery_137 kX12_fails lX12_245 (by first | assumption | exact And.left (by assumption)) rfl (s_fails hm0 ((zup_k (by decide)).trans o1) (by omega)) (Nat.le_of_ble_eq_true rfl) (Nat.le_of_ble_eq_true rfl) ⟨Nat.le_of_ble_eq_true rfl, Nat.le_of_ble_eq_true rfl⟩ ?_
    intro V3 hV3
    refine z_return dX12_readsQuery_140 (Nat.le_of_ble_eq_true rfl) (Nat.le_of_ble_eq_true rfl) rfl ?_
    first
      | (have hN : ¬ (r = 0 ∧ p < b.length) := fun z => by have := hs z.1; omega
         rw [if_neg hN]
         exact ⟨rfl, rfl, rfl, hO0.go (ks := [11]) (fm.rf.up rfl) rfl rfl (hP.to hsk) (fun z => (sk_i b s).trans (hs z)) (fun _ => rfl), fm.rf.up rfl⟩)
      | (by_cases e : r = 0
         · rw [if_pos e] at hV3
           rw [if_pos ⟨e, by have := hs e; omega⟩]
           exact ⟨rfl, rfl, rfl, OUT.fl (hP.to hsk) (by decide) (by decide) (by rw [hV3, hs e]), by rw [hV3]; exact ((fm.rf.up rfl).up rfl).up rfl⟩
         · rw [if_neg e] at hV3
           subst hV3
           rw [if_neg (fun z => e z.1)]
           exact ⟨rfl, rfl, rfl, hO0.go (ks := [11]) (fm.rf.up rfl) rfl rfl (hP.to hsk) (fun z => absurd z e) (fun _ => rfl), fm.rf.up rfl⟩)

set_option maxHeartbeats 4000000 in
set_option maxRecDepth 100000 in
theorem lp_qcol {D : zD} {z0 nx : Nat} {L : zL} {V : zV} {m : Nat} {b : List Nat} {X : Nat × Nat × List (Nat × Bool)} (hm : sM L m) {P : zP} (K : ∀ V2, hF V V2 m → OUT V2 m b X.1 X.2.1 → (X.1 = 0 → RO V2 m X.2.2 ∧ ndc X.2.2 ∧ ∀ j, (j < 5 ∨ 6 + X.2.2.length ≤ j) → V2 (m + 7) j = V (m + 7) j) → Z D z0 8 0 0 mX12_readsQuery 0 0 116 [some (.ref m)] [] L V2 nx P) : ∀ (fu : Nat) (f : Nat) (r : Nat) (p : Nat) (o : List (Nat × Bool)) (V1 : zV), f = fu → hF V V1 m → OUT V1 m b r p → (r = 0 → PS V1 m b p ∧ sk b p = p ∧ RO V1 m o ∧ ndc o ∧ o.length + f = 4 ∧ ∀ j, (j < 5 ∨ 6 + o.length ≤ j) → V1 (m + 7) j = V (m + 7) j) → @ite _ (r = 0 ∧ cma b p) (Classical.propDecidable _) (rO b f (sk b (p + 1)) o) (r, p, o) = X → Z D z0 8 0 0 mX12_readsQuery 0 0 79 [some (.ref m)] [] L V1 nx (P) := by
  intro fu
  induction fu using Nat.strongRecOn with
  | ind fu ih =>
    intro f r p o V1 h_fu h_0 h_1 h_2 h_3
    have hm0 := hm
    obtain ⟨a0, a1, a2, a3, a4, a5, a6, a7, a8, a9, a10, a11, a12, a13, a14, a15⟩ := hm
    have hO0 := h_1
    obtain ⟨o1, o2, o3, s0, hP0, hs0⟩ := h_1
    refine z_aload_n dX12_readsQuery_79 rfl ?_
    refine z_getIe dX12_readsQuery_80 fX12_223 (by first | assumption | exact And.left (by assumption)) rfl o1 ?_
    refine z_if_neN (tgt := 116) dX12_readsQuery_83 (by decide) (by omega) (fun c_83 => ?_) (fun c_83 => ?_)
    · rw [if_neg (fun z => c_83 z.1)] at h_3
      subst h_3
      exact K V1 h_0 hO0 (fun z => ⟨(h_2 z).2.2.1, (h_2 z).2.2.2.1, (h_2 z).2.2.2.2.2⟩)
    · obtain ⟨k1, k2, k3, k4, k5, k6⟩ := h_2 c_83
      obtain ⟨⟨g1, g2, g3, g4, g5⟩, g6⟩ := id k1
      have hbb : ∀ j, j < b.length → bt b j < 256 := fun j hj => (g5 j hj).2
      refine z_aload_n dX12_readsQuery_86 rfl ?_
      refine z_callV0i dX12_readsQuery_87 kX12_peek lX12_219 (by first | assumption | exact And.left (by assumption)) rfl (s_peek hm0 k1.1) (Nat.le_of_ble_eq_true rfl) (Nat.le_of_ble_eq_true rfl) ⟨Nat.le_of_ble_eq_true rfl, Nat.le_of_ble_eq_true rfl⟩ ?_
      refine z_bipush (v := nI 44) dX12_readsQuery_90 rfl ?_
      refine z_icmp_ne (tgt := 116) dX12_readsQuery_92 (by decide) (fun c_92 => ?_) (fun c_92 => ?_)
      · have hN : ¬ cma b p := fun z => c_92 ((byI_eq hbb (by decide)).mpr z)
        rw [if_neg (fun z => hN z.2)] at h_3
        subst h_3
        exact K V1 h_0 hO0 (fun z => ⟨(h_2 z).2.2.1, (h_2 z).2.2.2.1, (h_2 z).2.2.2.2.2⟩)
      · have hC : cma b p := (byI_eq hbb (by decide)).mp c_92
        rw [if_pos ⟨c_83, hC⟩] at h_3
        have hC1 := hC.1
        have k3l := k3.2.1
        obtain ⟨f, rfl⟩ : ∃ f2, f = f2 + 1 := ⟨f - 1, by omega⟩
        rw [rO_s] at h_3
        have hO2 : OUT (zup V1 m 11 (nI (p + 1))) m b 0 (sk b (p + 1)) := OUT.go (by rw [c_83] at hO0; exact hO0) (ks := [11]) (fm.rf.up rfl) rfl rfl (k1.to (by omega)) (fun _ => rfl) (fun z => absurd rfl z)
        refine z_aload_n dX12_readsQuery_95 rfl ?_
        refine z_dup dX12_readsQuery_96 rfl ?_
        refine z_getIe dX12_readsQuery_97 fX12_213 (by first | assumption | exact And.left (by assumption)) rfl g2 ?_
        refine z_iconst (v := nI 1) dX12_readsQuery_100 rfl ?_
        refine z_addN dX12_readsQuery_101 ?_
        refine z_putI dX12_readsQuery_102 fX12_213 (by first | assumption | exact And.left (by assumption)) rfl ?_
        refine z_aload_n dX12_readsQuery_105 rfl ?_
        refine z_callV0w dX12_readsQuery_106 kX12_column lX12_276 (by first | assumption | exact And.left (by assumption)) rfl (s_column hm0 hO2 (fun _ => ⟨k3.cg (zup_a (by omega)), k4⟩)) (Nat.le_of_ble_eq_true rfl) (Nat.le_of_ble_eq_true rfl) ⟨Nat.le_of_ble_eq_true rfl, Nat.le_of_ble_eq_true rfl⟩ ?_
        intro V3 hV3
        rw [show rO0 b 0 (sk b (p + 1)) o = rO1 b (sk b (p + 1)) o from if_pos rfl] at hV3
        obtain ⟨e1, e2, e3⟩ := hV3
        obtain ⟨w1, w2, w3, s3, w4, w5⟩ := id e1
        refine z_aload_n dX12_readsQuery_109 rfl ?_
        refine z_callV0w dX12_readsQuery_110 kX12_blanks lX12_226 (by first | assumption | exact And.left (by assumption)) rfl (s_blk hm0 w4.1) (Nat.le_of_ble_eq_true rfl) (Nat.le_of_ble_eq_true rfl) ⟨Nat.le_of_ble_eq_true rfl, Nat.le_of_ble_eq_true rfl⟩ ?_
        intro V4 hV4
        subst hV4
        refine z_goto (tgt := 79) dX12_readsQuery_113 (by decide) ?_
        have e4 := e1.go (ks := [11]) (V' := zup V3 m 11 (nI (sk b s3))) (fm.rf.up rfl) rfl rfl (w4.to w4.sk) (fun z => (sk_i b s3).trans (w5 z)) (fun _ => rfl)
        refine ih f (by omega) f (rO1 b (sk b (p + 1)) o).1 (rO1 b (sk b (p + 1)) o).2.1 (rO1 b (sk b (p + 1)) o).2.2 _ rfl (((h_0.trans (hF.fm (fm.one 11 (nI (p + 1))) rfl)).trans (hF.cF e3)).trans (hF.fm (fm.one 11 (nI (sk b s3))) rfl)) e4 (fun z => ?_) h_3
        obtain ⟨e5, e6⟩ := e2 z
        have e7 : (rO1 b (sk b (p + 1)) o).2.2.length = o.length + 1 := by
          unfold rO1 at z ⊢
          cases hc : clm b (sk b (p + 1)) with
          | none => simp only [hc] at z; exact absurd z (by simp)
          | some c =>
            simp only [hc] at z ⊢
            split
            · rename_i q
              rw [if_pos q] at z
              exact absurd z (by simp)
            · simp
        have w6 := w5 z
        refine ⟨by rw [← w6]; exact w4.to w4.sk, by rw [← w6]; exact sk_i b s3, e5.cg (zup_a (by omega)), e6, by omega, fun j hj => ?_⟩
        rw [e7] at hj
        rw [zup_a (by omega), e3.2.2 j (by omega) (by omega), zup_a (by omega)]
        exact k6 j (by omega)

set_option maxHeartbeats 4000000 in
set_option maxRecDepth 100000 in
theorem lp_q62 {D : zD} {z0 nx : Nat} {L : zL} {V : zV} {m r p : Nat} {b : List Nat} (hm : sM L m) (hO : OUT V m b r p) {cs : List Cd} (hC : r = 0 → RCs V m cs) (h5 : V (m + 7) 5 = nI 0) : Z D z0 8 0 0 mX12_readsQuery 0 0 62 [some (.ref m)] [] L V nx (zq none L nx (fun V' => OUT V' m b ((if r = 0 then rQ2 b p cs else (r, p, (cs, [])))).1 ((if r = 0 then rQ2 b p cs else (r, p, (cs, [])))).2.1 ∧ (((if r = 0 then rQ2 b p cs else (r, p, (cs, [])))).1 = 0 → RCs V' m ((if r = 0 then rQ2 b p cs else (r, p, (cs, [])))).2.2.1 ∧ RO V' m ((if r = 0 then rQ2 b p cs else (r, p, (cs, [])))).2.2.2) ∧ gF V V' m)) := by

  have hm0 := hm
  obtain ⟨a0, a1, a2, a3, a4, a5, a6, a7, a8, a9, a10, a11, a12, a13, a14, a15⟩ := hm
  have hO0 := hO
  refine z_aload_n dX12_readsQuery_62 rfl ?_
  refine z_bipush (v := nI 9) dX12_readsQuery_63 rfl ?_
  refine z_callV1q dX12_readsQuery_65 kX12_passes lX12_242 (by first | assumption | exact And.left (by assumption)) rfl (s_passes hm0 hO0 (n := 9) (by decide)) (Nat.le_of_ble_eq_true rfl) (Nat.le_of_ble_eq_true rfl) ⟨Nat.le_of_ble_eq_true rfl, Nat.le_of_ble_eq_true rfl⟩ ?_
  intro V1 hV1
  obtain ⟨e1, e2, e3⟩ := hV1
  have hW := isW_V (b := b) (p := p) (i := 6) (by decide)
  rw [show wi 6 = 9 from rfl] at hW
  have hr7 : V1 (m + 7) = V (m + 7) := e1.1 _ (by omega)
  refine z_if_eqB (tgt := 116) dX12_readsQuery_68 (by decide) (fun c_68 => ?_) (fun c_68 => ?_)
  · refine Z.mono (lp_qend (D := D) (z0 := z0) (nx := nx) hm0 e2) ?_
    intro r2 L2 V9 n9 h9
    obtain ⟨q1, q2, q3, q4, q5⟩ := h9
    have ep : pv b r p 9 = p := if_neg c_68
    rw [ep] at q4
    have hg : gF V V9 m := (gF.fm e1 rfl).trans (gF.fm q5 rfl)
    by_cases c : r = 0
    · subst c
      have hN : ¬ isW b p 6 := fun z => c_68 ⟨rfl, hW.mp z⟩
      have eY : rQ2 b p cs = fin b p (cs, []) := by unfold rQ2; rw [if_neg hN]
      obtain ⟨y1, y2, y3⟩ := fin_1 b p ((cs, []) : Qu)
      rw [if_pos rfl, eY, y1, y2, y3]
      refine ⟨q1, q2, q3, q4, fun _ => ⟨(hC rfl).cg ((q5.2 26 (by decide)).trans (e1.2 26 (by decide))) ((q5.1 _ (by omega)).trans (e1.1 _ (by omega))), (RO_nil ((congrFun (q5.1 _ (by omega)) 5).trans ((congrFun hr7 5).trans h5))).1⟩, hg⟩
    · rw [if_neg (fun z => c z.1)] at q4
      rw [if_neg c]
      exact ⟨q1, q2, q3, q4, fun z => absurd z c, hg⟩
  · obtain ⟨cr, cv⟩ := id c_68
    subst cr
    rw [pv, if_pos c_68, show wln 9 = zln 6 from rfl] at e2
    have hC1 := (hC rfl).cg (e1.2 26 (by decide)) (e1.1 (m + 11) (by omega))
    refine z_aload_n dX12_readsQuery_71 rfl ?_
    refine z_callV0w dX12_readsQuery_72 kX12_column lX12_276 (by first | assumption | exact And.left (by assumption)) rfl (s_column (o := []) hm0 e2 (fun _ => RO_nil ((congrFun hr7 5).trans h5))) (Nat.le_of_ble_eq_true rfl) (Nat.le_of_ble_eq_true rfl) ⟨Nat.le_of_ble_eq_true rfl, Nat.le_of_ble_eq_true rfl⟩ ?_
    intro V2 hV2
    obtain ⟨d1, d2, d3⟩ := hV2
    rw [show rO0 b 0 (sk b (p + zln 6)) [] = rO1 b (sk b (p + zln 6)) [] from if_pos rfl] at d1 d2
    obtain ⟨w1, w2, w3, s3, w4, w5⟩ := id d1
    refine z_aload_n dX12_readsQuery_75 rfl ?_
    refine z_callV0w dX12_readsQuery_76 kX12_blanks lX12_226 (by first | assumption | exact And.left (by assumption)) rfl (s_blk hm0 w4.1) (Nat.le_of_ble_eq_true rfl) (Nat.le_of_ble_eq_true rfl) ⟨Nat.le_of_ble_eq_true rfl, Nat.le_of_ble_eq_true rfl⟩ ?_
    intro V4 hV4
    subst hV4
    have hWy : isW b p 6 := hW.mpr cv
    have e4 := d1.go (ks := [11]) (V' := zup V2 m 11 (nI (sk b s3))) (fm.rf.up rfl) rfl rfl (w4.to w4.sk) (fun z => (sk_i b s3).trans (w5 z)) (fun _ => rfl)
    have hgA : hF V (zup V2 m 11 (nI (sk b s3))) m := ((hF.fm e1 rfl).trans (hF.cF d3)).trans (hF.fm (fm.one 11 (nI (sk b s3))) rfl)
    refine lp_qcol (V := V) hm0 (fun V5 k1 k2 k3 => ?_) _ 3 (rO1 b (sk b (p + zln 6)) []).1 (rO1 b (sk b (p + zln 6)) []).2.1 (rO1 b (sk b (p + zln 6)) []).2.2 _ rfl hgA e4 (fun z => ?_) (rO_s b 3 (sk b (p + zln 6)) []).symm
    · refine Z.mono (lp_qend (D := D) (z0 := z0) (nx := nx) hm0 k2) ?_
      intro r2 L2 V9 n9 h9
      obtain ⟨q1, q2, q3, q4, q5⟩ := h9
      have hg : gF V V9 m := k1.g.trans (gF.fm q5 rfl)
      rw [if_pos rfl]
      by_cases c : (rO b 4 (sk b (p + zln 6)) []).1 = 0
      · have eY : rQ2 b p cs = fin b (rO b 4 (sk b (p + zln 6)) []).2.1 (cs, (rO b 4 (sk b (p + zln 6)) []).2.2) := by unfold rQ2; rw [if_pos hWy, if_pos c]
        obtain ⟨y1, y2, y3⟩ := fin_1 b (rO b 4 (sk b (p + zln 6)) []).2.1 ((cs, (rO b 4 (sk b (p + zln 6)) []).2.2) : Qu)
        rw [eY, y1, y2, y3]
        rw [c] at q4
        exact ⟨q1, q2, q3, q4, fun _ => ⟨(hC rfl).cg ((q5.2 26 (by decide)).trans (k1.2 26 (by decide))) ((q5.1 _ (by omega)).trans (k1.1 _ (by omega) (by omega))), (k3 c).1.cg (q5.1 _ (by omega))⟩, hg⟩
      · have eY : rQ2 b p cs = ((rO b 4 (sk b (p + zln 6)) []).1, (rO b 4 (sk b (p + zln 6)) []).2.1, (cs, (rO b 4 (sk b (p + zln 6)) []).2.2)) := by unfold rQ2; rw [if_pos hWy, if_neg c]
        rw [if_neg (fun z => c z.1)] at q4
        rw [eY]
        exact ⟨q1, q2, q3, q4, fun z => absurd z c, hg⟩
    · obtain ⟨f1, f2⟩ := d2 z
      have w6 := w5 z
      have e7 : (rO1 b (sk b (p + zln 6)) []).2.2.length = 1 := by
        unfold rO1 at z ⊢
        cases hc : clm b (sk b (p + zln 6)) with
        | none => simp only [hc] at z; exact absurd z (by simp)
        | some c =>
          simp only [hc] at z ⊢
          split
          · rename_i q
            exact absurd q (by simp)
          · simp
      refine ⟨by rw [← w6]; exact w4.to w4.sk, by rw [← w6]; exact sk_i b s3, f1.cg (zup_a (by omega)), f2, by omega, fun j hj => ?_⟩
      rw [e7] at hj
      rw [zup_a (by omega), d3.2.2 j (by omega) (by simp; omega), hr7]

theorem wno_c {b : List Nat} {p : Nat} : (4 ≤ wno b p ∧ wno b p ≤ 6) ↔ ¬ clm b p = none := by
  constructor
  · rintro ⟨h1, h2⟩ h3
    have h4 : isV b p (wno b p) := (wno_eq (by omega)).mp rfl
    have h5 := clm_V.mpr ⟨show wno b p - 4 < 3 by omega, by rw [show 4 + (wno b p - 4) = wno b p by omega]; exact h4⟩
    rw [h3] at h5
    cases h5
  · intro h
    obtain ⟨c, hc⟩ := Option.ne_none_iff_exists'.mp h
    obtain ⟨h1, h2⟩ := clm_V.mp hc
    have := (wno_eq (n := 4 + c) (by omega)).mpr h2
    omega
theorem wno_ci {b : List Nat} {p : Nat} : ((4 : Int) ≤ (nI (wno b p)).toInt ∧ (nI (wno b p)).toInt ≤ (6 : Nat)) ↔ ¬ clm b p = none := by
  rw [nI_toInt (wno_31 b p), ← wno_c]
  omega

set_option maxHeartbeats 4000000 in
set_option maxRecDepth 100000 in
theorem s_readsQ {D : zD} {z0 nx : Nat} {L : zL} {V : zV} {m : Nat} {b : List Nat} (hm : sM L m) (hP : PS V m b 0) (h12 : V m 12 = nI 0) (h13 : V m 13 = -1) : Sp D z0 8 0 0 mX12_readsQuery [.ref m] L V nx (zq none L nx (fun V' => OUT V' m b (rQ b).1 (rQ b).2.1 ∧ ((rQ b).1 = 0 → RCs V' m (rQ b).2.2.1 ∧ RO V' m (rQ b).2.2.2) ∧ gF V V' m)) := by
  have hm0 := hm
  obtain ⟨a0, a1, a2, a3, a4, a5, a6, a7, a8, a9, a10, a11, a12, a13, a14, a15⟩ := hm
  have hO : OUT V m b 0 (sk b 0) := ⟨h12, by decide, by rw [if_pos rfl]; exact h13, 0, hP, fun _ => rfl⟩
  refine Sp.of 0 (by decide) rfl rfl (Nat.le_of_ble_eq_true rfl) ?_
  refine z_aload_n dX12_readsQuery_0 rfl ?_
  refine z_getR dX12_readsQuery_1 fX12_38 (by first | assumption | exact And.left (by assumption)) rfl ?_
  refine z_iconst (v := nI 5) dX12_readsQuery_4 rfl ?_
  refine z_iconst (v := nI 0) dX12_readsQuery_5 rfl ?_
  refine z_iastN dX12_readsQuery_6 (by first | assumption | exact And.left (by assumption)) (by omega) (by decide) ?_
  refine z_aload_n dX12_readsQuery_7 rfl ?_
  refine z_iconst (v := nI 0) dX12_readsQuery_8 rfl ?_
  refine z_putI dX12_readsQuery_9 fX12_282 (by first | assumption | exact And.left (by assumption)) rfl ?_
  refine z_aload_n dX12_readsQuery_12 rfl ?_
  refine z_bipush (v := nI 7) dX12_readsQuery_13 rfl ?_
  have hO1 : OUT (zup (zup V (m + 7) 5 (nI 0)) m 26 (nI 0)) m b 0 (sk b 0) := (hO.rd (Or.inl rfl)).cg (ks := [26]) (fm.rf.up rfl) rfl rfl rfl rfl
  have hC0 : RCs (zup (zup V (m + 7) 5 (nI 0)) m 26 (nI 0)) m [] := ⟨zup_s _ _ _ _, by decide, fun k hk => absurd hk (by simp)⟩
  have hR5 : zup (zup V (m + 7) 5 (nI 0)) m 26 (nI 0) (m + 7) 5 = nI 0 := (congrFun (zup_a (by omega)) 5).trans (zup_s _ _ _ _)
  have hg0 : gF V (zup (zup V (m + 7) 5 (nI 0)) m 26 (nI 0)) m := (gF.rf.up7).trans (gF.fm (fm.one 26 _) rfl)
  generalize zup (zup V (m + 7) 5 (nI 0)) m 26 (nI 0) = V0 at hO1 hC0 hR5 hg0 ⊢
  refine z_callV1w dX12_readsQuery_15 kX12_must lX12_273 (by first | assumption | exact And.left (by assumption)) rfl (s_must hm0 hO1 (n := 7) (by decide)) (Nat.le_of_ble_eq_true rfl) (Nat.le_of_ble_eq_true rfl) ⟨Nat.le_of_ble_eq_true rfl, Nat.le_of_ble_eq_true rfl⟩ ?_
  intro V1 hV1
  obtain ⟨e1, e2, e3⟩ := hV1
  have hW := isW_V (b := b) (p := sk b 0) (i := 4) (by decide)
  rw [show wi 4 = 7 from rfl] at hW
  have hC1 := hC0.cg (V' := V1) (e1.2 26 (by decide)) (e1.1 _ (by omega))
  have h51 : V1 (m + 7) 5 = nI 0 := (congrFun (e1.1 _ (by omega)) 5).trans hR5
  have hg1 : gF V V1 m := hg0.trans (gF.fm e1 rfl)
  have hA : ∃ r p, OUT V1 m b r p ∧ (isV b (sk b 0) 7 → r = 0 ∧ p = sk b (sk b 0 + zln 4)) ∧ (¬ isV b (sk b 0) 7 → r = 1 ∧ p = sk b 0) := by
    by_cases c : isV b (sk b 0) 7
    · exact ⟨0, _, e2 c, fun _ => ⟨rfl, rfl⟩, fun z => absurd c z⟩
    · exact ⟨1, _, e3 c, fun z => absurd z c, fun _ => ⟨rfl, rfl⟩⟩
  obtain ⟨r, p, hO2, hy, hn⟩ := hA
  refine z_aload_n dX12_readsQuery_18 rfl ?_
  have hr5 := hO2.2.1
  refine z_getIe dX12_readsQuery_19 fX12_223 (by first | assumption | exact And.left (by assumption)) rfl hO2.1 ?_
  refine z_if_neN (tgt := 62) dX12_readsQuery_22 (by decide) (by omega) (fun c_22 => ?_) (fun c_22 => ?_)
  · have hV : ¬ isV b (sk b 0) 7 := fun z => c_22 (hy z).1
    obtain ⟨hy1, hy2⟩ := hn hV
    subst hy1
    subst hy2
    have hWn : ¬ isW b (sk b 0) 4 := fun z => hV (hW.mp z)
    first
      | (refine Z.mono (lp_q62 (D := D) (z0 := z0) (nx := nx) (r := 1) (cs := []) hm0 hO2 (fun z => absurd z (by simp)) h51) ?_
         intro r2 L2 V9 n9 h9
         obtain ⟨q1, q2, q3, q4, q5, q6⟩ := h9
         have eY : rQ b = (1, sk b 0, ([], [])) := by unfold rQ; rw [if_neg hWn]
         rw [if_neg (by simp)] at q4 q5
         rw [eY]
         exact ⟨q1, q2, q3, q4, fun z => absurd z (by simp), hg1.trans q6⟩)
      | (refine Z.mono (lp_q62 (D := D) (z0 := z0) (nx := nx) (r := 0) (cs := []) hm0 hO3 (fun _ => hC1.cg (f1.2 26 (by decide)) (f1.1 _ (by omega))) ((congrFun (f1.1 _ (by omega)) 5).trans h51)) ?_
         intro r2 L2 V9 n9 h9
         obtain ⟨q1, q2, q3, q4, q5, q6⟩ := h9
         have eY : rQ b = rQ2 b (sk b (sk b 0 + zln 4)) [] := by unfold rQ; rw [if_pos hWy, if_pos hcl]
         rw [if_pos rfl] at q4 q5
         rw [eY]
         exact ⟨q1, q2, q3, q4, q5, (hg1.trans (gF.fm f1 rfl)).trans q6⟩)
  · have hV : isV b (sk b 0) 7 := Classical.byContradiction (fun z => by have := (hn z).1; omega)
    obtain ⟨hy1, hy2⟩ := hy hV
    subst hy1
    subst hy2
    have hWy := hW.mpr hV
    obtain ⟨u1, u2, u3, s, u4, u5⟩ := id hO2
    refine z_aload_n dX12_readsQuery_25 rfl ?_
    refine z_callV0q dX12_readsQuery_26 kX12_word lX12_239 (by first | assumption | exact And.left (by assumption)) rfl (s_mWord hm0 u4) (Nat.le_of_ble_eq_true rfl) (Nat.le_of_ble_eq_true rfl) ⟨Nat.le_of_ble_eq_true rfl, Nat.le_of_ble_eq_true rfl⟩ ?_
    intro V2 hV2
    rw [u5 rfl] at hV2 ⊢
    obtain ⟨f1, f2, f3, f4⟩ := hV2
    have hO3 := hO2.go f1 rfl rfl f2 (fun _ => sk_i b _) (fun z => absurd rfl z)
    refine z_i2l dX12_readsQuery_29 ?_
    refine z_ldc2 dX12_readsQuery_30 qX12_285 ?_
    refine z_ldc2 dX12_readsQuery_33 qX12_287 ?_
    refine z_callS3i dX12_readsQuery_36 kX12_isIn lX12_86 (s_isIn (v := (nI (wno b (sk b (sk b 0 + zln 4)))).toInt64)) (Nat.le_of_ble_eq_true rfl) (Nat.le_of_ble_eq_true rfl) ⟨Nat.le_of_ble_eq_true rfl, Nat.le_of_ble_eq_true rfl⟩ ?_
    refine z_if_eqB (tgt := 62) dX12_readsQuery_39 (by decide) (fun c_39 => ?_) (fun c_39 => ?_)
    · have hcl : clm b (sk b (sk b 0 + zln 4)) = none := Classical.byContradiction (fun z => c_39 (by rw [i64]; exact wno_ci.mpr z))
      first
        | (refine Z.mono (lp_q62 (D := D) (z0 := z0) (nx := nx) (r := 1) (cs := []) hm0 hO2 (fun z => absurd z (by simp)) h51) ?_
           intro r2 L2 V9 n9 h9
           obtain ⟨q1, q2, q3, q4, q5, q6⟩ := h9
           have eY : rQ b = (1, sk b 0, ([], [])) := by unfold rQ; rw [if_neg hWn]
           rw [if_neg (by simp)] at q4 q5
           rw [eY]
           exact ⟨q1, q2, q3, q4, fun z => absurd z (by simp), hg1.trans q6⟩)
        | (refine Z.mono (lp_q62 (D := D) (z0 := z0) (nx := nx) (r := 0) (cs := []) hm0 hO3 (fun _ => hC1.cg (f1.2 26 (by decide)) (f1.1 _ (by omega))) ((congrFun (f1.1 _ (by omega)) 5).trans h51)) ?_
           intro r2 L2 V9 n9 h9
           obtain ⟨q1, q2, q3, q4, q5, q6⟩ := h9
           have eY : rQ b = rQ2 b (sk b (sk b 0 + zln 4)) [] := by unfold rQ; rw [if_pos hWy, if_pos hcl]
           rw [if_pos rfl] at q4 q5
           rw [eY]
           exact ⟨q1, q2, q3, q4, q5, (hg1.trans (gF.fm f1 rfl)).trans q6⟩)
    · have hcl : ¬ clm b (sk b (sk b 0 + zln 4)) = none := wno_ci.mp (by rw [i64] at c_39; exact c_39)
      refine z_aload_n dX12_readsQuery_42 rfl ?_
      refine z_callV0w dX12_readsQuery_43 kX12_nextCond lX12_289 (by first | assumption | exact And.left (by assumption)) rfl (s_next hm0 hO3 (hC1.cg (f1.2 26 (by decide)) (f1.1 _ (by omega)))) (Nat.le_of_ble_eq_true rfl) (Nat.le_of_ble_eq_true rfl) ⟨Nat.le_of_ble_eq_true rfl, Nat.le_of_ble_eq_true rfl⟩ ?_
      intro V3 hV3
      obtain ⟨d1, d2, d3, d4⟩ := hV3
      have hX : @ite _ ((cX (([] : List Cd).length = 4) b (sk b (sk b 0 + zln 4))).1 = 0 ∧ isW b (cX (([] : List Cd).length = 4) b (sk b (sk b 0 + zln 4))).2.1 5) (Classical.propDecidable _) (rCs b 4 (sk b ((cX (([] : List Cd).length = 4) b (sk b (sk b 0 + zln 4))).2.1 + zln 5)) (if (cX (([] : List Cd).length = 4) b (sk b (sk b 0 + zln 4))).1 = 0 then [] ++ [(cX (([] : List Cd).length = 4) b (sk b (sk b 0 + zln 4))).2.2] else [])) ((cX (([] : List Cd).length = 4) b (sk b (sk b 0 + zln 4))).1, (cX (([] : List Cd).length = 4) b (sk b (sk b 0 + zln 4))).2.1, (if (cX (([] : List Cd).length = 4) b (sk b (sk b 0 + zln 4))).1 = 0 then [] ++ [(cX (([] : List Cd).length = 4) b (sk b (sk b 0 + zln 4))).2.2] else [])) = rCs b 5 (sk b (sk b 0 + zln 4)) [] := by
        refine Eq.trans ?_ (rCs_s b 4 (sk b (sk b 0 + zln 4)) []).symm
        by_cases c : (cX (([] : List Cd).length = 4) b (sk b (sk b 0 + zln 4))).1 = 0
        · rw [if_pos c, if_pos c]
          by_cases c2 : isW b (cX (([] : List Cd).length = 4) b (sk b (sk b 0 + zln 4))).2.1 5
          · rw [if_pos c2, if_pos ⟨c, c2⟩]
          · rw [if_neg c2, if_neg (fun z => c2 z.2), c]
        · rw [if_neg c, if_neg c, if_neg (fun z => c z.1)]
      refine lp_qcs (V := V2) hm0 (fun V5 k1 k2 k3 k4 => ?_) _ 4 _ _ _ V3 rfl d3 d1 (fun z => ?_) ?_ hX
      · refine Z.mono (lp_q62 (D := D) (z0 := z0) (nx := nx) hm0 k2 k3 ?_) ?_
        · exact (congrFun k4 5).trans ((congrFun (f1.1 _ (by omega)) 5).trans h51)
        · intro r2 L2 V9 n9 h9
          obtain ⟨q1, q2, q3, q4, q5, q6⟩ := h9
          by_cases c : (rCs b 5 (sk b (sk b 0 + zln 4)) []).1 = 0
          · have eY : rQ b = rQ2 b (rCs b 5 (sk b (sk b 0 + zln 4)) []).2.1 (rCs b 5 (sk b (sk b 0 + zln 4)) []).2.2 := by unfold rQ; rw [if_pos hWy, if_neg hcl, if_pos c]
            rw [if_pos c] at q4 q5
            rw [eY]
            exact ⟨q1, q2, q3, q4, q5, ((hg1.trans (gF.fm f1 rfl)).trans k1).trans q6⟩
          · have eY : rQ b = ((rCs b 5 (sk b (sk b 0 + zln 4)) []).1, (rCs b 5 (sk b (sk b 0 + zln 4)) []).2.1, ((rCs b 5 (sk b (sk b 0 + zln 4)) []).2.2, [])) := by unfold rQ; rw [if_pos hWy, if_neg hcl, if_neg c]
            rw [if_neg c] at q4 q5
            rw [eY]
            exact ⟨q1, q2, q3, q4, fun z => absurd z c, ((hg1.trans (gF.fm f1 rfl)).trans k1).trans q6⟩
      · rw [if_pos z]
        exact ⟨d2 z, rfl⟩
      · exact d4

