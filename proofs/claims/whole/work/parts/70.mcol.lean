/-! the reference reads its tape: columns -/
def wi (i : Nat) : Nat := [0, 1, 2, 3, 7, 8, 9].getD i 0
theorem wi_ok : ∀ i, i < 7 → zln i = wln (wi i) ∧ wi i < 10 ∧ ∀ k, k < wln (wi i) → zch i k = wch (wi i) k := by decide +kernel
theorem isW_V {b : List Nat} {p i : Nat} (hi : i < 7) : isW b p i ↔ isV b p (wi i) := by
  obtain ⟨h1, _, h3⟩ := wi_ok i hi
  unfold isW isV
  rw [h1]
  constructor
  · rintro ⟨a1, a2⟩
    exact ⟨a1, fun k hk => (a2 k hk).trans (h3 k hk)⟩
  · rintro ⟨a1, a2⟩
    exact ⟨a1, fun k hk => (a2 k hk).trans (h3 k hk).symm⟩
theorem wch_c : ∀ c, c < 3 → wln (4 + c) = 1 ∧ wch (4 + c) 0 = 97 + c := by decide +kernel
theorem clm_V {b : List Nat} {p c : Nat} : clm b p = some c ↔ (c < 3 ∧ isV b p (4 + c)) := by
  constructor
  · intro h
    have hc := (clm_some h).1
    obtain ⟨h1, h2⟩ := wch_c c hc
    unfold clm at h
    split at h
    · rename_i q
      cases h
      have hy : isL (bt b (p + 0)) := run_y (q := isL) (j := 0) (by omega)
      have hy2 : 97 ≤ bt b p := hy.1
      refine ⟨hc, by rw [h1]; exact q.1, fun k hk => ?_⟩
      have : k = 0 := by omega
      subst this
      rw [h2]
      show bt b p = _
      omega
    · cases h
  · rintro ⟨hc, h⟩
    obtain ⟨h1, h2⟩ := wch_c c hc
    have h3 : bt b p = 97 + c := (h.2 0 (by omega)).trans h2
    have h4 : run isL b p = 1 := h.1.trans h1
    unfold clm
    rw [if_pos ⟨h4, by omega⟩, h3]
    congr 1
    omega
theorem its_n (w : Nat) (hw : w ≤ 10) : (((0 : Int) ≤ (nI w - nI 4).toInt ∧ (nI w - nI 4).toInt ≤ (2 : Nat)) ↔ (4 ≤ w ∧ w ≤ 6)) ∧ (4 ≤ w → nI w - nI 4 = nI (w - 4)) := by
  by_cases h : 4 ≤ w
  · rw [pk_sub h, nI_toInt (by omega)]
    exact ⟨by omega, fun _ => rfl⟩
  · refine ⟨⟨fun q => ?_, fun q => absurd q.1 h⟩, fun q => absurd q h⟩
    exfalso
    have hn : (nI w - nI 4).toInt < 0 := by rcases (show w = 0 ∨ w = 1 ∨ w = 2 ∨ w = 3 by omega) with rfl | rfl | rfl | rfl <;> decide
    omega
theorem its_y {b : List Nat} {p : Nat} (h : (0 : Int) ≤ (nI (wno b p) - nI 4).toInt ∧ (nI (wno b p) - nI 4).toInt ≤ (2 : Nat)) : ∃ c, c < 3 ∧ clm b p = some c ∧ nI (wno b p) - nI 4 = nI c ∧ run isL b p = 1 := by
  obtain ⟨h1, h2⟩ := its_n _ (wno_le b p)
  have h3 := h1.mp h
  have h4 : isV b p (wno b p) := (wno_eq (by omega)).mp rfl
  refine ⟨wno b p - 4, by omega, clm_V.mpr ⟨by omega, ?_⟩, h2 h3.1, ?_⟩
  · rw [show 4 + (wno b p - 4) = wno b p by omega]
    exact h4
  · have h5 := (wch_c (wno b p - 4) (by omega)).1
    rw [show 4 + (wno b p - 4) = wno b p by omega] at h5
    exact h4.1.trans h5
theorem wno_31 (b : List Nat) (p : Nat) : wno b p < 2147483648 := Nat.lt_of_le_of_lt (wno_le b p) (by decide)
theorem its_no {b : List Nat} {p : Nat} (h : ¬ ((0 : Int) ≤ (nI (wno b p) - nI 4).toInt ∧ (nI (wno b p) - nI 4).toInt ≤ (2 : Nat))) : clm b p = none := by
  obtain ⟨h1, h2⟩ := its_n _ (wno_le b p)
  cases hc : clm b p with
  | none => rfl
  | some c =>
    obtain ⟨h3, h4⟩ := clm_V.mp hc
    have := (wno_eq (n := 4 + c) (by omega)).mpr h4
    exact absurd (h1.mpr (by omega)) h
/-- how a reading stands: its fault, where -/
def OUT (V : zV) (m : Nat) (b : List Nat) (r p : Nat) : Prop := V m 12 = nI r ∧ r < 5 ∧ V m 13 = (if r = 0 then -1 else nI p) ∧ ∃ s, PS V m b s ∧ (r = 0 → sk b s = p)
theorem OUT.go {V V' : zV} {m r p p' s : Nat} {b ks : List Nat} (h : OUT V m b r p) (hf : fm V V' m ks) (k1 : ks.contains 12 = false) (k2 : ks.contains 13 = false) (hp : PS V' m b s) (h2 : r = 0 → sk b s = p') (h3 : ¬ r = 0 → p' = p) : OUT V' m b r p' := by
  obtain ⟨a1, a2, a3, _⟩ := h
  refine ⟨by rw [hf.2 12 (by simpa using k1)]; exact a1, a2, ?_, s, hp, h2⟩
  rw [hf.2 13 (by simpa using k2), a3]
  by_cases e : r = 0
  · rw [if_pos e, if_pos e]
  · rw [if_neg e, if_neg e, h3 e]
theorem OUT.fl {V V' : zV} {m k p s : Nat} {b : List Nat} (hp : PS V m b s) (hk : ¬ k = 0) (hk5 : k < 5) (e : V' = zup (zup V m 12 (nI k)) m 13 (nI p)) : OUT V' m b k p := by
  subst e
  exact ⟨(zup_k (by decide)).trans (zup_s _ _ _ _), hk5, by rw [zup_s, if_neg hk], s, (hp.up (by decide) (by decide)).up (by decide) (by decide), fun q => absurd q hk⟩
theorem OUT.cg {V V' : zV} {m r p : Nat} {b ks : List Nat} (h : OUT V m b r p) (hf : fm V V' m ks) (k0 : ks.contains 10 = false) (k1 : ks.contains 11 = false) (k2 : ks.contains 12 = false) (k3 : ks.contains 13 = false) : OUT V' m b r p := by
  obtain ⟨a1, a2, a3, s, a4, a5⟩ := h
  refine ⟨by rw [hf.2 12 (by simpa using k2)]; exact a1, a2, by rw [hf.2 13 (by simpa using k3)]; exact a3, s, ?_, a5⟩
  obtain ⟨⟨g1, g2, g3, g4, g5⟩, g6⟩ := a4
  exact ⟨⟨by rw [hf.2 10 (by simpa using k0)]; exact g1, by rw [hf.2 11 (by simpa using k1)]; exact g2, g3, g4, fun j hj => by rw [hf.1 (m + 6) (by omega)]; exact g5 j hj⟩, fun j hj => by rw [hf.1 (m + 8) (by omega)]; exact g6 j hj⟩
/-- the place behind a word that may stand -/
noncomputable def pv (b : List Nat) (r p n : Nat) : Nat := @ite _ (r = 0 ∧ isV b p n) (Classical.propDecidable _) (sk b (p + wln n)) p

set_option maxHeartbeats 4000000 in
set_option maxRecDepth 100000 in
theorem s_passes {D : zD} {z0 nx : Nat} {L : zL} {V : zV} {m r p : Nat} {b : List Nat} (hm : sM L m) (hO : OUT V m b r p) {n : Nat} (hn : n < 10) : Sp D z0 4 0 0 mX12_passes [.ref m, .int (nI n)] L V nx (zq (some (.int (zb (r = 0 ∧ isV b p n)))) L nx (fun V' => fm V V' m [11, 16, 17] ∧ OUT V' m b r (pv b r p n) ∧ (r = 0 → V' m 16 = nI p))) := by
  have hm0 := hm
  obtain ⟨a0, a1, a2, a3, a4, a5, a6, a7, a8, a9, a10, a11, a12, a13, a14, a15⟩ := hm
  have hO0 := hO
  obtain ⟨o1, o2, o3, s, hP, hs⟩ := hO
  obtain ⟨⟨g1, g2, g3, g4, g5⟩, g6⟩ := id hP
  have hsk := sk_lt g4 g3
  have hrl := run_le isL b (sk b s)
  refine Sp.of 0 (by decide) rfl rfl (Nat.le_of_ble_eq_true rfl) ?_
  refine z_aload_n dX12_passes_0 rfl ?_
  refine z_getIe dX12_passes_1 fX12_223 (by first | assumption | exact And.left (by assumption)) rfl o1 ?_
  refine z_if_neN (tgt := 15) dX12_passes_4 (by decide) (by first | exact wno_31 _ _ | omega) (fun c_4 => ?_) (fun c_4 => ?_)
  · refine z_iconst (v := nI 0) dX12_passes_15 rfl ?_
    refine z_zreturn dX12_passes_16 (Nat.le_of_ble_eq_true rfl) (Nat.le_of_ble_eq_true rfl) rfl (by first | exact Or.inl rfl | exact Or.inr rfl | exact zb_01 _ | assumption) ?_
    first
      | exact ⟨by rw [zb_f (fun z => hV z.2)] <;> rfl, rfl, rfl, f1, by rw [pv, if_neg (fun z => hV z.2)]; exact hO0.go f1 rfl rfl f2 (fun _ => sk_i b s) (fun z => absurd c_4 z), fun _ => f3⟩
      | exact ⟨by rw [zb_f (fun z => c_4 z.1)] <;> rfl, rfl, rfl, fm.rf, by rw [pv, if_neg (fun z => c_4 z.1)]; exact hO0, fun z => absurd z c_4⟩
  · have hp := hs c_4
    subst hp
    refine z_aload_n dX12_passes_7 rfl ?_
    refine z_callV0q dX12_passes_8 kX12_word lX12_239 (by first | assumption | exact And.left (by assumption)) rfl (s_mWord hm0 hP) (Nat.le_of_ble_eq_true rfl) (Nat.le_of_ble_eq_true rfl) ⟨Nat.le_of_ble_eq_true rfl, Nat.le_of_ble_eq_true rfl⟩ ?_
    intro V1 hV1
    obtain ⟨f1, f2, f3, f4⟩ := hV1
    refine z_iload_n dX12_passes_11 rfl ?_
    refine z_icmp_eqN (tgt := 17) dX12_passes_12 (by decide) (by first | exact wno_31 _ _ | omega) (by first | exact wno_31 _ _ | omega) (fun c_12 => ?_) (fun c_12 => ?_)
    · have hV := (wno_eq hn).mp c_12
      refine z_aload_n dX12_passes_17 rfl ?_
      refine z_aload_n dX12_passes_18 rfl ?_
      refine z_getIe dX12_passes_19 fX12_232 (by first | assumption | exact And.left (by assumption)) rfl f4 ?_
      refine z_putI dX12_passes_22 fX12_213 (by first | assumption | exact And.left (by assumption)) rfl ?_
      refine z_iconst (v := nI 1) dX12_passes_25 rfl ?_
      refine z_zreturn dX12_passes_26 (Nat.le_of_ble_eq_true rfl) (Nat.le_of_ble_eq_true rfl) rfl (by first | exact Or.inl rfl | exact Or.inr rfl | exact zb_01 _ | assumption) ?_
      have hf := f1.up (k := 11) (x := nI (sk b s + run isL b (sk b s))) rfl
      refine ⟨by rw [zb_t ⟨c_4, hV⟩] <;> rfl, rfl, rfl, hf, ?_, fun _ => (zup_k (by decide)).trans f3⟩
      rw [pv, if_pos ⟨c_4, hV⟩]
      exact hO0.go hf rfl rfl (f2.to (by omega)) (fun _ => by rw [hV.1]) (fun z => absurd c_4 z)
    · have hV : ¬ isV b (sk b s) n := fun z => c_12 ((wno_eq hn).mpr z)
      refine z_iconst (v := nI 0) dX12_passes_15 rfl ?_
      refine z_zreturn dX12_passes_16 (Nat.le_of_ble_eq_true rfl) (Nat.le_of_ble_eq_true rfl) rfl (by first | exact Or.inl rfl | exact Or.inr rfl | exact zb_01 _ | assumption) ?_
      first
        | exact ⟨by rw [zb_f (fun z => hV z.2)] <;> rfl, rfl, rfl, f1, by rw [pv, if_neg (fun z => hV z.2)]; exact hO0.go f1 rfl rfl f2 (fun _ => sk_i b s) (fun z => absurd c_4 z), fun _ => f3⟩
        | exact ⟨by rw [zb_f (fun z => c_4 z.1)] <;> rfl, rfl, rfl, fm.rf, by rw [pv, if_neg (fun z => c_4 z.1)]; exact hO0, fun z => absurd z c_4⟩

set_option maxHeartbeats 4000000 in
set_option maxRecDepth 100000 in
theorem s_must {D : zD} {z0 nx : Nat} {L : zL} {V : zV} {m p : Nat} {b : List Nat} (hm : sM L m) (hO : OUT V m b 0 p) {n : Nat} (hn : n < 10) : Sp D z0 5 0 0 mX12_must [.ref m, .int (nI n)] L V nx (zq none L nx (fun V' => fm V V' m [11, 12, 13, 16, 17] ∧ (isV b p n → OUT V' m b 0 (sk b (p + wln n))) ∧ (¬ isV b p n → OUT V' m b 1 p))) := by
  have hm0 := hm
  obtain ⟨a0, a1, a2, a3, a4, a5, a6, a7, a8, a9, a10, a11, a12, a13, a14, a15⟩ := hm
  refine Sp.of 0 (by decide) rfl rfl (Nat.le_of_ble_eq_true rfl) ?_
  refine z_aload_n dX12_must_0 rfl ?_
  refine z_iload_n dX12_must_1 rfl ?_
  refine z_callV1q dX12_must_2 kX12_passes lX12_242 (by first | assumption | exact And.left (by assumption)) rfl (s_passes hm0 hO hn) (Nat.le_of_ble_eq_true rfl) (Nat.le_of_ble_eq_true rfl) ⟨Nat.le_of_ble_eq_true rfl, Nat.le_of_ble_eq_true rfl⟩ ?_
  intro V1 hV1
  obtain ⟨f1, f2, f3⟩ := hV1
  refine z_if_neB (tgt := 17) dX12_must_5 (by decide) (fun c_5 => ?_) (fun c_5 => ?_)
  · refine z_return dX12_must_17 (Nat.le_of_ble_eq_true rfl) (Nat.le_of_ble_eq_true rfl) rfl ?_
    first
      | (obtain ⟨q1, q2, q3, s, q4, q5⟩ := f2
         exact ⟨rfl, rfl, rfl, (by rw [hV3]; exact ((f1.wide rfl).up rfl).up rfl), fun z => absurd z hno, fun _ => OUT.fl q4 (by decide) (by decide) hV3⟩)
      | (rw [pv, if_pos c_5] at f2; exact ⟨rfl, rfl, rfl, f1.wide rfl, fun _ => f2, fun z => absurd c_5.2 z⟩)
  · refine z_aload_n dX12_must_8 rfl ?_
    refine z_iconst (v := nI 1) dX12_must_9 rfl ?_
    refine z_aload_n dX12_must_10 rfl ?_
    refine z_getIe dX12_must_11 fX12_229 (by first | assumption | exact And.left (by assumption)) rfl (f3 rfl) ?_
    refine z_callV2w dX12_must_14 kX12_fails lX12_245 (by first | assumption | exact And.left (by assumption)) rfl (s_fails (k0 := 0) hm0 f2.1 (by decide)) (Nat.le_of_ble_eq_true rfl) (Nat.le_of_ble_eq_true rfl) ⟨Nat.le_of_ble_eq_true rfl, Nat.le_of_ble_eq_true rfl⟩ ?_
    intro V3 hV3
    rw [if_pos rfl] at hV3
    have hno : ¬ isV b p n := fun z => c_5 ⟨rfl, z⟩
    refine z_return dX12_must_17 (Nat.le_of_ble_eq_true rfl) (Nat.le_of_ble_eq_true rfl) rfl ?_
    first
      | (obtain ⟨q1, q2, q3, s, q4, q5⟩ := f2
         exact ⟨rfl, rfl, rfl, (by rw [hV3]; exact ((f1.wide rfl).up rfl).up rfl), fun z => absurd z hno, fun _ => OUT.fl q4 (by decide) (by decide) hV3⟩)
      | (rw [pv, if_pos c_5] at f2; exact ⟨rfl, rfl, rfl, f1.wide rfl, fun _ => f2, fun z => absurd c_5.2 z⟩)

def RO (V : zV) (m : Nat) (o : List (Nat × Bool)) : Prop := V (m + 7) 5 = nI o.length ∧ o.length ≤ 3 ∧ ∀ k, k < o.length → V (m + 7) (6 + k) = nI (kc o k) ∧ (o.getD k (0, false)).1 < 3
theorem RO.cg {V V' : zV} {m : Nat} {o : List (Nat × Bool)} (h : RO V m o) (e : V' (m + 7) = V (m + 7)) : RO V' m o := by
  unfold RO
  rw [e]
  exact h
theorem kc_10 {o : List (Nat × Bool)} {k : Nat} (h : (o.getD k (0, false)).1 < 3) : kc o k % 10 = (o.getD k (0, false)).1 ∧ kc o k < 13 := by
  unfold kc
  split <;> omega

set_option maxHeartbeats 4000000 in
set_option maxRecDepth 100000 in
theorem lp_told {D : zD} {z0 nx : Nat} {L : zL} {V : zV} {m c : Nat} {o : List (Nat × Bool)} (hm : sM L m) (hR : RO V m o) (hc : c < 1000) : ∀ (fu : Nat) (k : Nat), o.length - k = fu → k ≤ o.length → (∀ j, j < k → ¬ (o.getD j (0, false)).1 = c) → Z D z0 1 0 0 mX12_isTold 0 0 2 [some (.ref m), some (.int (nI c)), some (.int (nI k))] [] L V nx (zi (zb (po o c < o.length)) L V nx) := by
  intro fu
  induction fu using Nat.strongRecOn with
  | ind fu ih =>
    intro k h_fu h_0 h_1
    have hm0 := hm
    obtain ⟨a0, a1, a2, a3, a4, a5, a6, a7, a8, a9, a10, a11, a12, a13, a14, a15⟩ := hm
    obtain ⟨r1, r2, r3⟩ := hR
    refine z_iload_n dX12_isTold_2 rfl ?_
    refine z_aload_n dX12_isTold_3 rfl ?_
    refine z_getR dX12_isTold_4 fX12_38 (by first | assumption | exact And.left (by assumption)) rfl ?_
    refine z_iconst (v := nI 5) dX12_isTold_7 rfl ?_
    refine z_ialdN dX12_isTold_8 (by first | assumption | exact And.left (by assumption)) (by omega) (by decide) r1 ?_
    refine z_icmp_geN (tgt := 36) dX12_isTold_9 (by decide) (by omega) (by omega) (fun c_9 => ?_) (fun c_9 => ?_)
    · refine z_iconst (v := nI 0) dX12_isTold_36 rfl ?_
      refine z_zreturn dX12_isTold_37 (Nat.le_of_ble_eq_true rfl) (Nat.le_of_ble_eq_true rfl) rfl (by first | exact Or.inl rfl | exact Or.inr rfl | exact zb_01 _ | assumption) ?_
      have e : po o c = o.length := fs_eq (fun j hj => h_1 j (by omega)) (Nat.le_refl _) (fun z => absurd z (by omega))
      exact zi_r (by rw [zb_f (by omega)] <;> rfl)
    · obtain ⟨r4, r5⟩ := r3 k (by omega)
      obtain ⟨r6, r7⟩ := kc_10 r5
      refine z_aload_n dX12_isTold_12 rfl ?_
      refine z_getR dX12_isTold_13 fX12_38 (by first | assumption | exact And.left (by assumption)) rfl ?_
      refine z_bipush (v := nI 6) dX12_isTold_16 rfl ?_
      refine z_iload_n dX12_isTold_18 rfl ?_
      refine z_addN dX12_isTold_19 ?_
      refine z_ialdN dX12_isTold_20 (by first | assumption | exact And.left (by assumption)) (by omega) (by decide) r4 ?_
      refine z_bipush (v := nI 10) dX12_isTold_21 rfl ?_
      refine z_remN dX12_isTold_23 (by omega) (by omega) (by omega) ?_
      refine z_iload_n dX12_isTold_24 rfl ?_
      refine z_icmp_neN (tgt := 30) dX12_isTold_25 (by decide) (by omega) (by omega) (fun c_25 => ?_) (fun c_25 => ?_)
      · have hno : ¬ (o.getD k (0, false)).1 = c := by omega
        refine z_incN dX12_isTold_30 rfl rfl ?_
        refine z_goto (tgt := 2) dX12_isTold_33 (by decide) ?_
        exact ih _ (by omega) (k + 1) rfl (by omega) (lt_s h_1 hno)
      · have hy : (o.getD k (0, false)).1 = c := by omega
        refine z_iconst (v := nI 1) dX12_isTold_28 rfl ?_
        refine z_zreturn dX12_isTold_29 (Nat.le_of_ble_eq_true rfl) (Nat.le_of_ble_eq_true rfl) rfl (by first | exact Or.inl rfl | exact Or.inr rfl | exact zb_01 _ | assumption) ?_
        have e : po o c = k := fs_eq h_1 (by omega) (fun _ => hy)
        exact zi_r (by rw [zb_t (by omega)] <;> rfl)

set_option maxHeartbeats 4000000 in
set_option maxRecDepth 100000 in
theorem s_mTold {D : zD} {z0 nx : Nat} {L : zL} {V : zV} {m c : Nat} {o : List (Nat × Bool)} (hm : sM L m) (hR : RO V m o) (hc : c < 1000) : Sp D z0 1 0 0 mX12_isTold [.ref m, .int (nI c)] L V nx (zi (zb (po o c < o.length)) L V nx) := by
  refine Sp.of 1 (by decide) rfl rfl (Nat.le_of_ble_eq_true rfl) ?_
  refine z_iconst (v := nI 0) dX12_isTold_0 rfl ?_
  refine z_istore_n dX12_isTold_1 (Nat.le_of_ble_eq_true rfl) rfl ?_
  exact lp_told hm hR hc _ 0 rfl (by omega) (fun j hj => absurd hj (by omega))

