/-! the reference reads its tape: words -/
def wof (n : Nat) : Nat := [0, 6, 11, 18, 24, 26, 28, 30, 35, 39, 45].getD n 0
def wln (n : Nat) : Nat := [5, 4, 6, 5, 1, 1, 1, 4, 3, 5].getD n 0
def wch (n k : Nat) : Nat := wdt.getD (wof n + k) 0
theorem wch_ok : ∀ n, n < 10 → ∀ k, k < wln n → ¬ wch n k = 0 ∧ wch n k < 128 := by decide +kernel
theorem wch_0 : ∀ n, n < 10 → wch n (wln n) = 0 := by decide +kernel
theorem wof_n : ∀ n, n < 10 → wof (n + 1) = wof n + wln n + 1 ∧ wof n + wln n < 45 ∧ wln n < 7 := by decide +kernel
def isV (b : List Nat) (p n : Nat) : Prop := run isL b p = wln n ∧ ∀ k, k < wln n → bt b (p + k) = wch n k
noncomputable def wno (b : List Nat) (p : Nat) : Nat := fs (isV b p) 10
theorem sgn_L {b : Nat} (h : b < 256) : ((97 : Int) ≤ (sgn b).toInt ∧ (sgn b).toInt ≤ (122 : Nat)) ↔ isL b := by
  rw [sgn_bm h, Int.bmod_def]
  unfold isL
  omega
theorem sgn_eq {b c : Nat} (h : b < 256) (hc : c < 128) : sgn b = nI c ↔ b = c := by
  constructor
  · intro e
    have e2 := congrArg Int32.toInt e
    rw [sgn_bm h, nI_toInt (by omega), Int.bmod_def] at e2
    omega
  · rintro rfl
    exact if_pos hc

set_option maxHeartbeats 4000000 in
set_option maxRecDepth 100000 in
theorem lp_wend {D : zD} {z0 nx : Nat} {L : zL} {V : zV} {m p : Nat} {b : List Nat} (hm : sM L m) (g1 : V m 10 = nI b.length) (g3 : b.length ≤ 100) (hp : p < 1000) (g5 : ∀ j, j < b.length → V (m + 6) j = sgn (bt b j) ∧ bt b j < 256) {P : zP} (K : Z D z0 3 0 0 mX12_word 0 0 66 [some (.ref m), none, none, none, none, none] [] L (zup V m 17 (nI (p + run isL b p))) nx P) : ∀ (fu : Nat) (j : Nat) (V1 : zV), b.length + 1 - (p + j) = fu → p + j ≤ b.length ∨ j = 0 → (∀ i, i < j → p + i < b.length ∧ isL (bt b (p + i))) → V1 = zup V m 17 (nI (p + j)) → Z D z0 3 0 0 mX12_word 0 0 20 [some (.ref m), none, none, none, none, none] [] L V1 nx (P) := by
  intro fu
  induction fu using Nat.strongRecOn with
  | ind fu ih =>
    intro j V1 h_fu h_0 h_1 h_2
    have hm0 := hm
    obtain ⟨a0, a1, a2, a3, a4, a5, a6, a7, a8, a9, a10, a11, a12, a13, a14, a15⟩ := hm
    subst h_2
    have hjl : j ≤ 100 := by
      rcases (show j = 0 ∨ 0 < j by omega) with q | q
      · omega
      · have := (h_1 (j - 1) (by omega)).1
        omega
    have hN : ¬ (p + j < b.length ∧ isL (bt b (p + j))) → run isL b p = j := fun hx => by
      refine run_eq (fun i hi => (h_1 i hi).2) ?_ (fun hl q => hx ⟨by omega, q⟩)
      rcases (show j = 0 ∨ 0 < j by omega) with z | z
      · omega
      · have := (h_1 (j - 1) (by omega)).1
        omega
    refine z_aload_n dX12_word_20 rfl ?_
    refine z_getIe dX12_word_21 fX12_232 (by first | assumption | exact And.left (by assumption)) rfl (zup_s _ _ _ _) ?_
    refine z_aload_n dX12_word_24 rfl ?_
    refine z_getIe dX12_word_25 fX12_216 (by first | assumption | exact And.left (by assumption)) rfl ((zup_k (by decide)).trans g1) ?_
    refine z_icmp_geN (tgt := 66) dX12_word_28 (by decide) (by omega) (by omega) (fun c_28 => ?_) (fun c_28 => ?_)
    · have eR := hN (fun z => by omega)
      rw [eR] at K
      exact K
    · obtain ⟨h5, h6⟩ := g5 (p + j) (by omega)
      refine z_aload_n dX12_word_31 rfl ?_
      refine z_getR dX12_word_32 fX12_31 (by first | assumption | exact And.left (by assumption)) rfl ?_
      refine z_aload_n dX12_word_35 rfl ?_
      refine z_getIe dX12_word_36 fX12_232 (by first | assumption | exact And.left (by assumption)) rfl (zup_s _ _ _ _) ?_
      refine z_baldN dX12_word_39 (by first | assumption | exact And.left (by assumption)) (by omega) (by decide) ((congrFun (zup_a (by omega)) _).trans h5) ?_
      refine z_i2l dX12_word_40 ?_
      refine z_ldc2 dX12_word_41 qX12_235 ?_
      refine z_ldc2 dX12_word_44 qX12_237 ?_
      refine z_callS3i dX12_word_47 kX12_isIn lX12_86 (s_isIn (v := (sgn (bt b (p + j))).toInt64)) (Nat.le_of_ble_eq_true rfl) (Nat.le_of_ble_eq_true rfl) ⟨Nat.le_of_ble_eq_true rfl, Nat.le_of_ble_eq_true rfl⟩ ?_
      refine z_if_eqB (tgt := 66) dX12_word_50 (by decide) (fun c_50 => ?_) (fun c_50 => ?_)
      · have eR := hN (fun z => c_50 (by rw [i64]; exact (sgn_L h6).mpr z.2))
        rw [eR] at K
        exact K
      · have hL : isL (bt b (p + j)) := (sgn_L h6).mp (by rw [i64] at c_50; exact c_50)
        refine z_aload_n dX12_word_53 rfl ?_
        refine z_dup dX12_word_54 rfl ?_
        refine z_getIe dX12_word_55 fX12_232 (by first | assumption | exact And.left (by assumption)) rfl (zup_s _ _ _ _) ?_
        refine z_iconst (v := nI 1) dX12_word_58 rfl ?_
        refine z_addN dX12_word_59 ?_
        refine z_putI dX12_word_60 fX12_232 (by first | assumption | exact And.left (by assumption)) rfl ?_
        refine z_goto (tgt := 20) dX12_word_63 (by decide) ?_
        rw [zup_z]
        refine ih _ (by omega) (j + 1) _ rfl (Or.inl (by omega)) (fun i hi => ?_) rfl
        by_cases e : i = j
        · rw [e]
          exact ⟨by omega, hL⟩
        · exact h_1 i (by omega)

set_option maxHeartbeats 4000000 in
set_option maxRecDepth 100000 in
theorem lp_wscan {D : zD} {z0 nx : Nat} {L : zL} {V : zV} {m n : Nat} (hm : sM L m) (hw : MWd V m) (hn : n < 10) {P : zP} (K : Z D z0 3 0 0 mX12_word 0 0 93 [some (.ref m), some (.int (nI (wof n + wln n))), some (.int (nI n)), some (.int (nI (wof n))), none, none] [] L V nx P) : ∀ (fu : Nat) (i : Nat), wln n - i = fu → i ≤ wln n → Z D z0 3 0 0 mX12_word 0 0 78 [some (.ref m), some (.int (nI (wof n + i))), some (.int (nI n)), some (.int (nI (wof n))), none, none] [] L V nx (P) := by
  intro fu
  induction fu using Nat.strongRecOn with
  | ind fu ih =>
    intro i h_fu h_0
    have hm0 := hm
    obtain ⟨a0, a1, a2, a3, a4, a5, a6, a7, a8, a9, a10, a11, a12, a13, a14, a15⟩ := hm
    obtain ⟨q1, q2, q3⟩ := wof_n n hn
    have hv : V (m + 8) (wof n + i) = nI (wch n i) := hw (wof n + i) (by omega)
    have h0 := wch_0 n hn
    have hc := wch_ok n hn i
    have hb : wch n i < 128 := by
      rcases (show i < wln n ∨ i = wln n by omega) with z | z
      · exact (hc z).2
      · rw [z, h0]; decide
    refine z_aload_n dX12_word_78 rfl ?_
    refine z_getR dX12_word_79 fX12_41 (by first | assumption | exact And.left (by assumption)) rfl ?_
    refine z_iload_n dX12_word_82 rfl ?_
    refine z_baldN dX12_word_83 (by first | assumption | exact And.left (by assumption)) (by omega) (by decide) hv ?_
    refine z_if_eqN (tgt := 93) dX12_word_84 (by decide) (by omega) (fun c_84 => ?_) (fun c_84 => ?_)
    · have ei : i = wln n := Classical.byContradiction (fun z => (hc (by omega)).1 (by omega))
      subst ei
      exact K
    · have hi : i < wln n := by
        rcases (show i < wln n ∨ i = wln n by omega) with z | z
        · exact z
        · rw [z] at c_84
          omega
      refine z_incN dX12_word_87 rfl rfl ?_
      refine z_goto (tgt := 78) dX12_word_90 (by decide) ?_
      exact ih _ (by omega) (i + 1) rfl (by omega)

