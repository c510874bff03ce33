/-! the reference reads its tape: words -/
def wof (n : Nat) : Nat := [0, 6, 11, 18, 24, 26, 28, 30, 35, 39, 45].getD n 0
def wln (n : Nat) : Nat := [5, 4, 6, 5, 1, 1, 1, 4, 3, 5].getD n 0
def wch (n k : Nat) : Nat := wdt.getD (wof n + k) 0
theorem wch_ok : ∀ n, n < 10 → ∀ k, k < wln n → ¬ wch n k = 0 ∧ wch n k < 128 := by decide +kernel
theorem wch_0 : ∀ n, n < 10 → wch n (wln n) = 0 := by decide +kernel
theorem wof_n : ∀ n, n < 10 → wof (n + 1) = wof n + wln n + 1 ∧ wof n + wln n < 45 ∧ wln n < 7 := by decide +kernel
def isV (b : List Nat) (p n : Nat) : Prop := run isL b p = wln n ∧ ∀ k, k < wln n → bt b (p + k) = wch n k
theorem wno_ex (b : List Nat) (p : Nat) : ∃ n, n = fs (isV b p) 10 := ⟨_, rfl⟩
/-- the word that stands here (kept shut: fs over 10 would be unfolded) -/
noncomputable def wno (b : List Nat) (p : Nat) : Nat := Classical.choose (wno_ex b p)
theorem wno_def (b : List Nat) (p : Nat) : wno b p = fs (isV b p) 10 := Classical.choose_spec (wno_ex b p)
theorem sgn_L {b : Nat} (h : b < 256) : ((97 : Int) ≤ (sgn b).toInt ∧ (sgn b).toInt ≤ (122 : Nat)) ↔ isL b := by
  rw [sgn_bm h, Int.bmod_def]
  unfold isL
  omega
theorem sgn_eq {b c : Nat} (h : b < 256) (hc : c < 128) : sgn b = nI c ↔ b = c := by
  constructor
  · intro e
    have e2 := congrArg Int32.toInt e
    rw [sgn_bm h, nI_toInt (by omega), Int.bmod_def] at e2
    omega
  · rintro rfl
    exact if_pos hc

set_option maxHeartbeats 4000000 in
set_option maxRecDepth 100000 in
theorem lp_wend {D : zD} {z0 nx : Nat} {L : zL} {V : zV} {m p : Nat} {b : List Nat} (hm : sM L m) (g1 : V m 10 = nI b.length) (g3 : b.length ≤ 100) (hp : p < 1000) (g5 : ∀ j, j < b.length → V (m + 6) j = sgn (bt b j) ∧ bt b j < 256) {P : zP} (K : Z D z0 3 0 0 mX12_word 0 0 66 [some (.ref m), none, none, none, none, none] [] L (zup V m 17 (nI (p + run isL b p))) nx P) : ∀ (fu : Nat) (j : Nat) (V1 : zV), b.length + 1 - (p + j) = fu → p + j ≤ b.length ∨ j = 0 → (∀ i, i < j → p + i < b.length ∧ isL (bt b (p + i))) → V1 = zup V m 17 (nI (p + j)) → Z D z0 3 0 0 mX12_word 0 0 20 [some (.ref m), none, none, none, none, none] [] L V1 nx (P) := by
  intro fu
  induction fu using Nat.strongRecOn with
  | ind fu ih =>
    intro j V1 h_fu h_0 h_1 h_2
    have hm0 := hm
    obtain ⟨a0, a1, a2, a3, a4, a5, a6, a7, a8, a9, a10, a11, a12, a13, a14, a15⟩ := hm
    subst h_2
    have hjl : j ≤ 100 := by
      rcases (show j = 0 ∨ 0 < j by omega) with q | q
      · omega
      · have := (h_1 (j - 1) (by omega)).1
        omega
    have hN : ¬ (p + j < b.length ∧ isL (bt b (p + j))) → run isL b p = j := fun hx => by
      refine run_eq (fun i hi => (h_1 i hi).2) ?_ (fun hl q => hx ⟨by omega, q⟩)
      rcases (show j = 0 ∨ 0 < j by omega) with z | z
      · omega
      · have := (h_1 (j - 1) (by omega)).1
        omega
    refine z_aload_n dX12_word_20 rfl ?_
    refine z_getIe dX12_word_21 fX12_232 (by first | assumption | exact And.left (by assumption)) rfl (zup_s _ _ _ _) ?_
    refine z_aload_n dX12_word_24 rfl ?_
    refine z_getIe dX12_word_25 fX12_216 (by first | assumption | exact And.left (by assumption)) rfl ((zup_k (by decide)).trans g1) ?_
    refine z_icmp_geN (tgt := 66) dX12_word_28 (by decide) (by omega) (by omega) (fun c_28 => ?_) (fun c_28 => ?_)
    · have eR := hN (fun z => by omega)
      rw [eR] at K
      exact K
    · obtain ⟨h5, h6⟩ := g5 (p + j) (by omega)
      refine z_aload_n dX12_word_31 rfl ?_
      refine z_getR dX12_word_32 fX12_31 (by first | assumption | exact And.left (by assumption)) rfl ?_
      refine z_aload_n dX12_word_35 rfl ?_
      refine z_getIe dX12_word_36 fX12_232 (by first | assumption | exact And.left (by assumption)) rfl (zup_s _ _ _ _) ?_
      refine z_baldN dX12_word_39 (by first | assumption | exact And.left (by assumption)) (by omega) (by decide) ((congrFun (zup_a (by omega)) _).trans h5) ?_
      refine z_i2l dX12_word_40 ?_
      refine z_ldc2 dX12_word_41 qX12_235 ?_
      refine z_ldc2 dX12_word_44 qX12_237 ?_
      refine z_callS3i dX12_word_47 kX12_isIn lX12_86 (s_isIn (v := (sgn (bt b (p + j))).toInt64)) (Nat.le_of_ble_eq_true rfl) (Nat.le_of_ble_eq_true rfl) ⟨Nat.le_of_ble_eq_true rfl, Nat.le_of_ble_eq_true rfl⟩ ?_
      refine z_if_eqB (tgt := 66) dX12_word_50 (by decide) (fun c_50 => ?_) (fun c_50 => ?_)
      · have eR := hN (fun z => c_50 (by rw [i64]; exact (sgn_L h6).mpr z.2))
        rw [eR] at K
        exact K
      · have hL : isL (bt b (p + j)) := (sgn_L h6).mp (by rw [i64] at c_50; exact c_50)
        refine z_aload_n dX12_word_53 rfl ?_
        refine z_dup dX12_word_54 rfl ?_
        refine z_getIe dX12_word_55 fX12_232 (by first | assumption | exact And.left (by assumption)) rfl (zup_s _ _ _ _) ?_
        refine z_iconst (v := nI 1) dX12_word_58 rfl ?_
        refine z_addN dX12_word_59 ?_
        refine z_putI dX12_word_60 fX12_232 (by first | assumption | exact And.left (by assumption)) rfl ?_
        refine z_goto (tgt := 20) dX12_word_63 (by decide) ?_
        rw [zup_z]
        refine ih _ (by omega) (j + 1) _ rfl (Or.inl (by omega)) (fun i hi => ?_) rfl
        by_cases e : i = j
        · rw [e]
          exact ⟨by omega, hL⟩
        · exact h_1 i (by omega)

set_option maxHeartbeats 4000000 in
set_option maxRecDepth 100000 in
theorem lp_wscan {D : zD} {z0 nx : Nat} {L : zL} {V : zV} {m n : Nat} (hm : sM L m) (hw : MWd V m) (hn : n < 10) {P : zP} (K : Z D z0 3 0 0 mX12_word 0 0 93 [some (.ref m), some (.int (nI (wof n + wln n))), some (.int (nI n)), some (.int (nI (wof n))), none, none] [] L V nx P) : ∀ (fu : Nat) (i : Nat), wln n - i = fu → i ≤ wln n → Z D z0 3 0 0 mX12_word 0 0 78 [some (.ref m), some (.int (nI (wof n + i))), some (.int (nI n)), some (.int (nI (wof n))), none, none] [] L V nx (P) := by
  intro fu
  induction fu using Nat.strongRecOn with
  | ind fu ih =>
    intro i h_fu h_0
    have hm0 := hm
    obtain ⟨a0, a1, a2, a3, a4, a5, a6, a7, a8, a9, a10, a11, a12, a13, a14, a15⟩ := hm
    obtain ⟨q1, q2, q3⟩ := wof_n n hn
    have hv : V (m + 8) (wof n + i) = nI (wch n i) := hw (wof n + i) (by omega)
    have h0 := wch_0 n hn
    have hc := wch_ok n hn i
    have hb : wch n i < 128 := by
      rcases (show i < wln n ∨ i = wln n by omega) with z | z
      · exact (hc z).2
      · rw [z, h0]; decide
    refine z_aload_n dX12_word_78 rfl ?_
    refine z_getR dX12_word_79 fX12_41 (by first | assumption | exact And.left (by assumption)) rfl ?_
    refine z_iload_n dX12_word_82 rfl ?_
    refine z_baldN dX12_word_83 (by first | assumption | exact And.left (by assumption)) (by omega) (by decide) hv ?_
    refine z_if_eqN (tgt := 93) dX12_word_84 (by decide) (by omega) (fun c_84 => ?_) (fun c_84 => ?_)
    · have ei : i = wln n := Classical.byContradiction (fun z => (hc (by omega)).1 (by omega))
      subst ei
      exact K
    · have hi : i < wln n := by
        rcases (show i < wln n ∨ i = wln n by omega) with z | z
        · exact z
        · rw [z] at c_84
          omega
      refine z_incN dX12_word_87 rfl rfl ?_
      refine z_goto (tgt := 78) dX12_word_90 (by decide) ?_
      exact ih _ (by omega) (i + 1) rfl (by omega)

theorem wch_u : ∀ n, n < 10 → ∀ k, k < 10 → n = k ∨ ¬ wln n = wln k ∨ ∃ j, j < wln n ∧ ¬ wch n j = wch k j := by decide +kernel
theorem isV_u {b : List Nat} {p n k : Nat} (hn : n < 10) (hk : k < 10) (h1 : isV b p n) (h2 : isV b p k) : n = k := by
  rcases wch_u n hn k hk with e | e | ⟨j, e1, e2⟩
  · exact e
  · exact absurd (h1.1.symm.trans h2.1) e
  · exact absurd ((h1.2 j e1).symm.trans (h2.2 j (by rw [← h2.1, h1.1]; exact e1))) e2
theorem wno_le (b : List Nat) (p : Nat) : wno b p ≤ 10 := by rw [wno_def]; exact fs_le _ _
theorem wno_eq {b : List Nat} {p n : Nat} (hn : n < 10) : wno b p = n ↔ isV b p n := by
  constructor
  · intro e
    rw [wno_def] at e
    have h : fs (isV b p) 10 < 10 := by rw [e]; exact hn
    have := fs_yes h
    rw [e] at this
    exact this
  · intro h
    rw [wno_def]
    exact fs_eq (fun k hk q => by have := isV_u hn (by omega) h q; omega) (by omega) (fun _ => h)
/-- as far as the i-th letter -/
def isVk (b : List Nat) (p n i : Nat) : Prop := run isL b p = wln n ∧ ∀ k, k < i → bt b (p + k) = wch n k
theorem isVk_s {b : List Nat} {p n i : Nat} (h : isVk b p n i) (h2 : bt b (p + i) = wch n i) : isVk b p n (i + 1) := ⟨h.1, fun k hk => by
  by_cases e : k = i
  · rw [e]; exact h2
  · exact h.2 k (by omega)⟩

set_option maxHeartbeats 4000000 in
set_option maxRecDepth 100000 in
theorem lp_wcmp {D : zD} {z0 nx : Nat} {L : zL} {V : zV} {m p n : Nat} {b : List Nat} (hm : sM L m) (hw : MWd V m) (hn : n < 10) (g3 : b.length ≤ 100) (hp : p < 1000) (g5 : ∀ j, j < b.length → V (m + 6) j = sgn (bt b j) ∧ bt b j < 256) (g16 : V m 16 = nI p) {P : zP} (K : Z D z0 3 0 0 mX12_word 0 0 168 [some (.ref m), some (.int (nI (wof n + wln n))), some (.int (nI n)), some (.int (nI (wof n))), some (.int (zb (isV b p n))), none] [] L V nx P) : ∀ (fu : Nat) (i : Nat) (x : Int32), wln n - i = fu → i ≤ wln n → x = zb (isVk b p n i) → Z D z0 3 0 0 mX12_word 0 0 118 [some (.ref m), some (.int (nI (wof n + wln n))), some (.int (nI n)), some (.int (nI (wof n))), some (.int x), some (.int (nI i))] [] L V nx (P) := by
  intro fu
  induction fu using Nat.strongRecOn with
  | ind fu ih =>
    intro i x h_fu h_0 h_1
    have hm0 := hm
    obtain ⟨a0, a1, a2, a3, a4, a5, a6, a7, a8, a9, a10, a11, a12, a13, a14, a15⟩ := hm
    subst h_1
    obtain ⟨q1, q2, q3⟩ := wof_n n hn
    have hrl := run_le isL b p
    have hc := wch_ok n hn i
    refine z_iload dX12_word_118 rfl ?_
    refine z_iload_n dX12_word_120 rfl ?_
    refine z_iload_n dX12_word_121 rfl ?_
    refine z_subN dX12_word_122 (by omega) ?_
    refine z_icmp_geN (tgt := 168) dX12_word_123 (by decide) (by omega) (by omega) (fun c_123 => ?_) (fun c_123 => ?_)
    · have ei : i = wln n := by omega
      subst ei
      refine z_fg 5 ?_
      first
        | (rw [show zb (isVk b p n (wln n)) = zb (isV b p n) from rfl]; exact K)
        | (rw [zb_f hF] at K; rw [zb_f c_128]; exact K)
    · refine z_iload dX12_word_126 rfl ?_
      refine z_if_eqB (tgt := 168) dX12_word_128 (by decide) (fun c_128 => ?_) (fun c_128 => ?_)
      · have hF : ¬ isV b p n := fun z => c_128 ⟨z.1, fun k hk => z.2 k (by omega)⟩
        refine z_fg 5 ?_
        first
          | (rw [show zb (isVk b p n (wln n)) = zb (isV b p n) from rfl]; exact K)
          | (rw [zb_f hF] at K; rw [zb_f c_128]; exact K)
      · have hi : i < wln n := by omega
        have hr1 := c_128.1
        have hv : V (m + 8) (wof n + i) = nI (wch n i) := hw (wof n + i) (by omega)
        obtain ⟨hc1, hc2⟩ := hc hi
        obtain ⟨h5, h6⟩ := g5 (p + i) (by omega)
        refine z_aload_n dX12_word_131 rfl ?_
        refine z_getR dX12_word_132 fX12_41 (by first | assumption | exact And.left (by assumption)) rfl ?_
        refine z_iload_n dX12_word_135 rfl ?_
        refine z_iload dX12_word_136 rfl ?_
        refine z_addN dX12_word_138 ?_
        refine z_baldN dX12_word_139 (by first | assumption | exact And.left (by assumption)) (by omega) (by decide) hv ?_
        refine z_aload_n dX12_word_140 rfl ?_
        refine z_getR dX12_word_141 fX12_31 (by first | assumption | exact And.left (by assumption)) rfl ?_
        refine z_aload_n dX12_word_144 rfl ?_
        refine z_getIe dX12_word_145 fX12_229 (by first | assumption | exact And.left (by assumption)) rfl g16 ?_
        refine z_iload dX12_word_148 rfl ?_
        refine z_addN dX12_word_150 ?_
        refine z_baldN dX12_word_151 (by first | assumption | exact And.left (by assumption)) (by omega) (by decide) h5 ?_
        refine z_icmp_ne (tgt := 159) dX12_word_152 (by decide) (fun c_152 => ?_) (fun c_152 => ?_)
        · refine z_iconst (v := nI 0) dX12_word_159 rfl ?_
          refine z_istore dX12_word_160 (Nat.le_of_ble_eq_true rfl) rfl ?_
          refine z_incN dX12_word_162 rfl rfl ?_
          refine z_goto (tgt := 118) dX12_word_165 (by decide) ?_
          refine ih _ (by omega) (i + 1) _ rfl (by omega) ?_
          first
            | exact (zb_t (isVk_s c_128 ((sgn_eq h6 hc2).mp (Eq.symm (Classical.byContradiction c_152))))).symm
            | exact (zb_t (isVk_s c_128 ((sgn_eq h6 hc2).mp c_152.symm))).symm
            | exact (zb_f (fun z => c_152 (((sgn_eq h6 hc2).mpr (z.2 i (by omega))).symm))).symm
        · refine z_iconst (v := nI 1) dX12_word_155 rfl ?_
          refine z_goto (tgt := 160) dX12_word_156 (by decide) ?_
          refine z_istore dX12_word_160 (Nat.le_of_ble_eq_true rfl) rfl ?_
          refine z_incN dX12_word_162 rfl rfl ?_
          refine z_goto (tgt := 118) dX12_word_165 (by decide) ?_
          refine ih _ (by omega) (i + 1) _ rfl (by omega) ?_
          first
            | exact (zb_t (isVk_s c_128 ((sgn_eq h6 hc2).mp (Eq.symm (Classical.byContradiction c_152))))).symm
            | exact (zb_t (isVk_s c_128 ((sgn_eq h6 hc2).mp c_152.symm))).symm
            | exact (zb_f (fun z => c_152 (((sgn_eq h6 hc2).mpr (z.2 i (by omega))).symm))).symm

set_option maxHeartbeats 4000000 in
set_option maxRecDepth 100000 in
theorem lp_wall {D : zD} {z0 nx : Nat} {L : zL} {V : zV} {m p : Nat} {b : List Nat} (hm : sM L m) (hw : MWd V m) (g3 : b.length ≤ 100) (hp : p < 1000) (g5 : ∀ j, j < b.length → V (m + 6) j = sgn (bt b j) ∧ bt b j < 256) (g16 : V m 16 = nI p) (g17 : V m 17 = nI (p + run isL b p)) : ∀ (fu : Nat) (n : Nat), 10 - n = fu → n ≤ 10 → (∀ k, k < n → ¬ isV b p k) → Z D z0 3 0 0 mX12_word 0 0 70 [some (.ref m), some (.int (nI (wof n))), some (.int (nI n)), none, none, none] [] L V nx (zq (some (.int (nI (wno b p)))) L nx (fun V' => V' = V)) := by
  intro fu
  induction fu using Nat.strongRecOn with
  | ind fu ih =>
    intro n h_fu h_0 h_1
    have hm0 := hm
    obtain ⟨a0, a1, a2, a3, a4, a5, a6, a7, a8, a9, a10, a11, a12, a13, a14, a15⟩ := hm
    have hrl := run_le isL b p
    refine z_iload_n dX12_word_70 rfl ?_
    refine z_bipush (v := nI 10) dX12_word_71 rfl ?_
    refine z_icmp_geN (tgt := 184) dX12_word_73 (by decide) (by omega) (by omega) (fun c_73 => ?_) (fun c_73 => ?_)
    · refine z_bipush (v := nI 10) dX12_word_184 rfl ?_
      refine z_ireturn dX12_word_186 (Nat.le_of_ble_eq_true rfl) (Nat.le_of_ble_eq_true rfl) rfl ?_
      have e10 : n = 10 := by omega
      subst e10
      exact ⟨by rw [show wno b p = 10 from (wno_def b p).trans (fs_eq h_1 (by omega) (fun z => absurd z (by omega)))], rfl, rfl, rfl⟩
    · have hn : n < 10 := c_73
      obtain ⟨q1, q2, q3⟩ := wof_n n hn
      refine z_iload_n dX12_word_76 rfl ?_
      refine z_istore_n dX12_word_77 (Nat.le_of_ble_eq_true rfl) rfl ?_
      refine lp_wscan hm0 hw hn ?_ _ 0 rfl (by omega)
      refine z_iload_n dX12_word_93 rfl ?_
      refine z_iload_n dX12_word_94 rfl ?_
      refine z_subN dX12_word_95 (by omega) ?_
      refine z_aload_n dX12_word_96 rfl ?_
      refine z_getIe dX12_word_97 fX12_232 (by first | assumption | exact And.left (by assumption)) rfl g17 ?_
      refine z_aload_n dX12_word_100 rfl ?_
      refine z_getIe dX12_word_101 fX12_229 (by first | assumption | exact And.left (by assumption)) rfl g16 ?_
      refine z_subN dX12_word_104 (by omega) ?_
      refine z_icmp_neN (tgt := 112) dX12_word_105 (by decide) (by omega) (by omega) (fun c_105 => ?_) (fun c_105 => ?_)
      · refine z_iconst (v := nI 0) dX12_word_112 rfl ?_
        refine z_istore dX12_word_113 (Nat.le_of_ble_eq_true rfl) rfl ?_
        refine z_iconst (v := nI 0) dX12_word_115 rfl ?_
        refine z_istore dX12_word_116 (Nat.le_of_ble_eq_true rfl) rfl ?_
        refine lp_wcmp hm0 hw hn g3 hp g5 g16 ?_ _ 0 _ rfl (by omega) (by first | exact (zb_f (fun z => c_105 (by have := z.1; omega))).symm | exact (zb_t ⟨by omega, fun k hk => absurd hk (by omega)⟩).symm)
        refine z_iload dX12_word_168 rfl ?_
        refine z_if_eqB (tgt := 175) dX12_word_170 (by decide) (fun c_170 => ?_) (fun c_170 => ?_)
        · refine z_incN dX12_word_175 rfl rfl ?_
          refine z_incN dX12_word_178 rfl rfl ?_
          refine z_goto (tgt := 70) dX12_word_181 (by decide) ?_
          refine z_fg 3 ?_
          refine z_fg 4 ?_
          rw [show wof n + wln n + 1 = wof (n + 1) from q1.symm]
          exact ih _ (by omega) (n + 1) rfl (by omega) (lt_s h_1 c_170)
        · refine z_iload_n dX12_word_173 rfl ?_
          refine z_ireturn dX12_word_174 (Nat.le_of_ble_eq_true rfl) (Nat.le_of_ble_eq_true rfl) rfl ?_
          exact ⟨by rw [(wno_eq hn).mpr c_170], rfl, rfl, rfl⟩
      · refine z_iconst (v := nI 1) dX12_word_108 rfl ?_
        refine z_goto (tgt := 113) dX12_word_109 (by decide) ?_
        refine z_istore dX12_word_113 (Nat.le_of_ble_eq_true rfl) rfl ?_
        refine z_iconst (v := nI 0) dX12_word_115 rfl ?_
        refine z_istore dX12_word_116 (Nat.le_of_ble_eq_true rfl) rfl ?_
        refine lp_wcmp hm0 hw hn g3 hp g5 g16 ?_ _ 0 _ rfl (by omega) (by first | exact (zb_f (fun z => c_105 (by have := z.1; omega))).symm | exact (zb_t ⟨by omega, fun k hk => absurd hk (by omega)⟩).symm)
        refine z_iload dX12_word_168 rfl ?_
        refine z_if_eqB (tgt := 175) dX12_word_170 (by decide) (fun c_170 => ?_) (fun c_170 => ?_)
        · refine z_incN dX12_word_175 rfl rfl ?_
          refine z_incN dX12_word_178 rfl rfl ?_
          refine z_goto (tgt := 70) dX12_word_181 (by decide) ?_
          refine z_fg 3 ?_
          refine z_fg 4 ?_
          rw [show wof n + wln n + 1 = wof (n + 1) from q1.symm]
          exact ih _ (by omega) (n + 1) rfl (by omega) (lt_s h_1 c_170)
        · refine z_iload_n dX12_word_173 rfl ?_
          refine z_ireturn dX12_word_174 (Nat.le_of_ble_eq_true rfl) (Nat.le_of_ble_eq_true rfl) rfl ?_
          exact ⟨by rw [(wno_eq hn).mpr c_170], rfl, rfl, rfl⟩

/-- only these fields of the reference have changed -/
def fm (V V' : zV) (m : Nat) (ks : List Nat) : Prop := (∀ q, q ≠ m → V' q = V q) ∧ ∀ j, ¬ j ∈ ks → V' m j = V m j
theorem fm.rf {V : zV} {m : Nat} {ks : List Nat} : fm V V m ks := ⟨fun _ _ => rfl, fun _ _ => rfl⟩
theorem fm.trans {V V' V'' : zV} {m : Nat} {ks : List Nat} (h : fm V V' m ks) (h' : fm V' V'' m ks) : fm V V'' m ks := ⟨fun q h1 => (h'.1 q h1).trans (h.1 q h1), fun j h1 => (h'.2 j h1).trans (h.2 j h1)⟩
theorem fm.wide {V V' : zV} {m : Nat} {ks kt : List Nat} (h : fm V V' m ks) (hk : ks.all (fun k => kt.contains k) = true) : fm V V' m kt := ⟨h.1, fun j hj => h.2 j (fun q => hj (by simpa using List.all_eq_true.mp hk j q))⟩
theorem fm.up {V V' : zV} {m k : Nat} {ks : List Nat} {x : Int32} (h : fm V V' m ks) (hk : ks.contains k = true) : fm V (zup V' m k x) m ks := ⟨fun q h1 => by rw [zup_a h1]; exact h.1 q h1, fun j hj => by
  rw [zup_k (fun e => hj (by rw [e]; simpa using hk))]
  exact h.2 j hj⟩
/-- a text that is read, and the words -/
def PS (V : zV) (m : Nat) (b : List Nat) (s : Nat) : Prop := PT V m b s ∧ MWd V m
theorem PS.up {V : zV} {m k p : Nat} {b : List Nat} {x : Int32} (h : PS V m b p) (h1 : k ≠ 10) (h2 : k ≠ 11) : PS (zup V m k x) m b p := ⟨h.1.up h1 h2, fun q hq => by rw [zup_a (by omega)]; exact h.2 q hq⟩
theorem PS.to {V : zV} {m p q : Nat} {b : List Nat} (h : PS V m b p) (hq : q < 1000) : PS (zup V m 11 (nI q)) m b q := ⟨h.1.to hq, fun q hq => by rw [zup_a (by omega)]; exact h.2 q hq⟩
theorem sk_lt {b : List Nat} {p : Nat} (h : p < 1000) (hb : b.length ≤ 100) : sk b p < 1000 := by
  have := run_le isB b p
  unfold sk
  omega
theorem PS.sk {V : zV} {m p : Nat} {b : List Nat} (h : PS V m b p) : sk b p < 1000 := sk_lt h.1.2.2.2.1 h.1.2.2.1
theorem run_0 {q : Nat → Prop} {b : List Nat} {p : Nat} (h : b.length ≤ p) : run q b p = 0 := by
  have := run_le q b p
  omega
theorem sk_i (b : List Nat) (p : Nat) : sk b (sk b p) = sk b p := by
  have h : run isB b (sk b p) = 0 := by
    refine run_eq (fun j hj => absurd hj (by omega)) (by omega) (fun hl q => ?_)
    have hr := run_le isB b p
    have hs : sk b p = p + run isB b p := rfl
    have h2 : run isB b p < b.length - p := by omega
    have h3 := fs_yes (p := fun j => ¬ isB (bt b (p + j))) (n := b.length - p) h2
    refine h3 ?_
    rw [hs] at q
    exact q
  show sk b p + run isB b (sk b p) = sk b p
  rw [h]
  rfl

set_option maxHeartbeats 4000000 in
set_option maxRecDepth 100000 in
theorem s_mWord {D : zD} {z0 nx : Nat} {L : zL} {V : zV} {m s : Nat} {b : List Nat} (hm : sM L m) (h : PS V m b s) : Sp D z0 3 0 0 mX12_word [.ref m] L V nx (zq (some (.int (nI (wno b (sk b s))))) L nx (fun V' => fm V V' m [11, 16, 17] ∧ PS V' m b (sk b s) ∧ V' m 16 = nI (sk b s) ∧ V' m 17 = nI (sk b s + run isL b (sk b s)))) := by
  have hm0 := hm
  obtain ⟨a0, a1, a2, a3, a4, a5, a6, a7, a8, a9, a10, a11, a12, a13, a14, a15⟩ := hm
  obtain ⟨hT, hw⟩ := h
  have h0 := hT
  obtain ⟨g1, g2, g3, g4, g5⟩ := hT
  have hsk := sk_lt g4 g3
  refine Sp.of 5 (by decide) rfl rfl (Nat.le_of_ble_eq_true rfl) ?_
  refine z_aload_n dX12_word_0 rfl ?_
  refine z_callV0w dX12_word_1 kX12_blanks lX12_226 (by first | assumption | exact And.left (by assumption)) rfl (s_blk hm0 h0) (Nat.le_of_ble_eq_true rfl) (Nat.le_of_ble_eq_true rfl) ⟨Nat.le_of_ble_eq_true rfl, Nat.le_of_ble_eq_true rfl⟩ ?_
  intro V1 hV1
  subst hV1
  refine z_aload_n dX12_word_4 rfl ?_
  refine z_aload_n dX12_word_5 rfl ?_
  refine z_getIe dX12_word_6 fX12_213 (by first | assumption | exact And.left (by assumption)) rfl (zup_s _ _ _ _) ?_
  refine z_putI dX12_word_9 fX12_229 (by first | assumption | exact And.left (by assumption)) rfl ?_
  refine z_aload_n dX12_word_12 rfl ?_
  refine z_aload_n dX12_word_13 rfl ?_
  refine z_getIe dX12_word_14 fX12_213 (by first | assumption | exact And.left (by assumption)) rfl ((zup_k (by decide)).trans (zup_s _ _ _ _)) ?_
  refine z_putI dX12_word_17 fX12_232 (by first | assumption | exact And.left (by assumption)) rfl ?_
  have hP : PS (zup (zup (zup V m 11 (nI (sk b s))) m 16 (nI (sk b s))) m 17 (nI (sk b s))) m b (sk b s) := ((PS.to ⟨h0, hw⟩ hsk).up (by decide) (by decide)).up (by decide) (by decide)
  refine lp_wend (p := sk b s) hm0 hP.1.1 g3 hsk hP.1.2.2.2.2 ?_ _ 0 _ rfl (Or.inr rfl) (fun i hi => absurd hi (by omega)) (zup_same (zup_s _ _ _ _)).symm
  rw [zup_z]
  refine z_iconst (v := nI 0) dX12_word_66 rfl ?_
  refine z_istore_n dX12_word_67 (Nat.le_of_ble_eq_true rfl) rfl ?_
  refine z_iconst (v := nI 0) dX12_word_68 rfl ?_
  refine z_istore_n dX12_word_69 (Nat.le_of_ble_eq_true rfl) rfl ?_
  have hP2 : PS (zup (zup (zup V m 11 (nI (sk b s))) m 16 (nI (sk b s))) m 17 (nI (sk b s + run isL b (sk b s)))) m b (sk b s) := ((PS.to ⟨h0, hw⟩ hsk).up (by decide) (by decide)).up (by decide) (by decide)
  refine z_fg 3 ?_
  refine Z.mono (lp_wall (D := D) (z0 := z0) (nx := nx) hm0 hP2.2 g3 hsk hP2.1.2.2.2.2 ((zup_k (by decide)).trans (zup_s _ _ _ _)) (zup_s _ _ _ _) _ 0 rfl (by omega) (fun k hk => absurd hk (by omega))) ?_
  intro r2 L2 V9 n9 h9
  obtain ⟨q1, q2, q3, q4⟩ := h9
  subst q4
  exact ⟨q1, q2, q3, ((fm.rf.up rfl).up rfl).up rfl, hP2, (zup_k (by decide)).trans (zup_s _ _ _ _), zup_s _ _ _ _⟩

