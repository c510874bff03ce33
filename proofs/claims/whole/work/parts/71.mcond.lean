/-! the reference reads its tape: conditions -/
theorem byI_lt {b : List Nat} {p : Nat} (hb : ∀ j, j < b.length → bt b j < 256) : byI b p = -1 ∨ ∃ x, x < 256 ∧ byI b p = nI x ∧ x = bt b p ∧ p < b.length := by
  unfold byI
  split
  · rename_i q
    exact Or.inr ⟨bt b p, hb p q, rfl, rfl, q⟩
  · exact Or.inl rfl
theorem byI_eq {b : List Nat} {p k : Nat} (hb : ∀ j, j < b.length → bt b j < 256) (hk : k < 256) : byI b p = nI k ↔ (p < b.length ∧ bt b p = k) := by
  constructor
  · intro h
    rcases byI_lt (p := p) hb with e | ⟨x, h1, h2, h3, h4⟩
    · rw [e] at h
      exact absurd h.symm (nI_ne_m1 (by omega))
    · rw [h2] at h
      exact ⟨h4, by rw [← h3]; exact nI_inj (by omega) (by omega) h⟩
  · rintro ⟨h1, h2⟩
    unfold byI
    rw [if_pos h1, h2]
theorem oph_v {b : List Nat} {p : Nat} (hb : ∀ j, j < b.length → bt b j < 256) : vv (oph b p) = (if byI b p = nI 61 then nI 0 else if byI b p = nI 33 then nI 1 else if byI b p = nI 60 then nI 2 else if byI b p = nI 62 then nI 3 else -1) := by
  simp only [byI_eq hb (show 61 < 256 by decide), byI_eq hb (show 33 < 256 by decide), byI_eq hb (show 60 < 256 by decide), byI_eq hb (show 62 < 256 by decide)]
  unfold oph
  by_cases h : p < b.length
  · simp only [h, true_and, if_true]
    repeat' split
    all_goals rfl
  · simp only [h, false_and, if_false]
    rfl
theorem isD_b {b : List Nat} {p : Nat} (hb : ∀ j, j < b.length → bt b j < 256) : ((48 : Int) ≤ (byI b p).toInt ∧ (byI b p).toInt ≤ (57 : Nat)) ↔ (p < b.length ∧ isD (bt b p)) := by
  unfold isD
  rcases byI_lt (p := p) hb with e | ⟨x, h1, h2, h3, h4⟩
  · have hn : ¬ p < b.length := fun q => by
      unfold byI at e
      rw [if_pos q] at e
      exact nI_ne_m1 (by have := hb p q; omega) e
    rw [e]
    constructor
    · intro q
      exact absurd q.1 (by decide)
    · intro q
      exact absurd q.1 hn
  · rw [h2, nI_toInt (by omega), h3]
    omega
theorem byI_y {b : List Nat} {p : Nat} (h : p < b.length) : byI b p = nI (bt b p) := if_pos h
theorem num_1 (b : List Nat) (q : Nat) : num b q 1 = bt b q - 48 := if_neg (by decide)
theorem num_2 (b : List Nat) (q : Nat) : num b q 2 = (bt b q - 48) * 10 + bt b (q + 1) - 48 := if_pos rfl
/-- a condition, one too many perhaps -/
noncomputable def cX (mo : Prop) (b : List Nat) (p : Nat) : Nat × Nat × Cd := match clm b p with
  | none => (1, p, (0, 0, 0))
  | some _ => @ite _ mo (Classical.propDecidable mo) (4, p, (0, 0, 0)) (rC b p)

set_option maxHeartbeats 4000000 in
set_option maxRecDepth 100000 in
theorem s_opOf {D : zD} {z0 nx : Nat} {L : zL} {V : zV} {b : List Nat} {p : Nat} (hb : ∀ j, j < b.length → bt b j < 256) : Sp D z0 1 0 0 mX12_opOf [.int (byI b p)] L V nx (zi (vv (oph b p)) L V nx) := by
  refine Sp.of 0 (by decide) rfl rfl (Nat.le_of_ble_eq_true rfl) ?_
  refine z_iload_n dX12_opOf_0 rfl ?_
  refine z_bipush (v := nI 61) dX12_opOf_1 rfl ?_
  refine z_icmp_ne (tgt := 10) dX12_opOf_3 (by decide) (fun c_3 => ?_) (fun c_3 => ?_)
  · refine z_iload_n dX12_opOf_10 rfl ?_
    refine z_bipush (v := nI 33) dX12_opOf_11 rfl ?_
    refine z_icmp_ne (tgt := 20) dX12_opOf_13 (by decide) (fun c_13 => ?_) (fun c_13 => ?_)
    · refine z_iload_n dX12_opOf_20 rfl ?_
      refine z_bipush (v := nI 60) dX12_opOf_21 rfl ?_
      refine z_icmp_ne (tgt := 30) dX12_opOf_23 (by decide) (fun c_23 => ?_) (fun c_23 => ?_)
      · refine z_iload_n dX12_opOf_30 rfl ?_
        refine z_bipush (v := nI 62) dX12_opOf_31 rfl ?_
        refine z_icmp_ne (tgt := 40) dX12_opOf_33 (by decide) (fun c_33 => ?_) (fun c_33 => ?_)
        · refine z_iconst (v := (-1)) dX12_opOf_40 rfl ?_
          refine z_ireturn dX12_opOf_41 (Nat.le_of_ble_eq_true rfl) (Nat.le_of_ble_eq_true rfl) rfl ?_
          first
            | exact zi_r (by rw [oph_v hb, if_pos c_3])
            | exact zi_r (by rw [oph_v hb, if_neg c_3, if_pos c_13])
            | exact zi_r (by rw [oph_v hb, if_neg c_3, if_neg c_13, if_pos c_23])
            | exact zi_r (by rw [oph_v hb, if_neg c_3, if_neg c_13, if_neg c_23, if_pos c_33])
            | exact zi_r (by rw [oph_v hb, if_neg c_3, if_neg c_13, if_neg c_23, if_neg c_33])
        · refine z_iconst (v := nI 3) dX12_opOf_36 rfl ?_
          refine z_goto (tgt := 41) dX12_opOf_37 (by decide) ?_
          refine z_ireturn dX12_opOf_41 (Nat.le_of_ble_eq_true rfl) (Nat.le_of_ble_eq_true rfl) rfl ?_
          first
            | exact zi_r (by rw [oph_v hb, if_pos c_3])
            | exact zi_r (by rw [oph_v hb, if_neg c_3, if_pos c_13])
            | exact zi_r (by rw [oph_v hb, if_neg c_3, if_neg c_13, if_pos c_23])
            | exact zi_r (by rw [oph_v hb, if_neg c_3, if_neg c_13, if_neg c_23, if_pos c_33])
            | exact zi_r (by rw [oph_v hb, if_neg c_3, if_neg c_13, if_neg c_23, if_neg c_33])
      · refine z_iconst (v := nI 2) dX12_opOf_26 rfl ?_
        refine z_goto (tgt := 41) dX12_opOf_27 (by decide) ?_
        refine z_ireturn dX12_opOf_41 (Nat.le_of_ble_eq_true rfl) (Nat.le_of_ble_eq_true rfl) rfl ?_
        first
          | exact zi_r (by rw [oph_v hb, if_pos c_3])
          | exact zi_r (by rw [oph_v hb, if_neg c_3, if_pos c_13])
          | exact zi_r (by rw [oph_v hb, if_neg c_3, if_neg c_13, if_pos c_23])
          | exact zi_r (by rw [oph_v hb, if_neg c_3, if_neg c_13, if_neg c_23, if_pos c_33])
          | exact zi_r (by rw [oph_v hb, if_neg c_3, if_neg c_13, if_neg c_23, if_neg c_33])
    · refine z_iconst (v := nI 1) dX12_opOf_16 rfl ?_
      refine z_goto (tgt := 41) dX12_opOf_17 (by decide) ?_
      refine z_ireturn dX12_opOf_41 (Nat.le_of_ble_eq_true rfl) (Nat.le_of_ble_eq_true rfl) rfl ?_
      first
        | exact zi_r (by rw [oph_v hb, if_pos c_3])
        | exact zi_r (by rw [oph_v hb, if_neg c_3, if_pos c_13])
        | exact zi_r (by rw [oph_v hb, if_neg c_3, if_neg c_13, if_pos c_23])
        | exact zi_r (by rw [oph_v hb, if_neg c_3, if_neg c_13, if_neg c_23, if_pos c_33])
        | exact zi_r (by rw [oph_v hb, if_neg c_3, if_neg c_13, if_neg c_23, if_neg c_33])
  · refine z_iconst (v := nI 0) dX12_opOf_6 rfl ?_
    refine z_goto (tgt := 41) dX12_opOf_7 (by decide) ?_
    refine z_ireturn dX12_opOf_41 (Nat.le_of_ble_eq_true rfl) (Nat.le_of_ble_eq_true rfl) rfl ?_
    first
      | exact zi_r (by rw [oph_v hb, if_pos c_3])
      | exact zi_r (by rw [oph_v hb, if_neg c_3, if_pos c_13])
      | exact zi_r (by rw [oph_v hb, if_neg c_3, if_neg c_13, if_pos c_23])
      | exact zi_r (by rw [oph_v hb, if_neg c_3, if_neg c_13, if_neg c_23, if_pos c_33])
      | exact zi_r (by rw [oph_v hb, if_neg c_3, if_neg c_13, if_neg c_23, if_neg c_33])

set_option maxHeartbeats 4000000 in
set_option maxRecDepth 100000 in
theorem lp_dig {D : zD} {z0 nx : Nat} {L : zL} {V : zV} {m q : Nat} {b : List Nat} {x1 x2 : Int32} (hm : sM L m) (hP : PS V m b q) {P : zP} (K : ∀ v, v < 1000 → ((run isD b q = 1 ∨ run isD b q = 2) → v = num b q (run isD b q)) → Z D z0 6 0 0 mX12_cond 0 0 176 [some (.ref m), some (.int x1), some (.int x2), some (.int (nI q)), some (.int (nI v))] [] L (zup V m 11 (nI (q + run isD b q))) nx P) : ∀ (fu : Nat) (j : Nat) (v : Nat) (V1 : zV), b.length + 1 - (q + j) = fu → q + j ≤ b.length ∨ j = 0 → (∀ i, i < j → q + i < b.length ∧ isD (bt b (q + i))) → V1 = zup V m 11 (nI (q + j)) → v < 1000 ∧ (j = 0 → v = 0) ∧ (j = 1 → v = num b q 1) ∧ (j = 2 → v = num b q 2) → Z D z0 6 0 0 mX12_cond 0 0 119 [some (.ref m), some (.int x1), some (.int x2), some (.int (nI q)), some (.int (nI v))] [] L V1 nx (P) := by
  intro fu
  induction fu using Nat.strongRecOn with
  | ind fu ih =>
    intro j v V1 h_fu h_0 h_1 h_2 h_3
    have hm0 := hm
    obtain ⟨a0, a1, a2, a3, a4, a5, a6, a7, a8, a9, a10, a11, a12, a13, a14, a15⟩ := hm
    subst h_2
    obtain ⟨⟨g1, g2, g3, g4, g5⟩, g6⟩ := id hP
    have hbb : ∀ j, j < b.length → bt b j < 256 := fun j hj => (g5 j hj).2
    obtain ⟨v1, v2, v3, v4⟩ := h_3
    have hjl : j ≤ 100 := by
      rcases (show j = 0 ∨ 0 < j by omega) with z | z
      · omega
      · have := (h_1 (j - 1) (by omega)).1
        omega
    have hT : PT (zup V m 11 (nI (q + j))) m b (q + j) := hP.1.to (by rcases h_0 with z | z <;> omega)
    have hq9 : q + j < 1100 := by omega
    refine z_aload_n dX12_cond_119 rfl ?_
    refine z_callV0i dX12_cond_120 kX12_peek lX12_219 (by first | assumption | exact And.left (by assumption)) rfl (s_peek hm0 hT) (Nat.le_of_ble_eq_true rfl) (Nat.le_of_ble_eq_true rfl) ⟨Nat.le_of_ble_eq_true rfl, Nat.le_of_ble_eq_true rfl⟩ ?_
    refine z_i2l dX12_cond_123 ?_
    refine z_ldc2 dX12_cond_124 qX12_262 ?_
    refine z_ldc2 dX12_cond_127 qX12_264 ?_
    refine z_callS3i dX12_cond_130 kX12_isIn lX12_86 (s_isIn (v := (byI b (q + j)).toInt64)) (Nat.le_of_ble_eq_true rfl) (Nat.le_of_ble_eq_true rfl) ⟨Nat.le_of_ble_eq_true rfl, Nat.le_of_ble_eq_true rfl⟩ ?_
    refine z_if_eqB (tgt := 176) dX12_cond_133 (by decide) (fun c_133 => ?_) (fun c_133 => ?_)
    · have eR : run isD b q = j := by
        refine run_eq (fun i hi => (h_1 i hi).2) ?_ (fun hl z => ?_)
        · rcases (show j = 0 ∨ 0 < j by omega) with z | z
          · omega
          · have := (h_1 (j - 1) (by omega)).1
            omega
        · exact c_133 (by rw [i64]; exact (isD_b hbb).mpr ⟨by omega, z⟩)
      rw [← eR]
      refine K v v1 (fun z => ?_)
      rcases z with z | z
      · rw [z]
        exact v3 (by omega)
      · rw [z]
        exact v4 (by omega)
    · obtain ⟨d1, d2⟩ := (isD_b hbb).mp (by rw [i64] at c_133; exact c_133)
      have d3 := hbb _ d1
      obtain ⟨d4, d5⟩ := id d2
      refine z_iload dX12_cond_136 rfl ?_
      refine z_bipush (v := nI 99) dX12_cond_138 rfl ?_
      refine z_icmp_leN (tgt := 148) dX12_cond_140 (by decide) (by omega) (by omega) (fun c_140 => ?_) (fun c_140 => ?_)
      · skip
        refine z_bipush (v := nI 10) dX12_cond_148 rfl ?_
        refine z_iload dX12_cond_150 rfl ?_
        refine z_mulN dX12_cond_152 ?_
        refine z_aload_n dX12_cond_153 rfl ?_
        refine z_callV0i dX12_cond_154 kX12_peek lX12_219 (by first | assumption | exact And.left (by assumption)) rfl (s_peek hm0 hT) (Nat.le_of_ble_eq_true rfl) (Nat.le_of_ble_eq_true rfl) ⟨Nat.le_of_ble_eq_true rfl, Nat.le_of_ble_eq_true rfl⟩ ?_
        rw [byI_y d1]
        refine z_addN dX12_cond_157 ?_
        refine z_bipush (v := nI 48) dX12_cond_158 rfl ?_
        refine z_subN dX12_cond_160 (by omega) ?_
        refine z_istore dX12_cond_161 (Nat.le_of_ble_eq_true rfl) rfl ?_
        refine z_aload_n dX12_cond_163 rfl ?_
        refine z_dup dX12_cond_164 rfl ?_
        refine z_getIe dX12_cond_165 fX12_213 (by first | assumption | exact And.left (by assumption)) rfl (zup_s _ _ _ _) ?_
        refine z_iconst (v := nI 1) dX12_cond_168 rfl ?_
        refine z_addN dX12_cond_169 ?_
        refine z_putI dX12_cond_170 fX12_213 (by first | assumption | exact And.left (by assumption)) rfl ?_
        refine z_goto (tgt := 119) dX12_cond_173 (by decide) ?_
        rw [zup_z]
        refine ih _ (by omega) (j + 1) _ _ rfl (Or.inl (by omega)) (fun i hi => ?_) rfl ?_
        · by_cases e : i = j
          · rw [e]
            exact ⟨d1, d2⟩
          · exact h_1 i (by omega)
        · first
            | (refine ⟨by omega, fun z => absurd z (by omega), fun z => ?_, fun z => ?_⟩
               · have e : j = 0 := by omega
                 subst e
                 rw [num_1, v2 rfl]
                 rw [Nat.add_zero]
                 omega
               · have e : j = 1 := by omega
                 subst e
                 rw [num_2, v3 rfl, num_1]
                 omega)
            | exact ⟨v1, fun z => absurd z (by omega), fun z => absurd z (by omega), fun z => absurd z (by omega)⟩
      · have hj2 : 2 ≤ j := by
          rcases (show j = 0 ∨ j = 1 ∨ 2 ≤ j by omega) with z | z | z
          · have := v2 z
            omega
          · have z2 := v3 z
            rw [num_1] at z2
            have z3 := (h_1 0 (by omega)).2
            obtain ⟨z4, z5⟩ := z3
            rw [Nat.add_zero] at z4 z5
            omega
          · exact z
        refine z_iload dX12_cond_143 rfl ?_
        refine z_goto (tgt := 161) dX12_cond_145 (by decide) ?_
        refine z_istore dX12_cond_161 (Nat.le_of_ble_eq_true rfl) rfl ?_
        refine z_aload_n dX12_cond_163 rfl ?_
        refine z_dup dX12_cond_164 rfl ?_
        refine z_getIe dX12_cond_165 fX12_213 (by first | assumption | exact And.left (by assumption)) rfl (zup_s _ _ _ _) ?_
        refine z_iconst (v := nI 1) dX12_cond_168 rfl ?_
        refine z_addN dX12_cond_169 ?_
        refine z_putI dX12_cond_170 fX12_213 (by first | assumption | exact And.left (by assumption)) rfl ?_
        refine z_goto (tgt := 119) dX12_cond_173 (by decide) ?_
        rw [zup_z]
        refine ih _ (by omega) (j + 1) _ _ rfl (Or.inl (by omega)) (fun i hi => ?_) rfl ?_
        · by_cases e : i = j
          · rw [e]
            exact ⟨d1, d2⟩
          · exact h_1 i (by omega)
        · first
            | (refine ⟨by omega, fun z => absurd z (by omega), fun z => ?_, fun z => ?_⟩
               · have e : j = 0 := by omega
                 subst e
                 rw [num_1, v2 rfl]
                 rw [Nat.add_zero]
                 omega
               · have e : j = 1 := by omega
                 subst e
                 rw [num_2, v3 rfl, num_1]
                 omega)
            | exact ⟨v1, fun z => absurd z (by omega), fun z => absurd z (by omega), fun z => absurd z (by omega)⟩

theorem ce_f {W V3 : zV} {m k0 k q s : Nat} {b : List Nat} {x : Int32} (hP : PS W m b s) (hk : ¬ k = 0) (hk5 : k < 5) (e : V3 = if k0 = 0 then zup (zup W m 12 (nI k)) m 13 (nI q) else W) : fm W (zup V3 m 20 x) m [11, 12, 13, 20] ∧ (¬ k0 = 0 → zup V3 m 20 x m 12 = W m 12 ∧ zup V3 m 20 x m 13 = W m 13 ∧ ∃ s, PS (zup V3 m 20 x) m b s) ∧ (k0 = 0 → OUT (zup V3 m 20 x) m b k q) := by
  by_cases c : k0 = 0
  · rw [if_pos c] at e
    refine ⟨by rw [e]; exact ((fm.rf.up rfl).up rfl).up rfl, fun z => absurd c z, fun _ => ?_⟩
    exact (OUT.fl hP hk hk5 e).cg (ks := [20]) (fm.rf.up rfl) rfl rfl rfl rfl
  · rw [if_neg c] at e
    subst e
    exact ⟨fm.rf.up rfl, fun _ => ⟨zup_k (by decide), zup_k (by decide), s, hP.up (by decide) (by decide)⟩, fun z => absurd z c⟩

set_option maxHeartbeats 4000000 in
set_option maxRecDepth 100000 in
theorem lp_c97 {D : zD} {z0 nx : Nat} {L : zL} {V : zV} {m s k0 : Nat} {b : List Nat} {x1 x2 : Int32} (hm : sM L m) (hP : PS V m b s) (hsl : s ≤ b.length) (h12 : V m 12 = nI k0) (hk0 : k0 < 5) : Z D z0 6 0 0 mX12_cond 0 0 97 [some (.ref m), some (.int x1), some (.int x2), none, none] [] L V nx (zq none L nx (fun V' => fm V V' m [11, 12, 13, 20] ∧ (¬ k0 = 0 → V' m 12 = V m 12 ∧ V' m 13 = V m 13 ∧ ∃ s, PS V' m b s) ∧ (k0 = 0 → V m 13 = -1 → (run isD b (sk b (s + 1)) = 0 → OUT V' m b 1 (sk b (s + 1))) ∧ (2 < run isD b (sk b (s + 1)) → OUT V' m b 2 (sk b (s + 1))) ∧ ((run isD b (sk b (s + 1)) = 1 ∨ run isD b (sk b (s + 1)) = 2) → OUT V' m b 0 (sk b (sk b (s + 1) + run isD b (sk b (s + 1)))) ∧ V' m 20 = nI (num b (sk b (s + 1)) (run isD b (sk b (s + 1)))))))) := by

  have hm0 := hm
  obtain ⟨a0, a1, a2, a3, a4, a5, a6, a7, a8, a9, a10, a11, a12, a13, a14, a15⟩ := hm
  obtain ⟨⟨g1, g2, g3, g4, g5⟩, g6⟩ := id hP
  have hT1 : PT (zup V m 11 (nI (s + 1))) m b (s + 1) := hP.1.to (by omega)
  have hrb := run_le isB b (s + 1)
  have hrd := run_le isD b (sk b (s + 1))
  have hq9 : sk b (s + 1) ≤ 101 := by unfold sk; omega
  have hPq : PS (zup V m 11 (nI (sk b (s + 1)))) m b (sk b (s + 1)) := hP.to (by omega)
  have hPd : PS (zup V m 11 (nI (sk b (s + 1) + run isD b (sk b (s + 1))))) m b (sk b (s + 1) + run isD b (sk b (s + 1))) := hP.to (by omega)
  have h12d : zup V m 11 (nI (sk b (s + 1) + run isD b (sk b (s + 1)))) m 12 = nI k0 := (zup_k (by decide)).trans h12
  refine z_aload_n dX12_cond_97 rfl ?_
  refine z_dup dX12_cond_98 rfl ?_
  refine z_getIe dX12_cond_99 fX12_213 (by first | assumption | exact And.left (by assumption)) rfl g2 ?_
  refine z_iconst (v := nI 1) dX12_cond_102 rfl ?_
  refine z_addN dX12_cond_103 ?_
  refine z_putI dX12_cond_104 fX12_213 (by first | assumption | exact And.left (by assumption)) rfl ?_
  refine z_aload_n dX12_cond_107 rfl ?_
  refine z_callV0w dX12_cond_108 kX12_blanks lX12_226 (by first | assumption | exact And.left (by assumption)) rfl (s_blk hm0 hT1) (Nat.le_of_ble_eq_true rfl) (Nat.le_of_ble_eq_true rfl) ⟨Nat.le_of_ble_eq_true rfl, Nat.le_of_ble_eq_true rfl⟩ ?_
  intro V1 hV1
  rw [zup_z] at hV1
  subst hV1
  refine z_aload_n dX12_cond_111 rfl ?_
  refine z_getIe dX12_cond_112 fX12_213 (by first | assumption | exact And.left (by assumption)) rfl (zup_s _ _ _ _) ?_
  refine z_istore_n dX12_cond_115 (Nat.le_of_ble_eq_true rfl) rfl ?_
  refine z_iconst (v := nI 0) dX12_cond_116 rfl ?_
  refine z_istore dX12_cond_117 (Nat.le_of_ble_eq_true rfl) rfl ?_
  refine lp_dig hm0 hPq (fun v hv1 hv2 => ?_) _ 0 0 _ rfl (Or.inr rfl) (fun i hi => absurd hi (by omega)) (by rw [zup_z] <;> rfl) ⟨by omega, fun _ => rfl, fun z => absurd z (by simp), fun z => absurd z (by simp)⟩
  rw [zup_z]
  refine z_aload_n dX12_cond_176 rfl ?_
  refine z_getIe dX12_cond_177 fX12_213 (by first | assumption | exact And.left (by assumption)) rfl (zup_s _ _ _ _) ?_
  refine z_iload_n dX12_cond_180 rfl ?_
  refine z_icmp_neN (tgt := 190) dX12_cond_181 (by decide) (by omega) (by omega) (fun c_181 => ?_) (fun c_181 => ?_)
  · have hd0 : ¬ run isD b (sk b (s + 1)) = 0 := by omega
    refine z_aload_n dX12_cond_190 rfl ?_
    refine z_getIe dX12_cond_191 fX12_213 (by first | assumption | exact And.left (by assumption)) rfl (by first | exact w11 | exact zup_s _ _ _ _) ?_
    refine z_iload_n dX12_cond_194 rfl ?_
    refine z_iconst (v := nI 2) dX12_cond_195 rfl ?_
    refine z_addN dX12_cond_196 ?_
    refine z_icmp_leN (tgt := 206) dX12_cond_197 (by decide) (by omega) (by omega) (fun c_197 => ?_) (fun c_197 => ?_)
    · refine z_aload_n dX12_cond_206 rfl ?_
      refine z_iload dX12_cond_207 rfl ?_
      refine z_putI dX12_cond_209 fX12_266 (by first | assumption | exact And.left (by assumption)) rfl ?_
      refine z_return dX12_cond_212 (Nat.le_of_ble_eq_true rfl) (Nat.le_of_ble_eq_true rfl) rfl ?_
      first
        | (exfalso; omega)
        | exact ⟨rfl, rfl, rfl, (fm.rf.up rfl).up rfl, fun _ => ⟨(zup_k (by decide)).trans (zup_k (by decide)), (zup_k (by decide)).trans (zup_k (by decide)), _, hPd.up (by decide) (by decide)⟩, fun z1 z2 => ⟨fun z => absurd z hd0, fun z => absurd z (by omega), fun z => ⟨⟨(zup_k (by decide)).trans ((zup_k (by decide)).trans (by rw [h12, z1])), by decide, (zup_k (by decide)).trans ((zup_k (by decide)).trans (by rw [z2, if_pos rfl])), _, hPd.up (by decide) (by decide), fun _ => rfl⟩, by rw [zup_s, hv2 z]⟩⟩⟩
        | exact ⟨rfl, rfl, rfl, (fm.rf.up rfl).trans r1, fun z => ⟨(r2 z).1.trans (zup_k (by decide)), (r2 z).2.1.trans (zup_k (by decide)), (r2 z).2.2⟩, fun z1 z2 => ⟨fun _ => r3 z1, fun z => absurd z (by omega), fun z => absurd z (by omega)⟩⟩
        | exact ⟨rfl, rfl, rfl, (fm.rf.up rfl).trans r1, fun z => ⟨(r2 z).1.trans (zup_k (by decide)), (r2 z).2.1.trans (zup_k (by decide)), (r2 z).2.2⟩, fun z1 z2 => ⟨fun z => absurd z hd0, fun _ => r3 z1, fun z => absurd z (by omega)⟩⟩
    · refine z_aload_n dX12_cond_200 rfl ?_
      refine z_iconst (v := nI 2) dX12_cond_201 rfl ?_
      refine z_iload_n dX12_cond_202 rfl ?_
      refine z_callV2w dX12_cond_203 kX12_fails lX12_245 (by first | assumption | exact And.left (by assumption)) rfl (s_fails hm0 h12d (by omega)) (Nat.le_of_ble_eq_true rfl) (Nat.le_of_ble_eq_true rfl) ⟨Nat.le_of_ble_eq_true rfl, Nat.le_of_ble_eq_true rfl⟩ ?_
      intro V3 hV3
      have w11 : V3 m 11 = nI (sk b (s + 1) + run isD b (sk b (s + 1))) := by
        rw [hV3]
        split
        · exact (zup_k (by decide)).trans ((zup_k (by decide)).trans (zup_s _ _ _ _))
        · exact zup_s _ _ _ _
      obtain ⟨r1, r2, r3⟩ := ce_f (x := nI v) hPd (show ¬ 2 = 0 by decide) (by decide) hV3
      refine z_aload_n dX12_cond_206 rfl ?_
      refine z_iload dX12_cond_207 rfl ?_
      refine z_putI dX12_cond_209 fX12_266 (by first | assumption | exact And.left (by assumption)) rfl ?_
      refine z_return dX12_cond_212 (Nat.le_of_ble_eq_true rfl) (Nat.le_of_ble_eq_true rfl) rfl ?_
      first
        | (exfalso; omega)
        | exact ⟨rfl, rfl, rfl, (fm.rf.up rfl).up rfl, fun _ => ⟨(zup_k (by decide)).trans (zup_k (by decide)), (zup_k (by decide)).trans (zup_k (by decide)), _, hPd.up (by decide) (by decide)⟩, fun z1 z2 => ⟨fun z => absurd z hd0, fun z => absurd z (by omega), fun z => ⟨⟨(zup_k (by decide)).trans ((zup_k (by decide)).trans (by rw [h12, z1])), by decide, (zup_k (by decide)).trans ((zup_k (by decide)).trans (by rw [z2, if_pos rfl])), _, hPd.up (by decide) (by decide), fun _ => rfl⟩, by rw [zup_s, hv2 z]⟩⟩⟩
        | exact ⟨rfl, rfl, rfl, (fm.rf.up rfl).trans r1, fun z => ⟨(r2 z).1.trans (zup_k (by decide)), (r2 z).2.1.trans (zup_k (by decide)), (r2 z).2.2⟩, fun z1 z2 => ⟨fun _ => r3 z1, fun z => absurd z (by omega), fun z => absurd z (by omega)⟩⟩
        | exact ⟨rfl, rfl, rfl, (fm.rf.up rfl).trans r1, fun z => ⟨(r2 z).1.trans (zup_k (by decide)), (r2 z).2.1.trans (zup_k (by decide)), (r2 z).2.2⟩, fun z1 z2 => ⟨fun z => absurd z hd0, fun _ => r3 z1, fun z => absurd z (by omega)⟩⟩
  · have hd0 : run isD b (sk b (s + 1)) = 0 := by omega
    refine z_aload_n dX12_cond_184 rfl ?_
    refine z_iconst (v := nI 1) dX12_cond_185 rfl ?_
    refine z_iload_n dX12_cond_186 rfl ?_
    refine z_callV2w dX12_cond_187 kX12_fails lX12_245 (by first | assumption | exact And.left (by assumption)) rfl (s_fails hm0 h12d (by omega)) (Nat.le_of_ble_eq_true rfl) (Nat.le_of_ble_eq_true rfl) ⟨Nat.le_of_ble_eq_true rfl, Nat.le_of_ble_eq_true rfl⟩ ?_
    intro V3 hV3
    have w11 : V3 m 11 = nI (sk b (s + 1) + run isD b (sk b (s + 1))) := by
      rw [hV3]
      split
      · exact (zup_k (by decide)).trans ((zup_k (by decide)).trans (zup_s _ _ _ _))
      · exact zup_s _ _ _ _
    obtain ⟨r1, r2, r3⟩ := ce_f (x := nI v) hPd (show ¬ 1 = 0 by decide) (by decide) hV3
    refine z_aload_n dX12_cond_190 rfl ?_
    refine z_getIe dX12_cond_191 fX12_213 (by first | assumption | exact And.left (by assumption)) rfl (by first | exact w11 | exact zup_s _ _ _ _) ?_
    refine z_iload_n dX12_cond_194 rfl ?_
    refine z_iconst (v := nI 2) dX12_cond_195 rfl ?_
    refine z_addN dX12_cond_196 ?_
    refine z_icmp_leN (tgt := 206) dX12_cond_197 (by decide) (by omega) (by omega) (fun c_197 => ?_) (fun c_197 => ?_)
    · refine z_aload_n dX12_cond_206 rfl ?_
      refine z_iload dX12_cond_207 rfl ?_
      refine z_putI dX12_cond_209 fX12_266 (by first | assumption | exact And.left (by assumption)) rfl ?_
      refine z_return dX12_cond_212 (Nat.le_of_ble_eq_true rfl) (Nat.le_of_ble_eq_true rfl) rfl ?_
      first
        | (exfalso; omega)
        | exact ⟨rfl, rfl, rfl, (fm.rf.up rfl).up rfl, fun _ => ⟨(zup_k (by decide)).trans (zup_k (by decide)), (zup_k (by decide)).trans (zup_k (by decide)), _, hPd.up (by decide) (by decide)⟩, fun z1 z2 => ⟨fun z => absurd z hd0, fun z => absurd z (by omega), fun z => ⟨⟨(zup_k (by decide)).trans ((zup_k (by decide)).trans (by rw [h12, z1])), by decide, (zup_k (by decide)).trans ((zup_k (by decide)).trans (by rw [z2, if_pos rfl])), _, hPd.up (by decide) (by decide), fun _ => rfl⟩, by rw [zup_s, hv2 z]⟩⟩⟩
        | exact ⟨rfl, rfl, rfl, (fm.rf.up rfl).trans r1, fun z => ⟨(r2 z).1.trans (zup_k (by decide)), (r2 z).2.1.trans (zup_k (by decide)), (r2 z).2.2⟩, fun z1 z2 => ⟨fun _ => r3 z1, fun z => absurd z (by omega), fun z => absurd z (by omega)⟩⟩
        | exact ⟨rfl, rfl, rfl, (fm.rf.up rfl).trans r1, fun z => ⟨(r2 z).1.trans (zup_k (by decide)), (r2 z).2.1.trans (zup_k (by decide)), (r2 z).2.2⟩, fun z1 z2 => ⟨fun z => absurd z hd0, fun _ => r3 z1, fun z => absurd z (by omega)⟩⟩
    · exfalso
      omega

theorem rC_0 {b : List Nat} {p c : Nat} (h : clm b p = some c) (h2 : oph b (sk b (p + 1)) = none) : rC b p = (1, sk b (p + 1), (0, 0, 0)) := by
  unfold rC
  simp only [h, h2]
theorem rC_1 {b : List Nat} {p c x : Nat} (h : clm b p = some c) (h2 : oph b (sk b (p + 1)) = some x) (h3 : run isD b (sk b (sk b (p + 1) + 1)) = 0) : rC b p = (1, sk b (sk b (p + 1) + 1), (0, 0, 0)) := by
  unfold rC
  simp only [h, h2]
  rw [if_pos h3]
theorem rC_2 {b : List Nat} {p c x : Nat} (h : clm b p = some c) (h2 : oph b (sk b (p + 1)) = some x) (h3 : 2 < run isD b (sk b (sk b (p + 1) + 1))) : rC b p = (2, sk b (sk b (p + 1) + 1), (0, 0, 0)) := by
  unfold rC
  simp only [h, h2]
  rw [if_neg (by omega), if_pos h3]
theorem rC_3 {b : List Nat} {p c x : Nat} (h : clm b p = some c) (h2 : oph b (sk b (p + 1)) = some x) (h3 : run isD b (sk b (sk b (p + 1) + 1)) = 1 ∨ run isD b (sk b (sk b (p + 1) + 1)) = 2) : rC b p = (0, sk b (sk b (sk b (p + 1) + 1) + run isD b (sk b (sk b (p + 1) + 1))), (c, x, num b (sk b (sk b (p + 1) + 1)) (run isD b (sk b (sk b (p + 1) + 1))))) := by
  unfold rC
  simp only [h, h2]
  rw [if_neg (by omega), if_neg (by omega)]

set_option maxHeartbeats 4000000 in
set_option maxRecDepth 100000 in
theorem lp_c52 {D : zD} {z0 nx : Nat} {L : zL} {V : zV} {m p c : Nat} {b : List Nat} {x1 : Int32} (hm : sM L m) (hP : PS V m b p) (h12 : V m 12 = nI 0) (h13 : V m 13 = -1) (h17 : V m 17 = nI (p + 1)) (hc : clm b p = some c) : Z D z0 6 0 0 mX12_cond 0 0 52 [some (.ref m), some (.int x1), some (.int (nI c)), none, none] [] L V nx (zq none L nx (fun V' => OUT V' m b (rC b p).1 (rC b p).2.1 ∧ ((rC b p).1 = 0 → V' m 18 = nI (rC b p).2.2.1 ∧ V' m 19 = nI (rC b p).2.2.2.1 ∧ V' m 20 = nI (rC b p).2.2.2.2) ∧ fm V V' m [11, 12, 13, 16, 17, 18, 19, 20])) := by

  have hm0 := hm
  obtain ⟨a0, a1, a2, a3, a4, a5, a6, a7, a8, a9, a10, a11, a12, a13, a14, a15⟩ := hm
  obtain ⟨⟨g1, g2, g3, g4, g5⟩, g6⟩ := id hP
  have hbb : ∀ j, j < b.length → bt b j < 256 := fun j hj => (g5 j hj).2
  have hpl := (clm_some hc).2
  have hsl : sk b (p + 1) ≤ b.length := sk_le (by omega)
  have hT1 : PT (zup (zup V m 11 (nI (p + 1))) m 18 (nI c)) m b (p + 1) := (hP.1.to (by omega)).up (by decide) (by decide)
  have hP1 : PS (zup (zup (zup V m 11 (nI (p + 1))) m 18 (nI c)) m 11 (nI (sk b (p + 1)))) m b (sk b (p + 1)) := (((hP.to (q := p + 1) (by omega)).up (by decide) (by decide))).to (by omega)
  have hP2 : PS (zup (zup (zup (zup V m 11 (nI (p + 1))) m 18 (nI c)) m 11 (nI (sk b (p + 1)))) m 19 (vv (oph b (sk b (p + 1))))) m b (sk b (p + 1)) := hP1.up (by decide) (by decide)
  have h12b : zup (zup (zup (zup V m 11 (nI (p + 1))) m 18 (nI c)) m 11 (nI (sk b (p + 1)))) m 19 (vv (oph b (sk b (p + 1)))) m 12 = nI 0 := (zup_k (by decide)).trans ((zup_k (by decide)).trans ((zup_k (by decide)).trans ((zup_k (by decide)).trans h12)))
  have h13b : zup (zup (zup (zup V m 11 (nI (p + 1))) m 18 (nI c)) m 11 (nI (sk b (p + 1)))) m 19 (vv (oph b (sk b (p + 1)))) m 13 = -1 := (zup_k (by decide)).trans ((zup_k (by decide)).trans ((zup_k (by decide)).trans ((zup_k (by decide)).trans h13)))
  refine z_aload_n dX12_cond_52 rfl ?_
  refine z_aload_n dX12_cond_53 rfl ?_
  refine z_getIe dX12_cond_54 fX12_232 (by first | assumption | exact And.left (by assumption)) rfl h17 ?_
  refine z_putI dX12_cond_57 fX12_213 (by first | assumption | exact And.left (by assumption)) rfl ?_
  refine z_aload_n dX12_cond_60 rfl ?_
  refine z_iload_n dX12_cond_61 rfl ?_
  refine z_putI dX12_cond_62 fX12_253 (by first | assumption | exact And.left (by assumption)) rfl ?_
  refine z_aload_n dX12_cond_65 rfl ?_
  refine z_callV0w dX12_cond_66 kX12_blanks lX12_226 (by first | assumption | exact And.left (by assumption)) rfl (s_blk hm0 hT1) (Nat.le_of_ble_eq_true rfl) (Nat.le_of_ble_eq_true rfl) ⟨Nat.le_of_ble_eq_true rfl, Nat.le_of_ble_eq_true rfl⟩ ?_
  intro V1 hV1
  subst hV1
  refine z_aload_n dX12_cond_69 rfl ?_
  refine z_aload_n dX12_cond_70 rfl ?_
  refine z_callV0i dX12_cond_71 kX12_peek lX12_219 (by first | assumption | exact And.left (by assumption)) rfl (s_peek hm0 hP1.1) (Nat.le_of_ble_eq_true rfl) (Nat.le_of_ble_eq_true rfl) ⟨Nat.le_of_ble_eq_true rfl, Nat.le_of_ble_eq_true rfl⟩ ?_
  refine z_callS1i dX12_cond_74 kX12_opOf lX12_256 (s_opOf hbb) (Nat.le_of_ble_eq_true rfl) (Nat.le_of_ble_eq_true rfl) ⟨Nat.le_of_ble_eq_true rfl, Nat.le_of_ble_eq_true rfl⟩ ?_
  refine z_putI dX12_cond_77 fX12_259 (by first | assumption | exact And.left (by assumption)) rfl ?_
  refine z_aload_n dX12_cond_80 rfl ?_
  refine z_getIe dX12_cond_81 fX12_259 (by first | assumption | exact And.left (by assumption)) rfl (zup_s _ _ _ _) ?_
  refine z_iconst (v := (-1)) dX12_cond_84 rfl ?_
  refine z_icmp_ne (tgt := 97) dX12_cond_85 (by decide) (fun c_85 => ?_) (fun c_85 => ?_)
  · first
      | (obtain ⟨x, hx⟩ := Option.ne_none_iff_exists'.mp (fun z => c_85 ((oph_m1 b _).mpr z))
         refine Z.mono (lp_c97 (D := D) (z0 := z0) (nx := nx) (k0 := 0) hm0 hP2 hsl h12b (by decide)) ?_
         intro r2 L2 V9 n9 h9
         obtain ⟨q1, q2, q3, f1, f2, f3⟩ := h9
         obtain ⟨d1, d2, d3⟩ := f3 rfl h13b
         have ff : fm V V9 m [11, 12, 13, 16, 17, 18, 19, 20] := ((((fm.rf.up rfl).up rfl).up rfl).up rfl).trans (f1.wide rfl)
         rcases (show run isD b (sk b (sk b (p + 1) + 1)) = 0 ∨ 2 < run isD b (sk b (sk b (p + 1) + 1)) ∨ (run isD b (sk b (sk b (p + 1) + 1)) = 1 ∨ run isD b (sk b (sk b (p + 1) + 1)) = 2) by omega) with e | e | e
         · rw [rC_1 hc hx e]
           exact ⟨q1, q2, q3, d1 e, fun z => absurd z (by simp), ff⟩
         · rw [rC_2 hc hx e]
           exact ⟨q1, q2, q3, d2 e, fun z => absurd z (by simp), ff⟩
         · rw [rC_3 hc hx e]
           exact ⟨q1, q2, q3, (d3 e).1, fun _ => ⟨(f1.2 18 (by decide)).trans ((zup_k (by decide)).trans ((zup_k (by decide)).trans (zup_s _ _ _ _))), (f1.2 19 (by decide)).trans ((zup_s _ _ _ _).trans (by rw [hx] <;> rfl)), (d3 e).2⟩, ff⟩)
      | (have hx := (oph_m1 b _).mp c_85
         refine Z.mono (lp_c97 (D := D) (z0 := z0) (nx := nx) (k0 := 1) hm0 hP3 hsl h12c (by decide)) ?_
         intro r2 L2 V9 n9 h9
         obtain ⟨q1, q2, q3, f1, f2, f3⟩ := h9
         obtain ⟨d1, d2, s, d3⟩ := f2 (by decide)
         rw [rC_0 hc hx]
         exact ⟨q1, q2, q3, ⟨d1.trans h12c, by simp, by rw [d2, hV3, zup_s, if_neg (by simp)], s, d3, fun z => absurd z (by simp)⟩, fun z => absurd z (by simp), (by rw [hV3] at f1; exact ((((((fm.rf.up rfl).up rfl).up rfl).up rfl).up rfl).up rfl).trans (f1.wide rfl))⟩)
  · refine z_aload_n dX12_cond_88 rfl ?_
    refine z_iconst (v := nI 1) dX12_cond_89 rfl ?_
    refine z_aload_n dX12_cond_90 rfl ?_
    refine z_getIe dX12_cond_91 fX12_213 (by first | assumption | exact And.left (by assumption)) rfl ((zup_k (by decide)).trans (zup_s _ _ _ _)) ?_
    refine z_callV2w dX12_cond_94 kX12_fails lX12_245 (by first | assumption | exact And.left (by assumption)) rfl (s_fails (k0 := 0) hm0 h12b (by decide)) (Nat.le_of_ble_eq_true rfl) (Nat.le_of_ble_eq_true rfl) ⟨Nat.le_of_ble_eq_true rfl, Nat.le_of_ble_eq_true rfl⟩ ?_
    intro V3 hV3
    rw [if_pos rfl] at hV3
    have hP3 : PS V3 m b (sk b (p + 1)) := by rw [hV3]; exact (hP2.up (by decide) (by decide)).up (by decide) (by decide)
    have h12c : V3 m 12 = nI 1 := by rw [hV3]; exact (zup_k (by decide)).trans (zup_s _ _ _ _)
    first
      | (obtain ⟨x, hx⟩ := Option.ne_none_iff_exists'.mp (fun z => c_85 ((oph_m1 b _).mpr z))
         refine Z.mono (lp_c97 (D := D) (z0 := z0) (nx := nx) (k0 := 0) hm0 hP2 hsl h12b (by decide)) ?_
         intro r2 L2 V9 n9 h9
         obtain ⟨q1, q2, q3, f1, f2, f3⟩ := h9
         obtain ⟨d1, d2, d3⟩ := f3 rfl h13b
         have ff : fm V V9 m [11, 12, 13, 16, 17, 18, 19, 20] := ((((fm.rf.up rfl).up rfl).up rfl).up rfl).trans (f1.wide rfl)
         rcases (show run isD b (sk b (sk b (p + 1) + 1)) = 0 ∨ 2 < run isD b (sk b (sk b (p + 1) + 1)) ∨ (run isD b (sk b (sk b (p + 1) + 1)) = 1 ∨ run isD b (sk b (sk b (p + 1) + 1)) = 2) by omega) with e | e | e
         · rw [rC_1 hc hx e]
           exact ⟨q1, q2, q3, d1 e, fun z => absurd z (by simp), ff⟩
         · rw [rC_2 hc hx e]
           exact ⟨q1, q2, q3, d2 e, fun z => absurd z (by simp), ff⟩
         · rw [rC_3 hc hx e]
           exact ⟨q1, q2, q3, (d3 e).1, fun _ => ⟨(f1.2 18 (by decide)).trans ((zup_k (by decide)).trans ((zup_k (by decide)).trans (zup_s _ _ _ _))), (f1.2 19 (by decide)).trans ((zup_s _ _ _ _).trans (by rw [hx] <;> rfl)), (d3 e).2⟩, ff⟩)
      | (have hx := (oph_m1 b _).mp c_85
         refine Z.mono (lp_c97 (D := D) (z0 := z0) (nx := nx) (k0 := 1) hm0 hP3 hsl h12c (by decide)) ?_
         intro r2 L2 V9 n9 h9
         obtain ⟨q1, q2, q3, f1, f2, f3⟩ := h9
         obtain ⟨d1, d2, s, d3⟩ := f2 (by decide)
         rw [rC_0 hc hx]
         exact ⟨q1, q2, q3, ⟨d1.trans h12c, by simp, by rw [d2, hV3, zup_s, if_neg (by simp)], s, d3, fun z => absurd z (by simp)⟩, fun z => absurd z (by simp), (by rw [hV3] at f1; exact ((((((fm.rf.up rfl).up rfl).up rfl).up rfl).up rfl).up rfl).trans (f1.wide rfl))⟩)

set_option maxHeartbeats 4000000 in
set_option maxRecDepth 100000 in
theorem s_cond {D : zD} {z0 nx : Nat} {L : zL} {V : zV} {m p : Nat} {b : List Nat} (hm : sM L m) (hO : OUT V m b 0 p) {mo : Prop} : Sp D z0 6 0 0 mX12_cond [.ref m, .int (zb mo)] L V nx (zq none L nx (fun V' => OUT V' m b (cX mo b p).1 (cX mo b p).2.1 ∧ ((cX mo b p).1 = 0 → V' m 18 = nI (cX mo b p).2.2.1 ∧ V' m 19 = nI (cX mo b p).2.2.2.1 ∧ V' m 20 = nI (cX mo b p).2.2.2.2) ∧ fm V V' m [11, 12, 13, 16, 17, 18, 19, 20])) := by
  have hm0 := hm
  obtain ⟨a0, a1, a2, a3, a4, a5, a6, a7, a8, a9, a10, a11, a12, a13, a14, a15⟩ := hm
  have hO0 := hO
  obtain ⟨o1, o2, o3, s, hP, hs⟩ := hO
  obtain ⟨⟨g1, g2, g3, g4, g5⟩, g6⟩ := id hP
  have hsk := sk_lt g4 g3
  have hp := hs rfl
  subst hp
  refine Sp.of 3 (by decide) rfl rfl (Nat.le_of_ble_eq_true rfl) ?_
  refine z_aload_n dX12_cond_0 rfl ?_
  refine z_callV0q dX12_cond_1 kX12_word lX12_239 (by first | assumption | exact And.left (by assumption)) rfl (s_mWord hm0 hP) (Nat.le_of_ble_eq_true rfl) (Nat.le_of_ble_eq_true rfl) ⟨Nat.le_of_ble_eq_true rfl, Nat.le_of_ble_eq_true rfl⟩ ?_
  intro V1 hV1
  obtain ⟨f1, f2, f3, f4⟩ := hV1
  have w12 : V1 m 12 = nI 0 := (f1.2 12 (by decide)).trans o1
  have w13 : V1 m 13 = -1 := (f1.2 13 (by decide)).trans (o3.trans (if_pos rfl))
  refine z_iconst (v := nI 4) dX12_cond_4 rfl ?_
  refine z_isub dX12_cond_5 ?_
  refine z_istore_n dX12_cond_6 (Nat.le_of_ble_eq_true rfl) rfl ?_
  refine z_iload_n dX12_cond_7 rfl ?_
  refine z_i2l dX12_cond_8 ?_
  refine z_lconst dX12_cond_9 rfl ?_
  refine z_ldc2 dX12_cond_10 qX12_248 ?_
  refine z_callS3i dX12_cond_13 kX12_isIn lX12_86 (s_isIn (v := (nI (wno b (sk b s)) - nI 4).toInt64)) (Nat.le_of_ble_eq_true rfl) (Nat.le_of_ble_eq_true rfl) ⟨Nat.le_of_ble_eq_true rfl, Nat.le_of_ble_eq_true rfl⟩ ?_
  refine z_if_neB (tgt := 31) dX12_cond_16 (by decide) (fun c_16 => ?_) (fun c_16 => ?_)
  · obtain ⟨c, hc3, hc, he, hr1⟩ := its_y (b := b) (p := sk b s) (by rw [i64] at c_16; exact c_16)
    rw [he]
    refine z_iload_n dX12_cond_31 rfl ?_
    refine z_if_eqB (tgt := 44) dX12_cond_32 (by decide) (fun c_32 => ?_) (fun c_32 => ?_)
    · refine z_aload_n dX12_cond_44 rfl ?_
      refine z_getIe dX12_cond_45 fX12_223 (by first | assumption | exact And.left (by assumption)) rfl (by first | exact hw | exact w12) ?_
      refine z_if_eqN (tgt := 52) dX12_cond_48 (by decide) (by first | exact wno_31 _ _ | omega) (fun c_48 => ?_) (fun c_48 => ?_)
      · first
          | exact absurd c_48 (by decide)
          | (have e : cX mo b (sk b s) = rC b (sk b s) := by unfold cX; rw [hc]; exact if_neg c_32
             rw [e]
             refine Z.mono (lp_c52 (D := D) (z0 := z0) (nx := nx) hm0 f2 w12 w13 (by rw [f4, hr1]) hc) ?_
             intro r2 L2 V9 n9 h9
             obtain ⟨q1, q2, q3, q4, q5, q6⟩ := h9
             exact ⟨q1, q2, q3, q4, q5, (f1.wide rfl).trans q6⟩)
      · refine z_return dX12_cond_51 (Nat.le_of_ble_eq_true rfl) (Nat.le_of_ble_eq_true rfl) rfl ?_
        first
          | exact absurd rfl c_48
          | (have e : cX mo b (sk b s) = (1, sk b s, (0, 0, 0)) := by unfold cX; rw [hc]
             rw [e]
             exact ⟨rfl, rfl, rfl, OUT.fl f2 (by simp) (by simp) hV3, fun z => absurd z (by simp), by rw [hV3]; exact ((f1.wide rfl).up rfl).up rfl⟩)
          | (have e : cX mo b (sk b s) = (4, sk b s, (0, 0, 0)) := by unfold cX; rw [hc]; exact if_pos c_32
             rw [e]
             exact ⟨rfl, rfl, rfl, OUT.fl f2 (by simp) (by simp) hV3, fun z => absurd z (by simp), by rw [hV3]; exact ((f1.wide rfl).up rfl).up rfl⟩)
    · refine z_aload_n dX12_cond_35 rfl ?_
      refine z_iconst (v := nI 4) dX12_cond_36 rfl ?_
      refine z_aload_n dX12_cond_37 rfl ?_
      refine z_getIe dX12_cond_38 fX12_229 (by first | assumption | exact And.left (by assumption)) rfl f3 ?_
      refine z_callV2w dX12_cond_41 kX12_fails lX12_245 (by first | assumption | exact And.left (by assumption)) rfl (s_fails (k0 := 0) hm0 w12 (by decide)) (Nat.le_of_ble_eq_true rfl) (Nat.le_of_ble_eq_true rfl) ⟨Nat.le_of_ble_eq_true rfl, Nat.le_of_ble_eq_true rfl⟩ ?_
      intro V3 hV3
      rw [if_pos rfl] at hV3
      have hw : V3 m 12 = nI 4 := by rw [hV3]; exact (zup_k (by decide)).trans (zup_s _ _ _ _)
      refine z_aload_n dX12_cond_44 rfl ?_
      refine z_getIe dX12_cond_45 fX12_223 (by first | assumption | exact And.left (by assumption)) rfl (by first | exact hw | exact w12) ?_
      refine z_if_eqN (tgt := 52) dX12_cond_48 (by decide) (by first | exact wno_31 _ _ | omega) (fun c_48 => ?_) (fun c_48 => ?_)
      · first
          | exact absurd c_48 (by decide)
          | (have e : cX mo b (sk b s) = rC b (sk b s) := by unfold cX; rw [hc]; exact if_neg c_32
             rw [e]
             refine Z.mono (lp_c52 (D := D) (z0 := z0) (nx := nx) hm0 f2 w12 w13 (by rw [f4, hr1]) hc) ?_
             intro r2 L2 V9 n9 h9
             obtain ⟨q1, q2, q3, q4, q5, q6⟩ := h9
             exact ⟨q1, q2, q3, q4, q5, (f1.wide rfl).trans q6⟩)
      · refine z_return dX12_cond_51 (Nat.le_of_ble_eq_true rfl) (Nat.le_of_ble_eq_true rfl) rfl ?_
        first
          | exact absurd rfl c_48
          | (have e : cX mo b (sk b s) = (1, sk b s, (0, 0, 0)) := by unfold cX; rw [hc]
             rw [e]
             exact ⟨rfl, rfl, rfl, OUT.fl f2 (by simp) (by simp) hV3, fun z => absurd z (by simp), by rw [hV3]; exact ((f1.wide rfl).up rfl).up rfl⟩)
          | (have e : cX mo b (sk b s) = (4, sk b s, (0, 0, 0)) := by unfold cX; rw [hc]; exact if_pos c_32
             rw [e]
             exact ⟨rfl, rfl, rfl, OUT.fl f2 (by simp) (by simp) hV3, fun z => absurd z (by simp), by rw [hV3]; exact ((f1.wide rfl).up rfl).up rfl⟩)
  · have hc := its_no (b := b) (p := sk b s) (fun z => c_16 (by rw [i64]; exact z))
    refine z_aload_n dX12_cond_19 rfl ?_
    refine z_iconst (v := nI 1) dX12_cond_20 rfl ?_
    refine z_aload_n dX12_cond_21 rfl ?_
    refine z_getIe dX12_cond_22 fX12_229 (by first | assumption | exact And.left (by assumption)) rfl f3 ?_
    refine z_callV2w dX12_cond_25 kX12_fails lX12_245 (by first | assumption | exact And.left (by assumption)) rfl (s_fails (k0 := 0) hm0 w12 (by decide)) (Nat.le_of_ble_eq_true rfl) (Nat.le_of_ble_eq_true rfl) ⟨Nat.le_of_ble_eq_true rfl, Nat.le_of_ble_eq_true rfl⟩ ?_
    intro V3 hV3
    rw [if_pos rfl] at hV3
    have hw : V3 m 12 = nI 1 := by rw [hV3]; exact (zup_k (by decide)).trans (zup_s _ _ _ _)
    refine z_goto (tgt := 44) dX12_cond_28 (by decide) ?_
    refine z_aload_n dX12_cond_44 rfl ?_
    refine z_getIe dX12_cond_45 fX12_223 (by first | assumption | exact And.left (by assumption)) rfl (by first | exact hw | exact w12) ?_
    refine z_if_eqN (tgt := 52) dX12_cond_48 (by decide) (by first | exact wno_31 _ _ | omega) (fun c_48 => ?_) (fun c_48 => ?_)
    · first
        | exact absurd c_48 (by decide)
        | (have e : cX mo b (sk b s) = rC b (sk b s) := by unfold cX; rw [hc]; exact if_neg c_32
           rw [e]
           refine Z.mono (lp_c52 (D := D) (z0 := z0) (nx := nx) hm0 f2 w12 w13 (by rw [f4, hr1]) hc) ?_
           intro r2 L2 V9 n9 h9
           obtain ⟨q1, q2, q3, q4, q5, q6⟩ := h9
           exact ⟨q1, q2, q3, q4, q5, (f1.wide rfl).trans q6⟩)
    · refine z_return dX12_cond_51 (Nat.le_of_ble_eq_true rfl) (Nat.le_of_ble_eq_true rfl) rfl ?_
      first
        | exact absurd rfl c_48
        | (have e : cX mo b (sk b s) = (1, sk b s, (0, 0, 0)) := by unfold cX; rw [hc]
           rw [e]
           exact ⟨rfl, rfl, rfl, OUT.fl f2 (by simp) (by simp) hV3, fun z => absurd z (by simp), by rw [hV3]; exact ((f1.wide rfl).up rfl).up rfl⟩)
        | (have e : cX mo b (sk b s) = (4, sk b s, (0, 0, 0)) := by unfold cX; rw [hc]; exact if_pos c_32
           rw [e]
           exact ⟨rfl, rfl, rfl, OUT.fl f2 (by simp) (by simp) hV3, fun z => absurd z (by simp), by rw [hV3]; exact ((f1.wide rfl).up rfl).up rfl⟩)

