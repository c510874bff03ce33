/-! the reference: counts -/
theorem r10_i {b : Nat} {x : Int32} (hb : b < 100) : ((b : Int) ≤ x.toInt ∧ x.toInt ≤ ((b + 3 : Nat) : Int)) ↔ r10 b x := by
  constructor
  · rintro ⟨h1, h2⟩
    refine ⟨x.toInt.toNat - b, by omega, ?_⟩
    apply Int32.toInt_inj.mp
    rw [nI_toInt (by omega)]
    omega
  · rintro ⟨k, hk, rfl⟩
    rw [nI_toInt (by omega)]
    omega

set_option maxHeartbeats 4000000 in
set_option maxRecDepth 100000 in
theorem m_countA {D : zD} {z0 nx : Nat} {L : zL} {V : zV} {m : Nat} {w : Wo} (hm : sM L m) (h : MW V m w) {k : Nat} (hk : k < 4) : Sp D z0 4 0 0 mX12_count [.ref m, .int (nI (10 + k))] L V nx (zq (some (.int (o_count (nI (10 + k)) w).1)) L nx (fun V' => zEq V V' m (m + 16) ∧ MW V' m (o_count (nI (10 + k)) w).2)) := by
  have hm0 := hm
  have h0 := h
  obtain ⟨a0, a1, a2, a3, a4, a5, a6, a7, a8, a9, a10, a11, a12, a13, a14, a15⟩ := hm
  refine Sp.of 2 (by decide) rfl rfl (Nat.le_of_ble_eq_true rfl) ?_
  refine z_aload_n dX12_count_0 rfl ?_
  refine z_iconst (v := nI 0) dX12_count_1 rfl ?_
  refine z_putI dX12_count_2 fX12_1 (by first | assumption | exact And.left (by assumption)) rfl ?_
  have h9 := MW_thr (x := nI 0) h0
  have e0 : zEq V (zup V m 0 (nI 0)) m (m + 16) := zEq.rf.up (by omega) (by omega)
  generalize zup V m 0 (nI 0) = V1 at h9 e0 ⊢
  clear h0 h
  have h0 := h9
  obtain ⟨k1, k2, k3, k4, k5, k6, k7⟩ := h9
  refine z_iload_n dX12_count_5 rfl ?_
  refine z_i2l dX12_count_6 ?_
  refine z_ldc2 dX12_count_7 qX12_409 ?_
  refine z_ldc2 dX12_count_10 qX12_411 ?_
  refine z_callS3i dX12_count_13 kX12_isIn lX12_86 (s_isIn (v := (nI (10 + k)).toInt64)) (Nat.le_of_ble_eq_true rfl) (Nat.le_of_ble_eq_true rfl) ⟨Nat.le_of_ble_eq_true rfl, Nat.le_of_ble_eq_true rfl⟩ ?_
  refine z_if_eqB (tgt := 29) dX12_count_16 (by decide) (fun c_16 => ?_) (fun c_16 => ?_)
  · exact absurd ((r10_i (b := 10) (by decide)).mpr (r10_y hk)) (fun z => c_16 (by rw [i64]; exact z))
  · refine z_aload_n dX12_count_19 rfl ?_
    refine z_iload_n dX12_count_20 rfl ?_
    refine z_bipush (v := nI 10) dX12_count_21 rfl ?_
    refine z_subN dX12_count_23 (by omega) ?_
    refine z_iconst (v := nI 2) dX12_count_24 rfl ?_
    have hT := tn_k (k := 10 + k) (by omega)
    have e10 : 10 + k - 10 = k := by omega
    have hT0 := k1.2.2.1 k hk
    obtain ⟨x1, x2, x3, ws, xw⟩ := k1.2.2.1 k hk
    rw [e10]
    refine z_callV2i dX12_count_25 kX12_ofTransaction lX12_94 (by first | assumption | exact And.left (by assumption)) rfl (s_ofTr hm0 hk (by omega) xw.1) (Nat.le_of_ble_eq_true rfl) (Nat.le_of_ble_eq_true rfl) ⟨Nat.le_of_ble_eq_true rfl, Nat.le_of_ble_eq_true rfl⟩ ?_
    refine z_ireturn dX12_count_28 (Nat.le_of_ble_eq_true rfl) (Nat.le_of_ble_eq_true rfl) rfl ?_
    rw [show o_count (nI (10 + k)) w = (nI (nwr (tof w k)), w) from by unfold o_count; rw [cif_y (r10_y hk), hT, e10]]
    exact ⟨by rw [show nwr (tof w k) = ws.length from xw.2.2.1], rfl, rfl, e0, h0⟩

set_option maxHeartbeats 4000000 in
set_option maxRecDepth 100000 in
theorem m_countB {D : zD} {z0 nx : Nat} {L : zL} {V : zV} {m : Nat} {w : Wo} (hm : sM L m) (h : MW V m w) {k : Nat} (hk : k < 4) : Sp D z0 4 0 0 mX12_count [.ref m, .int (nI (20 + k))] L V nx (zq (some (.int (o_count (nI (20 + k)) w).1)) L nx (fun V' => zEq V V' m (m + 16) ∧ MW V' m (o_count (nI (20 + k)) w).2)) := by
  have hm0 := hm
  have h0 := h
  obtain ⟨a0, a1, a2, a3, a4, a5, a6, a7, a8, a9, a10, a11, a12, a13, a14, a15⟩ := hm
  refine Sp.of 2 (by decide) rfl rfl (Nat.le_of_ble_eq_true rfl) ?_
  refine z_aload_n dX12_count_0 rfl ?_
  refine z_iconst (v := nI 0) dX12_count_1 rfl ?_
  refine z_putI dX12_count_2 fX12_1 (by first | assumption | exact And.left (by assumption)) rfl ?_
  have h9 := MW_thr (x := nI 0) h0
  have e0 : zEq V (zup V m 0 (nI 0)) m (m + 16) := zEq.rf.up (by omega) (by omega)
  generalize zup V m 0 (nI 0) = V1 at h9 e0 ⊢
  clear h0 h
  have h0 := h9
  obtain ⟨k1, k2, k3, k4, k5, k6, k7⟩ := h9
  refine z_iload_n dX12_count_5 rfl ?_
  refine z_i2l dX12_count_6 ?_
  refine z_ldc2 dX12_count_7 qX12_409 ?_
  refine z_ldc2 dX12_count_10 qX12_411 ?_
  refine z_callS3i dX12_count_13 kX12_isIn lX12_86 (s_isIn (v := (nI (20 + k)).toInt64)) (Nat.le_of_ble_eq_true rfl) (Nat.le_of_ble_eq_true rfl) ⟨Nat.le_of_ble_eq_true rfl, Nat.le_of_ble_eq_true rfl⟩ ?_
  refine z_if_eqB (tgt := 29) dX12_count_16 (by decide) (fun c_16 => ?_) (fun c_16 => ?_)
  · refine z_iload_n dX12_count_29 rfl ?_
    refine z_i2l dX12_count_30 ?_
    refine z_ldc2 dX12_count_31 qX12_375 ?_
    refine z_ldc2 dX12_count_34 qX12_413 ?_
    refine z_callS3i dX12_count_37 kX12_isIn lX12_86 (s_isIn (v := (nI (20 + k)).toInt64)) (Nat.le_of_ble_eq_true rfl) (Nat.le_of_ble_eq_true rfl) ⟨Nat.le_of_ble_eq_true rfl, Nat.le_of_ble_eq_true rfl⟩ ?_
    refine z_if_eqB (tgt := 68) dX12_count_40 (by decide) (fun c_40 => ?_) (fun c_40 => ?_)
    · exact absurd ((r10_i (b := 20) (by decide)).mpr (r10_y hk)) (fun z => c_40 (by rw [i64]; exact z))
    · have hT := tn_k (k := 20 + k) (by omega)
      have e10 : 20 + k - 20 = k := by omega
      have hT0 := k1.2.2.1 k hk
      obtain ⟨x1, x2, x3, ws, xw⟩ := k1.2.2.1 k hk
      have hR : o_count (nI (20 + k)) w = (if (tof w k).1 then nI (tof w k).2.1 else -1, w) := by unfold o_count; rw [cif_n (r10_10 hk), cif_y (r10_y hk), hT, e10]
      refine z_aload_n dX12_count_43 rfl ?_
      refine z_iload_n dX12_count_44 rfl ?_
      refine z_bipush (v := nI 20) dX12_count_45 rfl ?_
      refine z_subN dX12_count_47 (by omega) ?_
      rw [e10]
      refine z_callV1i dX12_count_48 kX12_isOpen lX12_149 (by first | assumption | exact And.left (by assumption)) rfl (s_mOpen hm0 hk hT0) (Nat.le_of_ble_eq_true rfl) (Nat.le_of_ble_eq_true rfl) ⟨Nat.le_of_ble_eq_true rfl, Nat.le_of_ble_eq_true rfl⟩ ?_
      refine z_if_eqB (tgt := 66) dX12_count_51 (by decide) (fun c_51 => ?_) (fun c_51 => ?_)
      · refine z_iconst (v := (-1)) dX12_count_66 rfl ?_
        refine z_ireturn dX12_count_67 (Nat.le_of_ble_eq_true rfl) (Nat.le_of_ble_eq_true rfl) rfl ?_
        rw [hR]
        first
          | (rw [if_pos (show (tof w k).1 = true from c_51)]; exact ⟨rfl, rfl, rfl, e0, h0⟩)
          | (rw [if_neg (show ¬ (tof w k).1 = true from c_51)]; exact ⟨rfl, rfl, rfl, e0, h0⟩)
      · refine z_aload_n dX12_count_54 rfl ?_
        refine z_iload_n dX12_count_55 rfl ?_
        refine z_bipush (v := nI 20) dX12_count_56 rfl ?_
        refine z_subN dX12_count_58 (by omega) ?_
        refine z_iconst (v := nI 1) dX12_count_59 rfl ?_
        rw [e10]
        refine z_callV2i dX12_count_60 kX12_ofTransaction lX12_94 (by first | assumption | exact And.left (by assumption)) rfl (s_ofTr hm0 hk (by omega) x2) (Nat.le_of_ble_eq_true rfl) (Nat.le_of_ble_eq_true rfl) ⟨Nat.le_of_ble_eq_true rfl, Nat.le_of_ble_eq_true rfl⟩ ?_
        refine z_goto (tgt := 67) dX12_count_63 (by decide) ?_
        refine z_ireturn dX12_count_67 (Nat.le_of_ble_eq_true rfl) (Nat.le_of_ble_eq_true rfl) rfl ?_
        rw [hR]
        first
          | (rw [if_pos (show (tof w k).1 = true from c_51)]; exact ⟨rfl, rfl, rfl, e0, h0⟩)
          | (rw [if_neg (show ¬ (tof w k).1 = true from c_51)]; exact ⟨rfl, rfl, rfl, e0, h0⟩)
  · exact absurd ((r10_i (b := 10) (by decide)).mp (by rw [i64] at c_16; exact c_16)) (r10_10 hk)

set_option maxHeartbeats 4000000 in
set_option maxRecDepth 100000 in
theorem lp_cOpen {D : zD} {z0 nx : Nat} {L : zL} {V : zV} {m : Nat} {w : Wo} {x : Int32} (hm : sM L m) (hB : MB (V (m + 1)) w.1) : ∀ (fu : Nat) (i : Nat), 4 - i = fu → i ≤ 4 → Z D z0 4 0 0 mX12_count 0 0 136 [some (.ref m), some (.int x), some (.int (bo (fun t => (w.1.2.2.1 t).1 = true) i)), some (.int (nI i))] [] L V nx (zi (bo (fun t => (w.1.2.2.1 t).1 = true) 4) L V nx) := by
  intro fu
  induction fu using Nat.strongRecOn with
  | ind fu ih =>
    intro i h_fu h_0
    have hm0 := hm
    obtain ⟨a0, a1, a2, a3, a4, a5, a6, a7, a8, a9, a10, a11, a12, a13, a14, a15⟩ := hm
    refine z_iload_n dX12_count_136 rfl ?_
    refine z_iconst (v := nI 4) dX12_count_137 rfl ?_
    refine z_icmp_geN (tgt := 165) dX12_count_138 (by decide) (by omega) (by omega) (fun c_138 => ?_) (fun c_138 => ?_)
    · refine z_iload_n dX12_count_165 rfl ?_
      refine z_ireturn dX12_count_166 (Nat.le_of_ble_eq_true rfl) (Nat.le_of_ble_eq_true rfl) rfl ?_
      have e4 : i = 4 := by omega
      subst e4
      exact zi_r rfl
    · refine z_iload_n dX12_count_141 rfl ?_
      refine z_aload_n dX12_count_142 rfl ?_
      refine z_iload_n dX12_count_143 rfl ?_
      refine z_callV1i dX12_count_144 kX12_isOpen lX12_149 (by first | assumption | exact And.left (by assumption)) rfl (s_mOpen hm0 (by omega) (hB.2.2.1 i (by omega))) (Nat.le_of_ble_eq_true rfl) (Nat.le_of_ble_eq_true rfl) ⟨Nat.le_of_ble_eq_true rfl, Nat.le_of_ble_eq_true rfl⟩ ?_
      refine z_if_eqB (tgt := 156) dX12_count_147 (by decide) (fun c_147 => ?_) (fun c_147 => ?_)
      · have eN : bo (fun t => (w.1.2.2.1 t).1 = true) (i + 1) = bo (fun t => (w.1.2.2.1 t).1 = true) i := if_neg c_147
        refine z_iconst (v := nI 0) dX12_count_156 rfl ?_
        refine z_ior dX12_count_157 ?_
        refine z_istore_n dX12_count_158 (Nat.le_of_ble_eq_true rfl) rfl ?_
        refine z_incN dX12_count_159 rfl rfl ?_
        refine z_goto (tgt := 136) dX12_count_162 (by decide) ?_
        have hz := ih _ (by omega) (i + 1) rfl (by omega)
        rw [eN] at hz
        first
          | exact hz
          | (rw [show bo (fun t => (w.1.2.2.1 t).1 = true) i ||| nI 0 = bo (fun t => (w.1.2.2.1 t).1 = true) i from Int32.or_zero]; exact hz)
      · have eN : bo (fun t => (w.1.2.2.1 t).1 = true) (i + 1) = _ := if_pos c_147
        refine z_iconst (v := nI 1) dX12_count_150 rfl ?_
        refine z_iload_n dX12_count_151 rfl ?_
        refine z_ishl dX12_count_152 ?_
        refine z_goto (tgt := 157) dX12_count_153 (by decide) ?_
        refine z_ior dX12_count_157 ?_
        refine z_istore_n dX12_count_158 (Nat.le_of_ble_eq_true rfl) rfl ?_
        refine z_incN dX12_count_159 rfl rfl ?_
        refine z_goto (tgt := 136) dX12_count_162 (by decide) ?_
        have hz := ih _ (by omega) (i + 1) rfl (by omega)
        rw [eN] at hz
        first
          | exact hz
          | (rw [show bo (fun t => (w.1.2.2.1 t).1 = true) i ||| nI 0 = bo (fun t => (w.1.2.2.1 t).1 = true) i from Int32.or_zero]; exact hz)

set_option maxHeartbeats 4000000 in
set_option maxRecDepth 100000 in
theorem lp_cAll {D : zD} {z0 nx : Nat} {L : zL} {V : zV} {m : Nat} {w : Wo} {x : Int32} (hm : sM L m) (hB : MB (V (m + 1)) w.1) : ∀ (fu : Nat) (i : Nat), 48 - i = fu → i ≤ 48 → Z D z0 4 0 0 mX12_count 0 0 169 [some (.ref m), some (.int x), some (.int (nI (sm (fun r => (w.1.2.1 r).length) i))), some (.int (nI i))] [] L V nx (zi (nI (sm (fun r => (w.1.2.1 r).length) 48)) L V nx) := by
  intro fu
  induction fu using Nat.strongRecOn with
  | ind fu ih =>
    intro i h_fu h_0
    have hm0 := hm
    obtain ⟨a0, a1, a2, a3, a4, a5, a6, a7, a8, a9, a10, a11, a12, a13, a14, a15⟩ := hm
    refine z_iload_n dX12_count_169 rfl ?_
    refine z_bipush (v := nI 48) dX12_count_170 rfl ?_
    refine z_icmp_geN (tgt := 194) dX12_count_172 (by decide) (by omega) (by omega) (fun c_172 => ?_) (fun c_172 => ?_)
    · refine z_iload_n dX12_count_194 rfl ?_
      refine z_ireturn dX12_count_195 (Nat.le_of_ble_eq_true rfl) (Nat.le_of_ble_eq_true rfl) rfl ?_
      have e4 : i = 48 := by omega
      subst e4
      exact zi_r rfl
    · have hv := (hB.2.1 i (by omega)).1
      refine z_iload_n dX12_count_175 rfl ?_
      refine z_aload_n dX12_count_176 rfl ?_
      refine z_getR dX12_count_177 fX12_13 (by first | assumption | exact And.left (by assumption)) rfl ?_
      refine z_sipush (v := nI 1920) dX12_count_180 rfl ?_
      refine z_iload_n dX12_count_183 rfl ?_
      refine z_addN dX12_count_184 ?_
      refine z_ialdN dX12_count_185 (by first | assumption | exact And.left (by assumption)) (by omega) (by decide) hv ?_
      refine z_addN dX12_count_186 ?_
      refine z_istore_n dX12_count_187 (Nat.le_of_ble_eq_true rfl) rfl ?_
      refine z_incN dX12_count_188 rfl rfl ?_
      refine z_goto (tgt := 169) dX12_count_191 (by decide) ?_
      exact ih _ (by omega) (i + 1) rfl (by omega)

set_option maxHeartbeats 4000000 in
set_option maxRecDepth 100000 in
theorem m_countC0 {D : zD} {z0 nx : Nat} {L : zL} {V : zV} {m : Nat} {w : Wo} (hm : sM L m) (h : MW V m w) : Sp D z0 4 0 0 mX12_count [.ref m, .int (nI 0)] L V nx (zq (some (.int (o_count (nI 0) w).1)) L nx (fun V' => zEq V V' m (m + 16) ∧ MW V' m (o_count (nI 0) w).2)) := by
  have hm0 := hm
  have h0 := h
  obtain ⟨a0, a1, a2, a3, a4, a5, a6, a7, a8, a9, a10, a11, a12, a13, a14, a15⟩ := hm
  refine Sp.of 2 (by decide) rfl rfl (Nat.le_of_ble_eq_true rfl) ?_
  refine z_aload_n dX12_count_0 rfl ?_
  refine z_iconst (v := nI 0) dX12_count_1 rfl ?_
  refine z_putI dX12_count_2 fX12_1 (by first | assumption | exact And.left (by assumption)) rfl ?_
  have h9 := MW_thr (x := nI 0) h0
  have e0 : zEq V (zup V m 0 (nI 0)) m (m + 16) := zEq.rf.up (by omega) (by omega)
  generalize zup V m 0 (nI 0) = V1 at h9 e0 ⊢
  clear h0 h
  have h0 := h9
  obtain ⟨k1, k2, k3, k4, k5, k6, k7⟩ := h9
  have hR : o_count (nI 0) w = (cnv w 0, w) := by unfold o_count; rw [cif_n (r10_rng (by omega) (by omega)), cif_n (r10_rng (by omega) (by omega)), cif_y (rng_k (by omega)), tn_k (by omega)]
  refine z_iload_n dX12_count_5 rfl ?_
  refine z_i2l dX12_count_6 ?_
  refine z_ldc2 dX12_count_7 qX12_409 ?_
  refine z_ldc2 dX12_count_10 qX12_411 ?_
  refine z_callS3i dX12_count_13 kX12_isIn lX12_86 (s_isIn (v := (nI 0).toInt64)) (Nat.le_of_ble_eq_true rfl) (Nat.le_of_ble_eq_true rfl) ⟨Nat.le_of_ble_eq_true rfl, Nat.le_of_ble_eq_true rfl⟩ ?_
  refine z_if_eqB (tgt := 29) dX12_count_16 (by decide) (fun c_16 => ?_) (fun c_16 => ?_)
  · refine z_iload_n dX12_count_29 rfl ?_
    refine z_i2l dX12_count_30 ?_
    refine z_ldc2 dX12_count_31 qX12_375 ?_
    refine z_ldc2 dX12_count_34 qX12_413 ?_
    refine z_callS3i dX12_count_37 kX12_isIn lX12_86 (s_isIn (v := (nI 0).toInt64)) (Nat.le_of_ble_eq_true rfl) (Nat.le_of_ble_eq_true rfl) ⟨Nat.le_of_ble_eq_true rfl, Nat.le_of_ble_eq_true rfl⟩ ?_
    refine z_if_eqB (tgt := 68) dX12_count_40 (by decide) (fun c_40 => ?_) (fun c_40 => ?_)
    · refine z_iconst (v := nI 0) dX12_count_68 rfl ?_
      refine z_istore_n dX12_count_69 (Nat.le_of_ble_eq_true rfl) rfl ?_
      refine z_iload_n dX12_count_70 rfl ?_
      refine z_tableIn (tgt := 120) dX12_count_71 (by decide) (by decide) rfl (by decide) ?_
      refine z_aload_n dX12_count_120 rfl ?_
      refine z_callV0i dX12_count_121 kX12_rowsThere lX12_334 (by first | assumption | exact And.left (by assumption)) rfl (s_mRth hm0 k1) (Nat.le_of_ble_eq_true rfl) (Nat.le_of_ble_eq_true rfl) ⟨Nat.le_of_ble_eq_true rfl, Nat.le_of_ble_eq_true rfl⟩ ?_
      refine z_ireturn dX12_count_124 (Nat.le_of_ble_eq_true rfl) (Nat.le_of_ble_eq_true rfl) rfl ?_
      rw [hR]
      exact ⟨rfl, rfl, rfl, e0, h0⟩
    · exact absurd c_40 (by decide)
  · exact absurd c_16 (by decide)

set_option maxHeartbeats 4000000 in
set_option maxRecDepth 100000 in
theorem m_countC1 {D : zD} {z0 nx : Nat} {L : zL} {V : zV} {m : Nat} {w : Wo} (hm : sM L m) (h : MW V m w) : Sp D z0 4 0 0 mX12_count [.ref m, .int (nI 1)] L V nx (zq (some (.int (o_count (nI 1) w).1)) L nx (fun V' => zEq V V' m (m + 16) ∧ MW V' m (o_count (nI 1) w).2)) := by
  have hm0 := hm
  have h0 := h
  obtain ⟨a0, a1, a2, a3, a4, a5, a6, a7, a8, a9, a10, a11, a12, a13, a14, a15⟩ := hm
  refine Sp.of 2 (by decide) rfl rfl (Nat.le_of_ble_eq_true rfl) ?_
  refine z_aload_n dX12_count_0 rfl ?_
  refine z_iconst (v := nI 0) dX12_count_1 rfl ?_
  refine z_putI dX12_count_2 fX12_1 (by first | assumption | exact And.left (by assumption)) rfl ?_
  have h9 := MW_thr (x := nI 0) h0
  have e0 : zEq V (zup V m 0 (nI 0)) m (m + 16) := zEq.rf.up (by omega) (by omega)
  generalize zup V m 0 (nI 0) = V1 at h9 e0 ⊢
  clear h0 h
  have h0 := h9
  obtain ⟨k1, k2, k3, k4, k5, k6, k7⟩ := h9
  have hR : o_count (nI 1) w = (cnv w 1, w) := by unfold o_count; rw [cif_n (r10_rng (by omega) (by omega)), cif_n (r10_rng (by omega) (by omega)), cif_y (rng_k (by omega)), tn_k (by omega)]
  refine z_iload_n dX12_count_5 rfl ?_
  refine z_i2l dX12_count_6 ?_
  refine z_ldc2 dX12_count_7 qX12_409 ?_
  refine z_ldc2 dX12_count_10 qX12_411 ?_
  refine z_callS3i dX12_count_13 kX12_isIn lX12_86 (s_isIn (v := (nI 1).toInt64)) (Nat.le_of_ble_eq_true rfl) (Nat.le_of_ble_eq_true rfl) ⟨Nat.le_of_ble_eq_true rfl, Nat.le_of_ble_eq_true rfl⟩ ?_
  refine z_if_eqB (tgt := 29) dX12_count_16 (by decide) (fun c_16 => ?_) (fun c_16 => ?_)
  · refine z_iload_n dX12_count_29 rfl ?_
    refine z_i2l dX12_count_30 ?_
    refine z_ldc2 dX12_count_31 qX12_375 ?_
    refine z_ldc2 dX12_count_34 qX12_413 ?_
    refine z_callS3i dX12_count_37 kX12_isIn lX12_86 (s_isIn (v := (nI 1).toInt64)) (Nat.le_of_ble_eq_true rfl) (Nat.le_of_ble_eq_true rfl) ⟨Nat.le_of_ble_eq_true rfl, Nat.le_of_ble_eq_true rfl⟩ ?_
    refine z_if_eqB (tgt := 68) dX12_count_40 (by decide) (fun c_40 => ?_) (fun c_40 => ?_)
    · refine z_iconst (v := nI 0) dX12_count_68 rfl ?_
      refine z_istore_n dX12_count_69 (Nat.le_of_ble_eq_true rfl) rfl ?_
      refine z_iload_n dX12_count_70 rfl ?_
      refine z_tableIn (tgt := 125) dX12_count_71 (by decide) (by decide) rfl (by decide) ?_
      refine z_aload_n dX12_count_125 rfl ?_
      refine z_getR dX12_count_126 fX12_13 (by first | assumption | exact And.left (by assumption)) rfl ?_
      refine z_sipush (v := nI 5340) dX12_count_129 rfl ?_
      refine z_ialdN dX12_count_132 (by first | assumption | exact And.left (by assumption)) (by omega) (by decide) k1.1.1 ?_
      refine z_ireturn dX12_count_133 (Nat.le_of_ble_eq_true rfl) (Nat.le_of_ble_eq_true rfl) rfl ?_
      rw [hR]
      exact ⟨rfl, rfl, rfl, e0, h0⟩
    · exact absurd c_40 (by decide)
  · exact absurd c_16 (by decide)

set_option maxHeartbeats 4000000 in
set_option maxRecDepth 100000 in
theorem m_countC2 {D : zD} {z0 nx : Nat} {L : zL} {V : zV} {m : Nat} {w : Wo} (hm : sM L m) (h : MW V m w) : Sp D z0 4 0 0 mX12_count [.ref m, .int (nI 2)] L V nx (zq (some (.int (o_count (nI 2) w).1)) L nx (fun V' => zEq V V' m (m + 16) ∧ MW V' m (o_count (nI 2) w).2)) := by
  have hm0 := hm
  have h0 := h
  obtain ⟨a0, a1, a2, a3, a4, a5, a6, a7, a8, a9, a10, a11, a12, a13, a14, a15⟩ := hm
  refine Sp.of 2 (by decide) rfl rfl (Nat.le_of_ble_eq_true rfl) ?_
  refine z_aload_n dX12_count_0 rfl ?_
  refine z_iconst (v := nI 0) dX12_count_1 rfl ?_
  refine z_putI dX12_count_2 fX12_1 (by first | assumption | exact And.left (by assumption)) rfl ?_
  have h9 := MW_thr (x := nI 0) h0
  have e0 : zEq V (zup V m 0 (nI 0)) m (m + 16) := zEq.rf.up (by omega) (by omega)
  generalize zup V m 0 (nI 0) = V1 at h9 e0 ⊢
  clear h0 h
  have h0 := h9
  obtain ⟨k1, k2, k3, k4, k5, k6, k7⟩ := h9
  have hR : o_count (nI 2) w = (cnv w 2, w) := by unfold o_count; rw [cif_n (r10_rng (by omega) (by omega)), cif_n (r10_rng (by omega) (by omega)), cif_y (rng_k (by omega)), tn_k (by omega)]
  refine z_iload_n dX12_count_5 rfl ?_
  refine z_i2l dX12_count_6 ?_
  refine z_ldc2 dX12_count_7 qX12_409 ?_
  refine z_ldc2 dX12_count_10 qX12_411 ?_
  refine z_callS3i dX12_count_13 kX12_isIn lX12_86 (s_isIn (v := (nI 2).toInt64)) (Nat.le_of_ble_eq_true rfl) (Nat.le_of_ble_eq_true rfl) ⟨Nat.le_of_ble_eq_true rfl, Nat.le_of_ble_eq_true rfl⟩ ?_
  refine z_if_eqB (tgt := 29) dX12_count_16 (by decide) (fun c_16 => ?_) (fun c_16 => ?_)
  · refine z_iload_n dX12_count_29 rfl ?_
    refine z_i2l dX12_count_30 ?_
    refine z_ldc2 dX12_count_31 qX12_375 ?_
    refine z_ldc2 dX12_count_34 qX12_413 ?_
    refine z_callS3i dX12_count_37 kX12_isIn lX12_86 (s_isIn (v := (nI 2).toInt64)) (Nat.le_of_ble_eq_true rfl) (Nat.le_of_ble_eq_true rfl) ⟨Nat.le_of_ble_eq_true rfl, Nat.le_of_ble_eq_true rfl⟩ ?_
    refine z_if_eqB (tgt := 68) dX12_count_40 (by decide) (fun c_40 => ?_) (fun c_40 => ?_)
    · refine z_iconst (v := nI 0) dX12_count_68 rfl ?_
      refine z_istore_n dX12_count_69 (Nat.le_of_ble_eq_true rfl) rfl ?_
      refine z_iload_n dX12_count_70 rfl ?_
      refine z_tableIn (tgt := 134) dX12_count_71 (by decide) (by decide) rfl (by decide) ?_
      refine z_iconst (v := nI 0) dX12_count_134 rfl ?_
      refine z_istore_n dX12_count_135 (Nat.le_of_ble_eq_true rfl) rfl ?_
      refine Z.mono (lp_cOpen (D := D) (z0 := z0) (nx := nx) hm0 k1 _ 0 rfl (by omega)) ?_
      intro r2 L2 V9 n9 h9
      obtain ⟨g1, g2, g3, g4⟩ := h9
      rw [hR, g3]
      exact ⟨g1, g2, g4, e0, h0⟩
    · exact absurd c_40 (by decide)
  · exact absurd c_16 (by decide)

set_option maxHeartbeats 4000000 in
set_option maxRecDepth 100000 in
theorem m_countC3 {D : zD} {z0 nx : Nat} {L : zL} {V : zV} {m : Nat} {w : Wo} (hm : sM L m) (h : MW V m w) : Sp D z0 4 0 0 mX12_count [.ref m, .int (nI 3)] L V nx (zq (some (.int (o_count (nI 3) w).1)) L nx (fun V' => zEq V V' m (m + 16) ∧ MW V' m (o_count (nI 3) w).2)) := by
  have hm0 := hm
  have h0 := h
  obtain ⟨a0, a1, a2, a3, a4, a5, a6, a7, a8, a9, a10, a11, a12, a13, a14, a15⟩ := hm
  refine Sp.of 2 (by decide) rfl rfl (Nat.le_of_ble_eq_true rfl) ?_
  refine z_aload_n dX12_count_0 rfl ?_
  refine z_iconst (v := nI 0) dX12_count_1 rfl ?_
  refine z_putI dX12_count_2 fX12_1 (by first | assumption | exact And.left (by assumption)) rfl ?_
  have h9 := MW_thr (x := nI 0) h0
  have e0 : zEq V (zup V m 0 (nI 0)) m (m + 16) := zEq.rf.up (by omega) (by omega)
  generalize zup V m 0 (nI 0) = V1 at h9 e0 ⊢
  clear h0 h
  have h0 := h9
  obtain ⟨k1, k2, k3, k4, k5, k6, k7⟩ := h9
  have hR : o_count (nI 3) w = (cnv w 3, w) := by unfold o_count; rw [cif_n (r10_rng (by omega) (by omega)), cif_n (r10_rng (by omega) (by omega)), cif_y (rng_k (by omega)), tn_k (by omega)]
  refine z_iload_n dX12_count_5 rfl ?_
  refine z_i2l dX12_count_6 ?_
  refine z_ldc2 dX12_count_7 qX12_409 ?_
  refine z_ldc2 dX12_count_10 qX12_411 ?_
  refine z_callS3i dX12_count_13 kX12_isIn lX12_86 (s_isIn (v := (nI 3).toInt64)) (Nat.le_of_ble_eq_true rfl) (Nat.le_of_ble_eq_true rfl) ⟨Nat.le_of_ble_eq_true rfl, Nat.le_of_ble_eq_true rfl⟩ ?_
  refine z_if_eqB (tgt := 29) dX12_count_16 (by decide) (fun c_16 => ?_) (fun c_16 => ?_)
  · refine z_iload_n dX12_count_29 rfl ?_
    refine z_i2l dX12_count_30 ?_
    refine z_ldc2 dX12_count_31 qX12_375 ?_
    refine z_ldc2 dX12_count_34 qX12_413 ?_
    refine z_callS3i dX12_count_37 kX12_isIn lX12_86 (s_isIn (v := (nI 3).toInt64)) (Nat.le_of_ble_eq_true rfl) (Nat.le_of_ble_eq_true rfl) ⟨Nat.le_of_ble_eq_true rfl, Nat.le_of_ble_eq_true rfl⟩ ?_
    refine z_if_eqB (tgt := 68) dX12_count_40 (by decide) (fun c_40 => ?_) (fun c_40 => ?_)
    · refine z_iconst (v := nI 0) dX12_count_68 rfl ?_
      refine z_istore_n dX12_count_69 (Nat.le_of_ble_eq_true rfl) rfl ?_
      refine z_iload_n dX12_count_70 rfl ?_
      refine z_tableIn (tgt := 167) dX12_count_71 (by decide) (by decide) rfl (by decide) ?_
      refine z_iconst (v := nI 0) dX12_count_167 rfl ?_
      refine z_istore_n dX12_count_168 (Nat.le_of_ble_eq_true rfl) rfl ?_
      refine Z.mono (lp_cAll (D := D) (z0 := z0) (nx := nx) hm0 k1 _ 0 rfl (by omega)) ?_
      intro r2 L2 V9 n9 h9
      obtain ⟨g1, g2, g3, g4⟩ := h9
      rw [hR, g3]
      exact ⟨g1, g2, g4, e0, h0⟩
    · exact absurd c_40 (by decide)
  · exact absurd c_16 (by decide)

set_option maxHeartbeats 4000000 in
set_option maxRecDepth 100000 in
theorem m_countC4 {D : zD} {z0 nx : Nat} {L : zL} {V : zV} {m : Nat} {w : Wo} (hm : sM L m) (h : MW V m w) : Sp D z0 4 0 0 mX12_count [.ref m, .int (nI 4)] L V nx (zq (some (.int (o_count (nI 4) w).1)) L nx (fun V' => zEq V V' m (m + 16) ∧ MW V' m (o_count (nI 4) w).2)) := by
  have hm0 := hm
  have h0 := h
  obtain ⟨a0, a1, a2, a3, a4, a5, a6, a7, a8, a9, a10, a11, a12, a13, a14, a15⟩ := hm
  refine Sp.of 2 (by decide) rfl rfl (Nat.le_of_ble_eq_true rfl) ?_
  refine z_aload_n dX12_count_0 rfl ?_
  refine z_iconst (v := nI 0) dX12_count_1 rfl ?_
  refine z_putI dX12_count_2 fX12_1 (by first | assumption | exact And.left (by assumption)) rfl ?_
  have h9 := MW_thr (x := nI 0) h0
  have e0 : zEq V (zup V m 0 (nI 0)) m (m + 16) := zEq.rf.up (by omega) (by omega)
  generalize zup V m 0 (nI 0) = V1 at h9 e0 ⊢
  clear h0 h
  have h0 := h9
  obtain ⟨k1, k2, k3, k4, k5, k6, k7⟩ := h9
  have hR : o_count (nI 4) w = (cnv w 4, w) := by unfold o_count; rw [cif_n (r10_rng (by omega) (by omega)), cif_n (r10_rng (by omega) (by omega)), cif_y (rng_k (by omega)), tn_k (by omega)]
  refine z_iload_n dX12_count_5 rfl ?_
  refine z_i2l dX12_count_6 ?_
  refine z_ldc2 dX12_count_7 qX12_409 ?_
  refine z_ldc2 dX12_count_10 qX12_411 ?_
  refine z_callS3i dX12_count_13 kX12_isIn lX12_86 (s_isIn (v := (nI 4).toInt64)) (Nat.le_of_ble_eq_true rfl) (Nat.le_of_ble_eq_true rfl) ⟨Nat.le_of_ble_eq_true rfl, Nat.le_of_ble_eq_true rfl⟩ ?_
  refine z_if_eqB (tgt := 29) dX12_count_16 (by decide) (fun c_16 => ?_) (fun c_16 => ?_)
  · refine z_iload_n dX12_count_29 rfl ?_
    refine z_i2l dX12_count_30 ?_
    refine z_ldc2 dX12_count_31 qX12_375 ?_
    refine z_ldc2 dX12_count_34 qX12_413 ?_
    refine z_callS3i dX12_count_37 kX12_isIn lX12_86 (s_isIn (v := (nI 4).toInt64)) (Nat.le_of_ble_eq_true rfl) (Nat.le_of_ble_eq_true rfl) ⟨Nat.le_of_ble_eq_true rfl, Nat.le_of_ble_eq_true rfl⟩ ?_
    refine z_if_eqB (tgt := 68) dX12_count_40 (by decide) (fun c_40 => ?_) (fun c_40 => ?_)
    · refine z_iconst (v := nI 0) dX12_count_68 rfl ?_
      refine z_istore_n dX12_count_69 (Nat.le_of_ble_eq_true rfl) rfl ?_
      refine z_iload_n dX12_count_70 rfl ?_
      refine z_tableIn (tgt := 196) dX12_count_71 (by decide) (by decide) rfl (by decide) ?_
      refine z_aload_n dX12_count_196 rfl ?_
      refine z_callV0i dX12_count_197 kX12_doWait lX12_178 (by first | assumption | exact And.left (by assumption)) rfl (s_mWait hm0 k1) (Nat.le_of_ble_eq_true rfl) (Nat.le_of_ble_eq_true rfl) ⟨Nat.le_of_ble_eq_true rfl, Nat.le_of_ble_eq_true rfl⟩ ?_
      refine z_if_eqB (tgt := 207) dX12_count_200 (by decide) (fun c_200 => ?_) (fun c_200 => ?_)
      · refine z_iconst (v := nI 0) dX12_count_207 rfl ?_
        refine z_ireturn dX12_count_208 (Nat.le_of_ble_eq_true rfl) (Nat.le_of_ble_eq_true rfl) rfl ?_
        rw [hR]
        first
          | (rw [show cnv w 4 = nI 1 from zb_t c_200]; exact ⟨rfl, rfl, rfl, e0, h0⟩)
          | (rw [show cnv w 4 = nI 0 from zb_f c_200]; exact ⟨rfl, rfl, rfl, e0, h0⟩)
      · refine z_iconst (v := nI 1) dX12_count_203 rfl ?_
        refine z_goto (tgt := 208) dX12_count_204 (by decide) ?_
        refine z_ireturn dX12_count_208 (Nat.le_of_ble_eq_true rfl) (Nat.le_of_ble_eq_true rfl) rfl ?_
        rw [hR]
        first
          | (rw [show cnv w 4 = nI 1 from zb_t c_200]; exact ⟨rfl, rfl, rfl, e0, h0⟩)
          | (rw [show cnv w 4 = nI 0 from zb_f c_200]; exact ⟨rfl, rfl, rfl, e0, h0⟩)
    · exact absurd c_40 (by decide)
  · exact absurd c_16 (by decide)

set_option maxHeartbeats 4000000 in
set_option maxRecDepth 100000 in
theorem m_countC5 {D : zD} {z0 nx : Nat} {L : zL} {V : zV} {m : Nat} {w : Wo} (hm : sM L m) (h : MW V m w) : Sp D z0 4 0 0 mX12_count [.ref m, .int (nI 5)] L V nx (zq (some (.int (o_count (nI 5) w).1)) L nx (fun V' => zEq V V' m (m + 16) ∧ MW V' m (o_count (nI 5) w).2)) := by
  have hm0 := hm
  have h0 := h
  obtain ⟨a0, a1, a2, a3, a4, a5, a6, a7, a8, a9, a10, a11, a12, a13, a14, a15⟩ := hm
  refine Sp.of 2 (by decide) rfl rfl (Nat.le_of_ble_eq_true rfl) ?_
  refine z_aload_n dX12_count_0 rfl ?_
  refine z_iconst (v := nI 0) dX12_count_1 rfl ?_
  refine z_putI dX12_count_2 fX12_1 (by first | assumption | exact And.left (by assumption)) rfl ?_
  have h9 := MW_thr (x := nI 0) h0
  have e0 : zEq V (zup V m 0 (nI 0)) m (m + 16) := zEq.rf.up (by omega) (by omega)
  generalize zup V m 0 (nI 0) = V1 at h9 e0 ⊢
  clear h0 h
  have h0 := h9
  obtain ⟨k1, k2, k3, k4, k5, k6, k7⟩ := h9
  have hR : o_count (nI 5) w = (cnv w 5, w) := by unfold o_count; rw [cif_n (r10_rng (by omega) (by omega)), cif_n (r10_rng (by omega) (by omega)), cif_y (rng_k (by omega)), tn_k (by omega)]
  refine z_iload_n dX12_count_5 rfl ?_
  refine z_i2l dX12_count_6 ?_
  refine z_ldc2 dX12_count_7 qX12_409 ?_
  refine z_ldc2 dX12_count_10 qX12_411 ?_
  refine z_callS3i dX12_count_13 kX12_isIn lX12_86 (s_isIn (v := (nI 5).toInt64)) (Nat.le_of_ble_eq_true rfl) (Nat.le_of_ble_eq_true rfl) ⟨Nat.le_of_ble_eq_true rfl, Nat.le_of_ble_eq_true rfl⟩ ?_
  refine z_if_eqB (tgt := 29) dX12_count_16 (by decide) (fun c_16 => ?_) (fun c_16 => ?_)
  · refine z_iload_n dX12_count_29 rfl ?_
    refine z_i2l dX12_count_30 ?_
    refine z_ldc2 dX12_count_31 qX12_375 ?_
    refine z_ldc2 dX12_count_34 qX12_413 ?_
    refine z_callS3i dX12_count_37 kX12_isIn lX12_86 (s_isIn (v := (nI 5).toInt64)) (Nat.le_of_ble_eq_true rfl) (Nat.le_of_ble_eq_true rfl) ⟨Nat.le_of_ble_eq_true rfl, Nat.le_of_ble_eq_true rfl⟩ ?_
    refine z_if_eqB (tgt := 68) dX12_count_40 (by decide) (fun c_40 => ?_) (fun c_40 => ?_)
    · refine z_iconst (v := nI 0) dX12_count_68 rfl ?_
      refine z_istore_n dX12_count_69 (Nat.le_of_ble_eq_true rfl) rfl ?_
      refine z_iload_n dX12_count_70 rfl ?_
      refine z_tableIn (tgt := 209) dX12_count_71 (by decide) (by decide) rfl (by decide) ?_
      refine z_aload_n dX12_count_209 rfl ?_
      refine z_getIe dX12_count_210 fX12_210 (by first | assumption | exact And.left (by assumption)) rfl k4.1 ?_
      refine z_ireturn dX12_count_213 (Nat.le_of_ble_eq_true rfl) (Nat.le_of_ble_eq_true rfl) rfl ?_
      rw [hR]
      exact ⟨rfl, rfl, rfl, e0, h0⟩
    · exact absurd c_40 (by decide)
  · exact absurd c_16 (by decide)

set_option maxHeartbeats 4000000 in
set_option maxRecDepth 100000 in
theorem m_countC6 {D : zD} {z0 nx : Nat} {L : zL} {V : zV} {m : Nat} {w : Wo} (hm : sM L m) (h : MW V m w) : Sp D z0 4 0 0 mX12_count [.ref m, .int (nI 6)] L V nx (zq (some (.int (o_count (nI 6) w).1)) L nx (fun V' => zEq V V' m (m + 16) ∧ MW V' m (o_count (nI 6) w).2)) := by
  have hm0 := hm
  have h0 := h
  obtain ⟨a0, a1, a2, a3, a4, a5, a6, a7, a8, a9, a10, a11, a12, a13, a14, a15⟩ := hm
  refine Sp.of 2 (by decide) rfl rfl (Nat.le_of_ble_eq_true rfl) ?_
  refine z_aload_n dX12_count_0 rfl ?_
  refine z_iconst (v := nI 0) dX12_count_1 rfl ?_
  refine z_putI dX12_count_2 fX12_1 (by first | assumption | exact And.left (by assumption)) rfl ?_
  have h9 := MW_thr (x := nI 0) h0
  have e0 : zEq V (zup V m 0 (nI 0)) m (m + 16) := zEq.rf.up (by omega) (by omega)
  generalize zup V m 0 (nI 0) = V1 at h9 e0 ⊢
  clear h0 h
  have h0 := h9
  obtain ⟨k1, k2, k3, k4, k5, k6, k7⟩ := h9
  have hR : o_count (nI 6) w = (cnv w 6, w) := by unfold o_count; rw [cif_n (r10_rng (by omega) (by omega)), cif_n (r10_rng (by omega) (by omega)), cif_y (rng_k (by omega)), tn_k (by omega)]
  refine z_iload_n dX12_count_5 rfl ?_
  refine z_i2l dX12_count_6 ?_
  refine z_ldc2 dX12_count_7 qX12_409 ?_
  refine z_ldc2 dX12_count_10 qX12_411 ?_
  refine z_callS3i dX12_count_13 kX12_isIn lX12_86 (s_isIn (v := (nI 6).toInt64)) (Nat.le_of_ble_eq_true rfl) (Nat.le_of_ble_eq_true rfl) ⟨Nat.le_of_ble_eq_true rfl, Nat.le_of_ble_eq_true rfl⟩ ?_
  refine z_if_eqB (tgt := 29) dX12_count_16 (by decide) (fun c_16 => ?_) (fun c_16 => ?_)
  · refine z_iload_n dX12_count_29 rfl ?_
    refine z_i2l dX12_count_30 ?_
    refine z_ldc2 dX12_count_31 qX12_375 ?_
    refine z_ldc2 dX12_count_34 qX12_413 ?_
    refine z_callS3i dX12_count_37 kX12_isIn lX12_86 (s_isIn (v := (nI 6).toInt64)) (Nat.le_of_ble_eq_true rfl) (Nat.le_of_ble_eq_true rfl) ⟨Nat.le_of_ble_eq_true rfl, Nat.le_of_ble_eq_true rfl⟩ ?_
    refine z_if_eqB (tgt := 68) dX12_count_40 (by decide) (fun c_40 => ?_) (fun c_40 => ?_)
    · refine z_iconst (v := nI 0) dX12_count_68 rfl ?_
      refine z_istore_n dX12_count_69 (Nat.le_of_ble_eq_true rfl) rfl ?_
      refine z_iload_n dX12_count_70 rfl ?_
      refine z_tableIn (tgt := 214) dX12_count_71 (by decide) (by decide) rfl (by decide) ?_
      refine z_aload_n dX12_count_214 rfl ?_
      refine z_getIe dX12_count_215 fX12_72 (by first | assumption | exact And.left (by assumption)) rfl k2.2.1 ?_
      refine z_ireturn dX12_count_218 (Nat.le_of_ble_eq_true rfl) (Nat.le_of_ble_eq_true rfl) rfl ?_
      rw [hR]
      exact ⟨rfl, rfl, rfl, e0, h0⟩
    · exact absurd c_40 (by decide)
  · exact absurd c_16 (by decide)

set_option maxHeartbeats 4000000 in
set_option maxRecDepth 100000 in
theorem m_countC7 {D : zD} {z0 nx : Nat} {L : zL} {V : zV} {m : Nat} {w : Wo} (hm : sM L m) (h : MW V m w) : Sp D z0 4 0 0 mX12_count [.ref m, .int (nI 7)] L V nx (zq (some (.int (o_count (nI 7) w).1)) L nx (fun V' => zEq V V' m (m + 16) ∧ MW V' m (o_count (nI 7) w).2)) := by
  have hm0 := hm
  have h0 := h
  obtain ⟨a0, a1, a2, a3, a4, a5, a6, a7, a8, a9, a10, a11, a12, a13, a14, a15⟩ := hm
  refine Sp.of 2 (by decide) rfl rfl (Nat.le_of_ble_eq_true rfl) ?_
  refine z_aload_n dX12_count_0 rfl ?_
  refine z_iconst (v := nI 0) dX12_count_1 rfl ?_
  refine z_putI dX12_count_2 fX12_1 (by first | assumption | exact And.left (by assumption)) rfl ?_
  have h9 := MW_thr (x := nI 0) h0
  have e0 : zEq V (zup V m 0 (nI 0)) m (m + 16) := zEq.rf.up (by omega) (by omega)
  generalize zup V m 0 (nI 0) = V1 at h9 e0 ⊢
  clear h0 h
  have h0 := h9
  obtain ⟨k1, k2, k3, k4, k5, k6, k7⟩ := h9
  have hR : o_count (nI 7) w = (cnv w 7, w) := by unfold o_count; rw [cif_n (r10_rng (by omega) (by omega)), cif_n (r10_rng (by omega) (by omega)), cif_y (rng_k (by omega)), tn_k (by omega)]
  refine z_iload_n dX12_count_5 rfl ?_
  refine z_i2l dX12_count_6 ?_
  refine z_ldc2 dX12_count_7 qX12_409 ?_
  refine z_ldc2 dX12_count_10 qX12_411 ?_
  refine z_callS3i dX12_count_13 kX12_isIn lX12_86 (s_isIn (v := (nI 7).toInt64)) (Nat.le_of_ble_eq_true rfl) (Nat.le_of_ble_eq_true rfl) ⟨Nat.le_of_ble_eq_true rfl, Nat.le_of_ble_eq_true rfl⟩ ?_
  refine z_if_eqB (tgt := 29) dX12_count_16 (by decide) (fun c_16 => ?_) (fun c_16 => ?_)
  · refine z_iload_n dX12_count_29 rfl ?_
    refine z_i2l dX12_count_30 ?_
    refine z_ldc2 dX12_count_31 qX12_375 ?_
    refine z_ldc2 dX12_count_34 qX12_413 ?_
    refine z_callS3i dX12_count_37 kX12_isIn lX12_86 (s_isIn (v := (nI 7).toInt64)) (Nat.le_of_ble_eq_true rfl) (Nat.le_of_ble_eq_true rfl) ⟨Nat.le_of_ble_eq_true rfl, Nat.le_of_ble_eq_true rfl⟩ ?_
    refine z_if_eqB (tgt := 68) dX12_count_40 (by decide) (fun c_40 => ?_) (fun c_40 => ?_)
    · refine z_iconst (v := nI 0) dX12_count_68 rfl ?_
      refine z_istore_n dX12_count_69 (Nat.le_of_ble_eq_true rfl) rfl ?_
      refine z_iload_n dX12_count_70 rfl ?_
      refine z_tableIn (tgt := 219) dX12_count_71 (by decide) (by decide) rfl (by decide) ?_
      refine z_aload_n dX12_count_219 rfl ?_
      refine z_getR dX12_count_220 fX12_13 (by first | assumption | exact And.left (by assumption)) rfl ?_
      refine z_sipush (v := nI 5341) dX12_count_223 rfl ?_
      refine z_ialdN dX12_count_226 (by first | assumption | exact And.left (by assumption)) (by omega) (by decide) k1.1.2.1 ?_
      refine z_ireturn dX12_count_227 (Nat.le_of_ble_eq_true rfl) (Nat.le_of_ble_eq_true rfl) rfl ?_
      rw [hR]
      exact ⟨rfl, rfl, rfl, e0, h0⟩
    · exact absurd c_40 (by decide)
  · exact absurd c_16 (by decide)

set_option maxHeartbeats 4000000 in
set_option maxRecDepth 100000 in
theorem m_countC8 {D : zD} {z0 nx : Nat} {L : zL} {V : zV} {m : Nat} {w : Wo} (hm : sM L m) (h : MW V m w) : Sp D z0 4 0 0 mX12_count [.ref m, .int (nI 8)] L V nx (zq (some (.int (o_count (nI 8) w).1)) L nx (fun V' => zEq V V' m (m + 16) ∧ MW V' m (o_count (nI 8) w).2)) := by
  have hm0 := hm
  have h0 := h
  obtain ⟨a0, a1, a2, a3, a4, a5, a6, a7, a8, a9, a10, a11, a12, a13, a14, a15⟩ := hm
  refine Sp.of 2 (by decide) rfl rfl (Nat.le_of_ble_eq_true rfl) ?_
  refine z_aload_n dX12_count_0 rfl ?_
  refine z_iconst (v := nI 0) dX12_count_1 rfl ?_
  refine z_putI dX12_count_2 fX12_1 (by first | assumption | exact And.left (by assumption)) rfl ?_
  have h9 := MW_thr (x := nI 0) h0
  have e0 : zEq V (zup V m 0 (nI 0)) m (m + 16) := zEq.rf.up (by omega) (by omega)
  generalize zup V m 0 (nI 0) = V1 at h9 e0 ⊢
  clear h0 h
  have h0 := h9
  obtain ⟨k1, k2, k3, k4, k5, k6, k7⟩ := h9
  have hR : o_count (nI 8) w = (cnv w 8, w) := by unfold o_count; rw [cif_n (r10_rng (by omega) (by omega)), cif_n (r10_rng (by omega) (by omega)), cif_y (rng_k (by omega)), tn_k (by omega)]
  refine z_iload_n dX12_count_5 rfl ?_
  refine z_i2l dX12_count_6 ?_
  refine z_ldc2 dX12_count_7 qX12_409 ?_
  refine z_ldc2 dX12_count_10 qX12_411 ?_
  refine z_callS3i dX12_count_13 kX12_isIn lX12_86 (s_isIn (v := (nI 8).toInt64)) (Nat.le_of_ble_eq_true rfl) (Nat.le_of_ble_eq_true rfl) ⟨Nat.le_of_ble_eq_true rfl, Nat.le_of_ble_eq_true rfl⟩ ?_
  refine z_if_eqB (tgt := 29) dX12_count_16 (by decide) (fun c_16 => ?_) (fun c_16 => ?_)
  · refine z_iload_n dX12_count_29 rfl ?_
    refine z_i2l dX12_count_30 ?_
    refine z_ldc2 dX12_count_31 qX12_375 ?_
    refine z_ldc2 dX12_count_34 qX12_413 ?_
    refine z_callS3i dX12_count_37 kX12_isIn lX12_86 (s_isIn (v := (nI 8).toInt64)) (Nat.le_of_ble_eq_true rfl) (Nat.le_of_ble_eq_true rfl) ⟨Nat.le_of_ble_eq_true rfl, Nat.le_of_ble_eq_true rfl⟩ ?_
    refine z_if_eqB (tgt := 68) dX12_count_40 (by decide) (fun c_40 => ?_) (fun c_40 => ?_)
    · refine z_iconst (v := nI 0) dX12_count_68 rfl ?_
      refine z_istore_n dX12_count_69 (Nat.le_of_ble_eq_true rfl) rfl ?_
      refine z_iload_n dX12_count_70 rfl ?_
      refine z_tableIn (tgt := 228) dX12_count_71 (by decide) (by decide) rfl (by decide) ?_
      refine z_aload_n dX12_count_228 rfl ?_
      refine z_getR dX12_count_229 fX12_13 (by first | assumption | exact And.left (by assumption)) rfl ?_
      refine z_sipush (v := nI 5342) dX12_count_232 rfl ?_
      refine z_ialdN dX12_count_235 (by first | assumption | exact And.left (by assumption)) (by omega) (by decide) k1.1.2.2.1 ?_
      refine z_ireturn dX12_count_236 (Nat.le_of_ble_eq_true rfl) (Nat.le_of_ble_eq_true rfl) rfl ?_
      rw [hR]
      exact ⟨rfl, rfl, rfl, e0, h0⟩
    · exact absurd c_40 (by decide)
  · exact absurd c_16 (by decide)

set_option maxHeartbeats 4000000 in
set_option maxRecDepth 100000 in
theorem m_countD {D : zD} {z0 nx : Nat} {L : zL} {V : zV} {m : Nat} {w : Wo} (hm : sM L m) (h : MW V m w) {x : Int32} (ha : ¬ r10 10 x) (hb : ¬ r10 20 x) (hc : ¬ rng 9 x) : Sp D z0 4 0 0 mX12_count [.ref m, .int (x)] L V nx (zq (some (.int (o_count (x) w).1)) L nx (fun V' => zEq V V' m (m + 16) ∧ MW V' m (o_count (x) w).2)) := by
  have hm0 := hm
  have h0 := h
  obtain ⟨a0, a1, a2, a3, a4, a5, a6, a7, a8, a9, a10, a11, a12, a13, a14, a15⟩ := hm
  refine Sp.of 2 (by decide) rfl rfl (Nat.le_of_ble_eq_true rfl) ?_
  refine z_aload_n dX12_count_0 rfl ?_
  refine z_iconst (v := nI 0) dX12_count_1 rfl ?_
  refine z_putI dX12_count_2 fX12_1 (by first | assumption | exact And.left (by assumption)) rfl ?_
  have h9 := MW_thr (x := nI 0) h0
  have e0 : zEq V (zup V m 0 (nI 0)) m (m + 16) := zEq.rf.up (by omega) (by omega)
  generalize zup V m 0 (nI 0) = V1 at h9 e0 ⊢
  clear h0 h
  have h0 := h9
  obtain ⟨k1, k2, k3, k4, k5, k6, k7⟩ := h9
  refine z_iload_n dX12_count_5 rfl ?_
  refine z_i2l dX12_count_6 ?_
  refine z_ldc2 dX12_count_7 qX12_409 ?_
  refine z_ldc2 dX12_count_10 qX12_411 ?_
  refine z_callS3i dX12_count_13 kX12_isIn lX12_86 (s_isIn (v := (x).toInt64)) (Nat.le_of_ble_eq_true rfl) (Nat.le_of_ble_eq_true rfl) ⟨Nat.le_of_ble_eq_true rfl, Nat.le_of_ble_eq_true rfl⟩ ?_
  refine z_if_eqB (tgt := 29) dX12_count_16 (by decide) (fun c_16 => ?_) (fun c_16 => ?_)
  · refine z_iload_n dX12_count_29 rfl ?_
    refine z_i2l dX12_count_30 ?_
    refine z_ldc2 dX12_count_31 qX12_375 ?_
    refine z_ldc2 dX12_count_34 qX12_413 ?_
    refine z_callS3i dX12_count_37 kX12_isIn lX12_86 (s_isIn (v := (x).toInt64)) (Nat.le_of_ble_eq_true rfl) (Nat.le_of_ble_eq_true rfl) ⟨Nat.le_of_ble_eq_true rfl, Nat.le_of_ble_eq_true rfl⟩ ?_
    refine z_if_eqB (tgt := 68) dX12_count_40 (by decide) (fun c_40 => ?_) (fun c_40 => ?_)
    · refine z_iconst (v := nI 0) dX12_count_68 rfl ?_
      refine z_istore_n dX12_count_69 (Nat.le_of_ble_eq_true rfl) rfl ?_
      refine z_iload_n dX12_count_70 rfl ?_
      refine z_tableOut (tgt := 237) dX12_count_71 (by have := rng_o (n := 8) (by decide) hc; omega) (by decide) ?_
      refine z_iconst (v := (-1)) dX12_count_237 rfl ?_
      refine z_ireturn dX12_count_238 (Nat.le_of_ble_eq_true rfl) (Nat.le_of_ble_eq_true rfl) rfl ?_
      rw [show o_count x w = (-1, w) from by unfold o_count; rw [cif_n ha, cif_n hb, cif_n hc]]
      exact ⟨rfl, rfl, rfl, e0, h0⟩
    · exact absurd ((r10_i (b := 20) (by decide)).mp (by rw [i64] at c_40; exact c_40)) hb
  · exact absurd ((r10_i (b := 10) (by decide)).mp (by rw [i64] at c_16; exact c_16)) ha

theorem m_count {D : zD} {z0 nx : Nat} {L : zL} {V : zV} {m : Nat} {w : Wo} (hm : sM L m) (h : MW V m w) {x : Int32} : Sp D z0 4 0 0 mX12_count [.ref m, .int x] L V nx (zq (some (.int (o_count x w).1)) L nx (fun V' => zEq V V' m (m + 16) ∧ MW V' m (o_count x w).2)) := by
  by_cases h1 : r10 10 x
  · obtain ⟨k, hk, rfl⟩ := h1
    exact m_countA hm h hk
  · by_cases h2 : r10 20 x
    · obtain ⟨k, hk, rfl⟩ := h2
      exact m_countB hm h hk
    · by_cases h3 : rng 9 x
      · obtain ⟨k, hk, rfl⟩ := h3
        rcases (show k = 0 ∨ k = 1 ∨ k = 2 ∨ k = 3 ∨ k = 4 ∨ k = 5 ∨ k = 6 ∨ k = 7 ∨ k = 8 by omega) with rfl | rfl | rfl | rfl | rfl | rfl | rfl | rfl | rfl
        · exact m_countC0 hm h
        · exact m_countC1 hm h
        · exact m_countC2 hm h
        · exact m_countC3 hm h
        · exact m_countC4 hm h
        · exact m_countC5 hm h
        · exact m_countC6 hm h
        · exact m_countC7 hm h
        · exact m_countC8 hm h
      · exact m_countD hm h h1 h2 h3

