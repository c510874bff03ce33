/-! Tape, on: what texts tell -/
def fr (V V' : zV) (a lo hi : Nat) : Prop := ∀ q : Nat, q ≠ a → (q < lo ∨ hi ≤ q) → V' q = V q
theorem fr.rf {V : zV} {a lo hi : Nat} : fr V V a lo hi := fun _ _ _ => rfl
theorem fr.tp {V V1 V2 : zV} {a lo hi : Nat} (h : fr V V1 a lo hi) (h2 : zEq V1 V2 a (a + 1)) : fr V V2 a lo hi := fun q h3 h4 => (h2 q (by omega)).trans (h q h3 h4)
theorem fr.en {V V1 V2 : zV} {a lo hi l2 k2 : Nat} (h : fr V V1 a lo hi) (h2 : zEq V1 V2 l2 k2) (h3 : lo ≤ l2) (h4 : k2 ≤ hi) : fr V V2 a lo hi := fun q h5 h6 => (h2 q (by omega)).trans (h q h5 h6)
theorem fr.trans {V V1 V2 : zV} {a lo hi l2 k2 : Nat} (h : fr V V1 a lo hi) (h2 : fr V1 V2 a l2 k2) (h3 : lo ≤ l2) (h4 : k2 ≤ hi) : fr V V2 a lo hi := fun q h5 h6 => (h2 q h5 (by omega)).trans (h q h5 h6)
def PRS (V : zV) (a : Nat) (b : List Nat) (r p : Nat) (fl fk fp : Int32) : Prop := TA V a b p fl (if r = 0 then fk else nI r) (if r = 0 then fp else nI p)
theorem PRS_f {V : zV} {a r p : Nat} {b : List Nat} {fl fk fp : Int32} (h : TA V a b p fl (nI r) (nI p)) (hr : ¬ r = 0) : PRS V a b r p fl fk fp := by unfold PRS; rw [if_neg hr, if_neg hr]; exact h
theorem PRS_0 {V : zV} {a r p : Nat} {b : List Nat} {fl fk fp : Int32} (h : TA V a b p fl fk fp) (hr : r = 0) : PRS V a b r p fl fk fp := by unfold PRS; rw [if_pos hr, if_pos hr]; exact h
theorem PRS_i {V : zV} {a r p : Nat} {b : List Nat} {fl fk fp : Int32} (h : PRS V a b r p fl fk fp) (hr : r = 0) : TA V a b p fl fk fp := by unfold PRS at h; rw [if_pos hr, if_pos hr] at h; exact h
def num (b : List Nat) (p d : Nat) : Nat := if d = 2 then (bt b p - 48) * 10 + bt b (p + 1) - 48 else bt b p - 48
/-- a condition: fault, place, what it is -/
noncomputable def rC (b : List Nat) (p : Nat) : Nat × Nat × Cd := match clm b p with
  | none => (1, p, (0, 0, 0))
  | some c => match oph b (sk b (p + 1)) with
    | none => (1, sk b (p + 1), (0, 0, 0))
    | some o => if run isD b (sk b (sk b (p + 1) + 1)) = 0 then (1, sk b (sk b (p + 1) + 1), (0, 0, 0)) else if 2 < run isD b (sk b (sk b (p + 1) + 1)) then (2, sk b (sk b (p + 1) + 1), (0, 0, 0)) else (0, sk b (sk b (sk b (p + 1) + 1) + run isD b (sk b (sk b (p + 1) + 1))), (c, o, num b (sk b (sk b (p + 1) + 1)) (run isD b (sk b (sk b (p + 1) + 1)))))
theorem clm_m1 (b : List Nat) (p : Nat) : vv (clm b p) = -1 ↔ clm b p = none := vv_m1' (fun c hc => by have := (clm_some hc).1; omega)
theorem oph_some {b : List Nat} {p c : Nat} (h : oph b p = some c) : c < 4 ∧ p < b.length := by
  unfold oph at h
  repeat' split at h
  all_goals first | (cases h; omega) | cases h
theorem oph_m1 (b : List Nat) (p : Nat) : vv (oph b p) = -1 ↔ oph b p = none := vv_m1' (fun c hc => by have := (oph_some hc).1; omega)

set_option maxHeartbeats 4000000 in
set_option maxRecDepth 100000 in
theorem s_rC {D : zD} {z0 nx : Nat} {L : zL} {V : zV} {a p e : Nat} {b : List Nat} {fl fk fp : Int32} (hs : sTp L a) (h : TA V a b p fl fk fp) (hse : sCo L e) (hae : e ≠ a ∧ e ≠ a + 1) : Sp D z0 4 0 0 mX8_readCondition [.ref a, .ref e] L V nx (zq (some (.int (zb ((rC b p).1 = 0)))) L nx (fun V' => fr V V' a e (e + 1) ∧ PRS V' a b (rC b p).1 (rC b p).2.1 fl fk fp ∧ (¬ (rC b p).1 = 0 → zEq V V' a (a + 1)) ∧ ((rC b p).1 = 0 → CO V' e (rC b p).2.2.1 (rC b p).2.2.2.1 (rC b p).2.2.2.2))) := by
  have hs0 := hs
  have h0 := h
  obtain ⟨h1, h2⟩ := hs
  have gp := h.2.1
  have gl := h.2.2.1
  refine Sp.of 4 (by decide) rfl rfl (Nat.le_of_ble_eq_true rfl) ?_
  refine z_aload_n dX8_readCondition_0 rfl ?_
  refine z_callV0i dX8_readCondition_1 kX8_columnHere lX8_75 (by first | assumption | exact And.left (by assumption)) rfl (s_clm hs0 h0) (Nat.le_of_ble_eq_true rfl) (Nat.le_of_ble_eq_true rfl) ⟨Nat.le_of_ble_eq_true rfl, Nat.le_of_ble_eq_true rfl⟩ ?_
  refine z_istore_n dX8_readCondition_4 (Nat.le_of_ble_eq_true rfl) rfl ?_
  refine z_iload_n dX8_readCondition_5 rfl ?_
  refine z_iconst (v := (-1)) dX8_readCondition_6 rfl ?_
  refine z_icmp_ne (tgt := 16) dX8_readCondition_7 (by decide) (fun c_7 => ?_) (fun c_7 => ?_)
  · obtain ⟨c, hc⟩ := Option.ne_none_iff_exists'.mp (fun q => c_7 ((clm_m1 b p).mpr q))
    have hc2 := clm_some hc
    rw [hc, show vv (some c) = nI c from rfl]
    refine z_aload_n dX8_readCondition_16 rfl ?_
    refine z_aload_n dX8_readCondition_17 rfl ?_
    refine z_getIe dX8_readCondition_18 fX8_99 (by first | assumption | exact And.left (by assumption)) rfl h0.1.2.2.1 ?_
    refine z_iconst (v := nI 1) dX8_readCondition_21 rfl ?_
    refine z_addN dX8_readCondition_22 ?_
    refine z_callV1w dX8_readCondition_23 kX8_goTo lX8_114 (by first | assumption | exact And.left (by assumption)) rfl (s_goTo hs0 h0 (by omega)) (Nat.le_of_ble_eq_true rfl) (Nat.le_of_ble_eq_true rfl) ⟨Nat.le_of_ble_eq_true rfl, Nat.le_of_ble_eq_true rfl⟩ ?_
    intro V1 hV1
    obtain ⟨e1, h0⟩ := hV1
    have gp := h0.2.1
    have gl := h0.2.2.1
    refine z_aload_n dX8_readCondition_26 rfl ?_
    refine z_callV0i dX8_readCondition_27 kX8_opHere lX8_136 (by first | assumption | exact And.left (by assumption)) rfl (s_oph hs0 h0) (Nat.le_of_ble_eq_true rfl) (Nat.le_of_ble_eq_true rfl) ⟨Nat.le_of_ble_eq_true rfl, Nat.le_of_ble_eq_true rfl⟩ ?_
    refine z_istore_n dX8_readCondition_30 (Nat.le_of_ble_eq_true rfl) rfl ?_
    refine z_iload_n dX8_readCondition_31 rfl ?_
    refine z_iconst (v := (-1)) dX8_readCondition_32 rfl ?_
    refine z_icmp_ne (tgt := 42) dX8_readCondition_33 (by decide) (fun c_33 => ?_) (fun c_33 => ?_)
    · obtain ⟨o, ho⟩ := Option.ne_none_iff_exists'.mp (fun q => c_33 ((oph_m1 b _).mpr q))
      have ho2 := oph_some ho
      rw [ho, show vv (some o) = nI o from rfl]
      refine z_aload_n dX8_readCondition_42 rfl ?_
      refine z_aload_n dX8_readCondition_43 rfl ?_
      refine z_getIe dX8_readCondition_44 fX8_99 (by first | assumption | exact And.left (by assumption)) rfl h0.1.2.2.1 ?_
      refine z_iconst (v := nI 1) dX8_readCondition_47 rfl ?_
      refine z_addN dX8_readCondition_48 ?_
      refine z_callV1w dX8_readCondition_49 kX8_goTo lX8_114 (by first | assumption | exact And.left (by assumption)) rfl (s_goTo hs0 h0 (by omega)) (Nat.le_of_ble_eq_true rfl) (Nat.le_of_ble_eq_true rfl) ⟨Nat.le_of_ble_eq_true rfl, Nat.le_of_ble_eq_true rfl⟩ ?_
      intro V2 hV2
      obtain ⟨e2, h0⟩ := hV2
      have gp := h0.2.1
      have gl := h0.2.2.1
      generalize hp2 : sk b (sk b (p + 1) + 1) = p2 at *
      refine z_aload_n dX8_readCondition_52 rfl ?_
      refine z_callV0i dX8_readCondition_53 kX8_digitsHere lX8_139 (by first | assumption | exact And.left (by assumption)) rfl (s_digs hs0 h0) (Nat.le_of_ble_eq_true rfl) (Nat.le_of_ble_eq_true rfl) ⟨Nat.le_of_ble_eq_true rfl, Nat.le_of_ble_eq_true rfl⟩ ?_
      have hrl := run_le isD b p2
      refine z_istore dX8_readCondition_56 (Nat.le_of_ble_eq_true rfl) rfl ?_
      refine z_iload dX8_readCondition_58 rfl ?_
      refine z_if_neN (tgt := 69) dX8_readCondition_60 (by decide) (by omega) (fun c_60 => ?_) (fun c_60 => ?_)
      · refine z_iload dX8_readCondition_69 rfl ?_
        refine z_iconst (v := nI 2) dX8_readCondition_71 rfl ?_
        refine z_icmp_leN (tgt := 81) dX8_readCondition_72 (by decide) (by omega) (by omega) (fun c_72 => ?_) (fun c_72 => ?_)
        · have hR : rC b p = (0, sk b (p2 + run isD b p2), (c, o, num b p2 (run isD b p2))) := by unfold rC; simp only [hc, ho, hp2]; rw [if_neg c_60, if_neg (by omega)]
          have d0 := run_y (q := isD) (b := b) (p := p2) (j := 0) (by omega)
          unfold isD at d0
          rw [Nat.add_zero] at d0
          refine z_aload_n dX8_readCondition_81 rfl ?_
          refine z_aload_n dX8_readCondition_82 rfl ?_
          refine z_getIe dX8_readCondition_83 fX8_99 (by first | assumption | exact And.left (by assumption)) rfl h0.1.2.2.1 ?_
          refine z_callV1i dX8_readCondition_86 kX8_byteAt lX8_142 (by first | assumption | exact And.left (by assumption)) rfl (s_byI hs0 h0 (by omega)) (Nat.le_of_ble_eq_true rfl) (Nat.le_of_ble_eq_true rfl) ⟨Nat.le_of_ble_eq_true rfl, Nat.le_of_ble_eq_true rfl⟩ ?_
          rw [show byI b p2 = nI (bt b p2) from if_pos (by omega)]
          refine z_bipush (v := nI 48) dX8_readCondition_89 rfl ?_
          refine z_subN dX8_readCondition_91 (by omega) ?_
          refine z_istore dX8_readCondition_92 (Nat.le_of_ble_eq_true rfl) rfl ?_
          refine z_iload dX8_readCondition_94 rfl ?_
          refine z_iconst (v := nI 2) dX8_readCondition_96 rfl ?_
          refine z_icmp_neN (tgt := 121) dX8_readCondition_97 (by decide) (by omega) (by omega) (fun c_97 => ?_) (fun c_97 => ?_)
          · have hnum : num b p2 (run isD b p2) = bt b p2 - 48 := if_neg c_97
            refine z_aload_n dX8_readCondition_121 rfl ?_
            refine z_iload_n dX8_readCondition_122 rfl ?_
            refine z_iload_n dX8_readCondition_123 rfl ?_
            refine z_iload dX8_readCondition_124 rfl ?_
            refine z_callV3w dX8_readCondition_126 kX0_tell lX8_145 (by first | assumption | exact And.left (by assumption)) rfl (s_COtell hse (by omega) (by omega) (by omega)) (Nat.le_of_ble_eq_true rfl) (Nat.le_of_ble_eq_true rfl) ⟨Nat.le_of_ble_eq_true rfl, Nat.le_of_ble_eq_true rfl⟩ ?_
            intro V3 hV3
            obtain ⟨e3, hco⟩ := hV3
            have h0 := h0.eq e3 (by omega)
            refine z_aload_n dX8_readCondition_129 rfl ?_
            refine z_aload_n dX8_readCondition_130 rfl ?_
            refine z_getIe dX8_readCondition_131 fX8_99 (by first | assumption | exact And.left (by assumption)) rfl h0.1.2.2.1 ?_
            refine z_iload dX8_readCondition_134 rfl ?_
            refine z_addN dX8_readCondition_136 ?_
            refine z_callV1w dX8_readCondition_137 kX8_goTo lX8_114 (by first | assumption | exact And.left (by assumption)) rfl (s_goTo hs0 h0 (by omega)) (Nat.le_of_ble_eq_true rfl) (Nat.le_of_ble_eq_true rfl) ⟨Nat.le_of_ble_eq_true rfl, Nat.le_of_ble_eq_true rfl⟩ ?_
            intro V4 hV4
            refine z_iconst (v := nI 1) dX8_readCondition_140 rfl ?_
            refine z_zreturn dX8_readCondition_141 (Nat.le_of_ble_eq_true rfl) (Nat.le_of_ble_eq_true rfl) rfl (by first | exact Or.inl rfl | exact Or.inr rfl | exact zb_01 _ | assumption) ?_
            exact ⟨by rw [hR, zb_t rfl] <;> rfl, rfl, rfl, by rw [hR]; exact ⟨(((fr.rf.tp e1).tp e2).en e3 (by omega) (by omega)).tp hV4.1, PRS_0 hV4.2 rfl, fun q => absurd rfl q, fun _ => by rw [hnum]; exact hco.eq hV4.1 (by omega)⟩⟩
          · have d1 := run_y (q := isD) (b := b) (p := p2) (j := 1) (by omega)
            unfold isD at d1
            have hnum : num b p2 (run isD b p2) = (bt b p2 - 48) * 10 + bt b (p2 + 1) - 48 := if_pos c_97
            refine z_iload dX8_readCondition_100 rfl ?_
            refine z_bipush (v := nI 10) dX8_readCondition_102 rfl ?_
            refine z_mulN dX8_readCondition_104 ?_
            refine z_aload_n dX8_readCondition_105 rfl ?_
            refine z_aload_n dX8_readCondition_106 rfl ?_
            refine z_getIe dX8_readCondition_107 fX8_99 (by first | assumption | exact And.left (by assumption)) rfl h0.1.2.2.1 ?_
            refine z_iconst (v := nI 1) dX8_readCondition_110 rfl ?_
            refine z_addN dX8_readCondition_111 ?_
            refine z_callV1i dX8_readCondition_112 kX8_byteAt lX8_142 (by first | assumption | exact And.left (by assumption)) rfl (s_byI hs0 h0 (by omega)) (Nat.le_of_ble_eq_true rfl) (Nat.le_of_ble_eq_true rfl) ⟨Nat.le_of_ble_eq_true rfl, Nat.le_of_ble_eq_true rfl⟩ ?_
            rw [show byI b (p2 + 1) = nI (bt b (p2 + 1)) from if_pos (by omega)]
            refine z_addN dX8_readCondition_115 ?_
            refine z_bipush (v := nI 48) dX8_readCondition_116 rfl ?_
            refine z_subN dX8_readCondition_118 (by omega) ?_
            refine z_istore dX8_readCondition_119 (Nat.le_of_ble_eq_true rfl) rfl ?_
            refine z_aload_n dX8_readCondition_121 rfl ?_
            refine z_iload_n dX8_readCondition_122 rfl ?_
            refine z_iload_n dX8_readCondition_123 rfl ?_
            refine z_iload dX8_readCondition_124 rfl ?_
            refine z_callV3w dX8_readCondition_126 kX0_tell lX8_145 (by first | assumption | exact And.left (by assumption)) rfl (s_COtell hse (by omega) (by omega) (by omega)) (Nat.le_of_ble_eq_true rfl) (Nat.le_of_ble_eq_true rfl) ⟨Nat.le_of_ble_eq_true rfl, Nat.le_of_ble_eq_true rfl⟩ ?_
            intro V3 hV3
            obtain ⟨e3, hco⟩ := hV3
            have h0 := h0.eq e3 (by omega)
            refine z_aload_n dX8_readCondition_129 rfl ?_
            refine z_aload_n dX8_readCondition_130 rfl ?_
            refine z_getIe dX8_readCondition_131 fX8_99 (by first | assumption | exact And.left (by assumption)) rfl h0.1.2.2.1 ?_
            refine z_iload dX8_readCondition_134 rfl ?_
            refine z_addN dX8_readCondition_136 ?_
            refine z_callV1w dX8_readCondition_137 kX8_goTo lX8_114 (by first | assumption | exact And.left (by assumption)) rfl (s_goTo hs0 h0 (by omega)) (Nat.le_of_ble_eq_true rfl) (Nat.le_of_ble_eq_true rfl) ⟨Nat.le_of_ble_eq_true rfl, Nat.le_of_ble_eq_true rfl⟩ ?_
            intro V4 hV4
            refine z_iconst (v := nI 1) dX8_readCondition_140 rfl ?_
            refine z_zreturn dX8_readCondition_141 (Nat.le_of_ble_eq_true rfl) (Nat.le_of_ble_eq_true rfl) rfl (by first | exact Or.inl rfl | exact Or.inr rfl | exact zb_01 _ | assumption) ?_
            exact ⟨by rw [hR, zb_t rfl] <;> rfl, rfl, rfl, by rw [hR]; exact ⟨(((fr.rf.tp e1).tp e2).en e3 (by omega) (by omega)).tp hV4.1, PRS_0 hV4.2 rfl, fun q => absurd rfl q, fun _ => by rw [hnum]; exact hco.eq hV4.1 (by omega)⟩⟩
        · have hR : rC b p = (2, p2, (0, 0, 0)) := by unfold rC; simp only [hc, ho, hp2]; rw [if_neg c_60, if_pos (by omega)]
          refine z_aload_n dX8_readCondition_75 rfl ?_
          refine z_iconst (v := nI 2) dX8_readCondition_76 rfl ?_
          refine z_callV1q dX8_readCondition_77 kX8_refuse lX8_37 (by first | assumption | exact And.left (by assumption)) rfl (s_refuse hs0 h0) (Nat.le_of_ble_eq_true rfl) (Nat.le_of_ble_eq_true rfl) ⟨Nat.le_of_ble_eq_true rfl, Nat.le_of_ble_eq_true rfl⟩ ?_
          intro V9 hV9
          refine z_zreturn dX8_readCondition_80 (Nat.le_of_ble_eq_true rfl) (Nat.le_of_ble_eq_true rfl) rfl (by first | exact Or.inl rfl | exact Or.inr rfl | exact zb_01 _ | assumption) ?_
          exact ⟨by rw [hR, zb_f (by simp)] <;> rfl, rfl, rfl, by rw [hR]; exact ⟨((fr.rf.tp e1).tp e2).tp hV9.1, PRS_f hV9.2 (by simp), fun _ => (e1.trans e2).trans hV9.1, fun q => absurd q (by simp)⟩⟩
      · have hR : rC b p = (1, p2, (0, 0, 0)) := by unfold rC; simp only [hc, ho, hp2]; rw [if_pos c_60]
        refine z_aload_n dX8_readCondition_63 rfl ?_
        refine z_iconst (v := nI 1) dX8_readCondition_64 rfl ?_
        refine z_callV1q dX8_readCondition_65 kX8_refuse lX8_37 (by first | assumption | exact And.left (by assumption)) rfl (s_refuse hs0 h0) (Nat.le_of_ble_eq_true rfl) (Nat.le_of_ble_eq_true rfl) ⟨Nat.le_of_ble_eq_true rfl, Nat.le_of_ble_eq_true rfl⟩ ?_
        intro V9 hV9
        refine z_zreturn dX8_readCondition_68 (Nat.le_of_ble_eq_true rfl) (Nat.le_of_ble_eq_true rfl) rfl (by first | exact Or.inl rfl | exact Or.inr rfl | exact zb_01 _ | assumption) ?_
        exact ⟨by rw [hR, zb_f (by simp)] <;> rfl, rfl, rfl, by rw [hR]; exact ⟨((fr.rf.tp e1).tp e2).tp hV9.1, PRS_f hV9.2 (by simp), fun _ => (e1.trans e2).trans hV9.1, fun q => absurd q (by simp)⟩⟩
    · have hn := (oph_m1 b _).mp c_33
      have hR : rC b p = (1, sk b (p + 1), (0, 0, 0)) := by unfold rC; simp only [hc, hn]
      refine z_aload_n dX8_readCondition_36 rfl ?_
      refine z_iconst (v := nI 1) dX8_readCondition_37 rfl ?_
      refine z_callV1q dX8_readCondition_38 kX8_refuse lX8_37 (by first | assumption | exact And.left (by assumption)) rfl (s_refuse hs0 h0) (Nat.le_of_ble_eq_true rfl) (Nat.le_of_ble_eq_true rfl) ⟨Nat.le_of_ble_eq_true rfl, Nat.le_of_ble_eq_true rfl⟩ ?_
      intro V9 hV9
      refine z_zreturn dX8_readCondition_41 (Nat.le_of_ble_eq_true rfl) (Nat.le_of_ble_eq_true rfl) rfl (by first | exact Or.inl rfl | exact Or.inr rfl | exact zb_01 _ | assumption) ?_
      exact ⟨by rw [hR, zb_f (by simp)] <;> rfl, rfl, rfl, by rw [hR]; exact ⟨(fr.rf.tp e1).tp hV9.1, PRS_f hV9.2 (by simp), fun _ => e1.trans hV9.1, fun q => absurd q (by simp)⟩⟩
  · have hn := (clm_m1 b p).mp c_7
    have hR : rC b p = (1, p, (0, 0, 0)) := by unfold rC; rw [hn]
    refine z_aload_n dX8_readCondition_10 rfl ?_
    refine z_iconst (v := nI 1) dX8_readCondition_11 rfl ?_
    refine z_callV1q dX8_readCondition_12 kX8_refuse lX8_37 (by first | assumption | exact And.left (by assumption)) rfl (s_refuse hs0 h0) (Nat.le_of_ble_eq_true rfl) (Nat.le_of_ble_eq_true rfl) ⟨Nat.le_of_ble_eq_true rfl, Nat.le_of_ble_eq_true rfl⟩ ?_
    intro V9 hV9
    refine z_zreturn dX8_readCondition_15 (Nat.le_of_ble_eq_true rfl) (Nat.le_of_ble_eq_true rfl) rfl (by first | exact Or.inl rfl | exact Or.inr rfl | exact zb_01 _ | assumption) ?_
    exact ⟨by rw [hR, zb_f (by simp)] <;> rfl, rfl, rfl, by rw [hR]; exact ⟨fr.rf.tp hV9.1, PRS_f hV9.2 (by simp), fun _ => hV9.1, fun q => absurd q (by simp)⟩⟩

noncomputable def pd (b : List Nat) (p : Nat) : Nat := @ite _ (isW b (sk b (p + 1)) 1) (Classical.propDecidable _) (sk b (sk b (p + 1) + zln 1)) (sk b (p + 1))
def cma (b : List Nat) (p : Nat) : Prop := p < b.length ∧ bt b p = 44
/-- columns: fault, place, what they are -/
noncomputable def rO (b : List Nat) : Nat → Nat → List (Nat × Bool) → Nat × Nat × List (Nat × Bool)
  | 0, p, o => (1, p, o)
  | f + 1, p, o => match clm b p with
    | none => (1, p, o)
    | some c => if po o c < o.length then (3, p, o) else @ite _ (cma b (pd b p)) (Classical.propDecidable _) (rO b f (sk b (pd b p + 1)) (o ++ [(c, pb (isW b (sk b (p + 1)) 1))])) (0, pd b p, o ++ [(c, pb (isW b (sk b (p + 1)) 1))])
def ndc (o : List (Nat × Bool)) : Prop := ∀ j k, j < k → k < o.length → ¬ (o.getD j (0, false)).1 = (o.getD k (0, false)).1
theorem po_no {o : List (Nat × Bool)} {c : Nat} (h : ¬ po o c < o.length) : ∀ k, k < o.length → ¬ (o.getD k (0, false)).1 = c := by
  intro k hk
  have h2 : po o c ≤ o.length := fs_le _ _
  exact fs_no (p := fun k => (o.getD k (0, false)).1 = c) (n := o.length) (k := k) (by unfold po at h h2; omega)
theorem getD_snoc {o : List (Nat × Bool)} {x : Nat × Bool} {k : Nat} (hk : k < o.length + 1) : (o ++ [x]).getD k (0, false) = if k < o.length then o.getD k (0, false) else x := by
  simp only [List.getD_eq_getElem?_getD]
  split
  · rename_i q; rw [List.getElem?_append_left q]
  · rename_i q; rw [List.getElem?_append_right (by omega), show k - o.length = 0 by omega] <;> rfl
theorem ndc_snoc {o : List (Nat × Bool)} {x : Nat × Bool} (h : ndc o) (h2 : ∀ k, k < o.length → ¬ (o.getD k (0, false)).1 = x.1) : ndc (o ++ [x]) := by
  intro j k hj hk
  simp at hk
  rw [getD_snoc (by omega), getD_snoc hk]
  rw [if_pos (by omega)]
  split
  · rename_i q; exact h j k hj q
  · exact h2 j (by omega)
theorem po_full {o : List (Nat × Bool)} {c : Nat} (h : ndc o) (hl : o.length = 3) (h3 : ∀ k, k < o.length → (o.getD k (0, false)).1 < 3) (hc : c < 3) : po o c < o.length := by
  rcases Nat.lt_or_ge (po o c) o.length with q | q
  · exact q
  · have n := po_no (o := o) (c := c) (by omega)
    have a0 := n 0 (by omega)
    have a1 := n 1 (by omega)
    have a2 := n 2 (by omega)
    have b0 := h3 0 (by omega)
    have b1 := h3 1 (by omega)
    have b2 := h3 2 (by omega)
    have d0 := h 0 1 (by omega) (by omega)
    have d1 := h 0 2 (by omega) (by omega)
    have d2 := h 1 2 (by omega) (by omega)
    omega

set_option maxHeartbeats 4000000 in
set_option maxRecDepth 100000 in
theorem lp_rO {D : zD} {z0 nx : Nat} {L : zL} {V : zV} {a e : Nat} {b : List Nat} {fl fk fp : Int32} (hs : sTp L a) (hse : sOr L e) (hae : e + 3 ≤ a ∨ a + 2 ≤ e) : ∀ (fu : Nat) (t : Nat) (p : Nat) (o : List (Nat × Bool)) (V1 : zV), 4 - t = fu → fr V V1 a e (e + 3) → TA V1 a b p fl fk fp → OR V1 e o → (o.length = t ∧ t ≤ 4) → ndc o → Z D z0 7 0 0 mX8_readOrder 0 0 2 [some (.ref a), some (.ref e), some (.int (nI t)), none] [] L V1 nx (zq (some (.int (zb ((rO b (4 - t) p o).1 = 0)))) L nx (fun V' => fr V V' a e (e + 3) ∧ PRS V' a b (rO b (4 - t) p o).1 (rO b (4 - t) p o).2.1 fl fk fp ∧ OR V' e (rO b (4 - t) p o).2.2 ∧ ndc (rO b (4 - t) p o).2.2)) := by
  intro fu
  induction fu using Nat.strongRecOn with
  | ind fu ih =>
    intro t p o V1 h_fu h_0 h_1 h_2 h_3 h_4
    have hs0 := hs
    have h0 := h_1
    obtain ⟨h1, h2⟩ := hs
    have gp := h0.2.1
    have gl := h0.2.2.1
    obtain ⟨hl, h5⟩ := h_3
    have hl3 := h_2.2.1
    refine z_iload_n dX8_readOrder_2 rfl ?_
    refine z_iconst (v := nI 3) dX8_readOrder_3 rfl ?_
    refine z_icmp_gtN (tgt := 76) dX8_readOrder_4 (by decide) (by omega) (by omega) (fun c_4 => ?_) (fun c_4 => ?_)
    · have hR : rO b (4 - t) p o = (1, p, o) := by rw [show 4 - t = 0 by omega] <;> rfl
      refine z_aload_n dX8_readOrder_76 rfl ?_
      refine z_iconst (v := nI 1) dX8_readOrder_77 rfl ?_
      refine z_callV1q dX8_readOrder_78 kX8_refuse lX8_37 (by first | assumption | exact And.left (by assumption)) rfl (s_refuse hs0 h0) (Nat.le_of_ble_eq_true rfl) (Nat.le_of_ble_eq_true rfl) ⟨Nat.le_of_ble_eq_true rfl, Nat.le_of_ble_eq_true rfl⟩ ?_
      intro V9 hV9
      refine z_zreturn dX8_readOrder_81 (Nat.le_of_ble_eq_true rfl) (Nat.le_of_ble_eq_true rfl) rfl (by first | exact Or.inl rfl | exact Or.inr rfl | exact zb_01 _ | assumption) ?_
      exact ⟨by rw [hR, zb_f (by simp)] <;> rfl, rfl, rfl, by rw [hR]; exact ⟨h_0.tp hV9.1, PRS_f hV9.2 (by simp), h_2.eq hV9.1 (by omega), h_4⟩⟩
    · obtain ⟨f, hf⟩ : ∃ f, 4 - t = f + 1 := ⟨4 - t - 1, by omega⟩
      have hf2 : 4 - (t + 1) = f := by omega
      refine z_aload_n dX8_readOrder_7 rfl ?_
      refine z_callV0i dX8_readOrder_8 kX8_columnHere lX8_75 (by first | assumption | exact And.left (by assumption)) rfl (s_clm hs0 h0) (Nat.le_of_ble_eq_true rfl) (Nat.le_of_ble_eq_true rfl) ⟨Nat.le_of_ble_eq_true rfl, Nat.le_of_ble_eq_true rfl⟩ ?_
      refine z_istore_n dX8_readOrder_11 (Nat.le_of_ble_eq_true rfl) rfl ?_
      refine z_iload_n dX8_readOrder_12 rfl ?_
      refine z_iconst (v := (-1)) dX8_readOrder_13 rfl ?_
      refine z_icmp_ne (tgt := 23) dX8_readOrder_14 (by decide) (fun c_14 => ?_) (fun c_14 => ?_)
      · obtain ⟨c, hc⟩ := Option.ne_none_iff_exists'.mp (fun q => c_14 ((clm_m1 b p).mpr q))
        have hc2 := clm_some hc
        rw [hc, show vv (some c) = nI c from rfl]
        have hpl := s_placeOf (D := D) (z0 := z0) (nx := nx) hse h_2 (c := c) (by omega)
        refine z_aload_n dX8_readOrder_23 rfl ?_
        refine z_iload_n dX8_readOrder_24 rfl ?_
        refine z_callV1i dX8_readOrder_25 kX4_placeOf lX8_108 (by first | assumption | exact And.left (by assumption)) rfl hpl (Nat.le_of_ble_eq_true rfl) (Nat.le_of_ble_eq_true rfl) ⟨Nat.le_of_ble_eq_true rfl, Nat.le_of_ble_eq_true rfl⟩ ?_
        refine z_iconst (v := (-1)) dX8_readOrder_28 rfl ?_
        refine z_icmp_eq (tgt := 38) dX8_readOrder_29 (by decide) (fun c_29 => ?_) (fun c_29 => ?_)
        · have hnp : ¬ po o c < o.length := fun q => by rw [if_pos q] at c_29; exact nI_ne_m1 (by omega) c_29
          have hlt3 : o.length < 3 := Nat.lt_of_not_le (fun q => absurd (po_full h_4 (by omega) h_2.2.2.2.1 hc2.1) hnp)
          refine z_aload_n dX8_readOrder_38 rfl ?_
          refine z_aload_n dX8_readOrder_39 rfl ?_
          refine z_getIe dX8_readOrder_40 fX8_99 (by first | assumption | exact And.left (by assumption)) rfl h0.1.2.2.1 ?_
          refine z_iconst (v := nI 1) dX8_readOrder_43 rfl ?_
          refine z_addN dX8_readOrder_44 ?_
          refine z_callV1w dX8_readOrder_45 kX8_goTo lX8_114 (by first | assumption | exact And.left (by assumption)) rfl (s_goTo hs0 h0 (by omega)) (Nat.le_of_ble_eq_true rfl) (Nat.le_of_ble_eq_true rfl) ⟨Nat.le_of_ble_eq_true rfl, Nat.le_of_ble_eq_true rfl⟩ ?_
          intro V2 hV2
          obtain ⟨e2, h0⟩ := hV2
          have gp := h0.2.1
          have gl := h0.2.2.1
          have o2 := h_2.eq e2 (by omega)
          refine z_aload_n dX8_readOrder_48 rfl ?_
          refine z_iload_n dX8_readOrder_49 rfl ?_
          refine z_aload_n dX8_readOrder_50 rfl ?_
          refine z_ldcS (i := 1) dX8_readOrder_51 (by decide) rfl rfl ?_
          refine z_callV1q dX8_readOrder_53 kX8_takeWord lX8_33 (by first | assumption | exact And.left (by assumption)) rfl (s_word hs0 h0 (i := 1) (by decide)) (Nat.le_of_ble_eq_true rfl) (Nat.le_of_ble_eq_true rfl) ⟨Nat.le_of_ble_eq_true rfl, Nat.le_of_ble_eq_true rfl⟩ ?_
          intro V3 hV3
          obtain ⟨e3, h0⟩ := hV3
          have gp := h0.2.1
          have gl := h0.2.2.1
          have o3 := o2.eq e3 (by omega)
          rw [zb_pb (isW b (sk b (p + 1)) 1)]
          refine z_callV2w dX8_readOrder_56 kX4_append lX8_119 (by first | assumption | exact And.left (by assumption)) rfl (s_ORapp hse o3 hlt3 hc2.1) (Nat.le_of_ble_eq_true rfl) (Nat.le_of_ble_eq_true rfl) ⟨Nat.le_of_ble_eq_true rfl, Nat.le_of_ble_eq_true rfl⟩ ?_
          intro V4 hV4
          obtain ⟨e4, o4⟩ := hV4
          have h0 : TA V4 a b (pd b p) fl fk fp := h0.eq e4 (by omega)
          have gp := h0.2.1
          have n4 := ndc_snoc (x := (c, pb (isW b (sk b (p + 1)) 1))) h_4 (po_no hnp)
          have hl4 : (o ++ [(c, pb (isW b (sk b (p + 1)) 1))]).length = t + 1 := by simp; omega
          have f4 := ((h_0.tp e2).tp e3).en e4 (by omega) (by omega)
          refine z_aload_n dX8_readOrder_59 rfl ?_
          refine z_bipush (v := nI 44) dX8_readOrder_60 rfl ?_
          refine z_callV1q dX8_readOrder_62 kX8_takeSign lX8_123 (by first | assumption | exact And.left (by assumption)) rfl (s_sign hs0 h0 (sg := 44) (by decide)) (Nat.le_of_ble_eq_true rfl) (Nat.le_of_ble_eq_true rfl) ⟨Nat.le_of_ble_eq_true rfl, Nat.le_of_ble_eq_true rfl⟩ ?_
          intro V5 hV5
          refine z_if_neB (tgt := 70) dX8_readOrder_65 (by decide) (fun c_65 => ?_) (fun c_65 => ?_)
          · obtain ⟨e5, h0⟩ := hV5
            rw [if_pos c_65] at h0
            have eN : rO b (4 - t) p o = rO b (4 - (t + 1)) (sk b (pd b p + 1)) (o ++ [(c, pb (isW b (sk b (p + 1)) 1))]) := by
              rw [hf, hf2, rO, hc]
              simp only
              rw [if_neg hnp, if_pos (show cma b (pd b p) from c_65)]
            refine z_incN dX8_readOrder_70 rfl rfl ?_
            refine z_goto (tgt := 2) dX8_readOrder_73 (by decide) ?_
            refine z_fg 3 ?_
            rw [eN]
            exact ih _ (by omega) (t + 1) _ _ V5 rfl (f4.tp e5) h0 (o4.eq e5 (by omega)) ⟨hl4, by omega⟩ n4
          · obtain ⟨e5, h0⟩ := hV5
            rw [if_neg c_65] at h0
            have hR : rO b (4 - t) p o = (0, pd b p, o ++ [(c, pb (isW b (sk b (p + 1)) 1))]) := by
              rw [hf, rO, hc]
              simp only
              rw [if_neg hnp, if_neg (show ¬ cma b (pd b p) from c_65)]
            refine z_iconst (v := nI 1) dX8_readOrder_68 rfl ?_
            refine z_zreturn dX8_readOrder_69 (Nat.le_of_ble_eq_true rfl) (Nat.le_of_ble_eq_true rfl) rfl (by first | exact Or.inl rfl | exact Or.inr rfl | exact zb_01 _ | assumption) ?_
            exact ⟨by rw [hR, zb_t rfl] <;> rfl, rfl, rfl, by rw [hR]; exact ⟨f4.tp e5, PRS_0 h0 rfl, o4.eq e5 (by omega), n4⟩⟩
        · have hR : rO b (4 - t) p o = (3, p, o) := by
            rw [hf, rO, hc]
            simp only
            rw [if_pos]
            exact Classical.byContradiction (fun q => c_29 (if_neg q))
          refine z_aload_n dX8_readOrder_32 rfl ?_
          refine z_iconst (v := nI 3) dX8_readOrder_33 rfl ?_
          refine z_callV1q dX8_readOrder_34 kX8_refuse lX8_37 (by first | assumption | exact And.left (by assumption)) rfl (s_refuse hs0 h0) (Nat.le_of_ble_eq_true rfl) (Nat.le_of_ble_eq_true rfl) ⟨Nat.le_of_ble_eq_true rfl, Nat.le_of_ble_eq_true rfl⟩ ?_
          intro V9 hV9
          refine z_zreturn dX8_readOrder_37 (Nat.le_of_ble_eq_true rfl) (Nat.le_of_ble_eq_true rfl) rfl (by first | exact Or.inl rfl | exact Or.inr rfl | exact zb_01 _ | assumption) ?_
          exact ⟨by rw [hR, zb_f (by simp)] <;> rfl, rfl, rfl, by rw [hR]; exact ⟨h_0.tp hV9.1, PRS_f hV9.2 (by simp), h_2.eq hV9.1 (by omega), h_4⟩⟩
      · have hn := (clm_m1 b p).mp c_14
        have hR : rO b (4 - t) p o = (1, p, o) := by rw [hf, rO, hn]
        refine z_aload_n dX8_readOrder_17 rfl ?_
        refine z_iconst (v := nI 1) dX8_readOrder_18 rfl ?_
        refine z_callV1q dX8_readOrder_19 kX8_refuse lX8_37 (by first | assumption | exact And.left (by assumption)) rfl (s_refuse hs0 h0) (Nat.le_of_ble_eq_true rfl) (Nat.le_of_ble_eq_true rfl) ⟨Nat.le_of_ble_eq_true rfl, Nat.le_of_ble_eq_true rfl⟩ ?_
        intro V9 hV9
        refine z_zreturn dX8_readOrder_22 (Nat.le_of_ble_eq_true rfl) (Nat.le_of_ble_eq_true rfl) rfl (by first | exact Or.inl rfl | exact Or.inr rfl | exact zb_01 _ | assumption) ?_
        exact ⟨by rw [hR, zb_f (by simp)] <;> rfl, rfl, rfl, by rw [hR]; exact ⟨h_0.tp hV9.1, PRS_f hV9.2 (by simp), h_2.eq hV9.1 (by omega), h_4⟩⟩

set_option maxHeartbeats 4000000 in
set_option maxRecDepth 100000 in
theorem s_rO {D : zD} {z0 nx : Nat} {L : zL} {V : zV} {a p e : Nat} {b : List Nat} {fl fk fp : Int32} (hs : sTp L a) (hse : sOr L e) (hae : e + 3 ≤ a ∨ a + 2 ≤ e) (h : TA V a b p fl fk fp) (ho : OR V e []) : Sp D z0 7 0 0 mX8_readOrder [.ref a, .ref e] L V nx (zq (some (.int (zb ((rO b (4) p []).1 = 0)))) L nx (fun V' => fr V V' a e (e + 3) ∧ PRS V' a b (rO b (4) p []).1 (rO b (4) p []).2.1 fl fk fp ∧ OR V' e (rO b (4) p []).2.2 ∧ ndc (rO b (4) p []).2.2)) := by
  refine Sp.of 2 (by decide) rfl rfl (Nat.le_of_ble_eq_true rfl) ?_
  refine z_iconst (v := nI 0) dX8_readOrder_0 rfl ?_
  refine z_istore_n dX8_readOrder_1 (Nat.le_of_ble_eq_true rfl) rfl ?_
  exact lp_rO hs hse hae _ 0 p [] V rfl fr.rf h ho ⟨rfl, by omega⟩ (fun j k _ hk => absurd hk (by simp))

noncomputable def rCs (b : List Nat) : Nat → Nat → List Cd → Nat × Nat × List Cd
  | 0, p, cs => (1, p, cs)
  | f + 1, p, cs => match clm b p with
    | none => (1, p, cs)
    | some _ => if cs.length = 4 then (4, p, cs) else if (rC b p).1 = 0 then @ite _ (isW b (rC b p).2.1 5) (Classical.propDecidable _) (rCs b f (sk b ((rC b p).2.1 + zln 5)) (cs ++ [(rC b p).2.2])) (0, (rC b p).2.1, cs ++ [(rC b p).2.2]) else ((rC b p).1, (rC b p).2.1, cs)
theorem ck_snoc {q : List Cd} {x : Cd} {k : Nat} (hk : k < q.length + 1) : ck (q ++ [x]) k = if k < q.length then ck q k else x := by
  simp only [ck, List.getD_eq_getElem?_getD]
  split
  · rename_i h; rw [List.getElem?_append_left h]
  · rename_i h; rw [List.getElem?_append_right (by omega), show k - q.length = 0 by omega] <;> rfl

set_option maxHeartbeats 4000000 in
set_option maxRecDepth 100000 in
theorem lp_rCs {D : zD} {z0 nx : Nat} {L : zL} {V : zV} {a e : Nat} {b : List Nat} {fl fk fp : Int32} (hs : sTp L a) (hse : sQu L e) (hae : e + 9 ≤ a ∨ a + 2 ≤ e) : ∀ (fu : Nat) (t : Nat) (p : Nat) (cs : List Cd) (V1 : zV), 5 - t = fu → fr V V1 a e (e + 9) → TA V1 a b p fl fk fp → QU V1 e (cs, []) → (cs.length = t ∧ t ≤ 4) → Z D z0 7 0 0 mX8_readConditions 0 0 2 [some (.ref a), some (.ref e), some (.int (nI t))] [] L V1 nx (zq (some (.int (zb ((rCs b (5 - t) p cs).1 = 0)))) L nx (fun V' => fr V V' a e (e + 9) ∧ PRS V' a b (rCs b (5 - t) p cs).1 (rCs b (5 - t) p cs).2.1 fl fk fp ∧ QU V' e ((rCs b (5 - t) p cs).2.2, []))) := by
  intro fu
  induction fu using Nat.strongRecOn with
  | ind fu ih =>
    intro t p cs V1 h_fu h_0 h_1 h_2 h_3
    have hs0 := hs
    have h0 := h_1
    obtain ⟨h1, h2⟩ := hs
    have gp := h0.2.1
    have gl := h0.2.2.1
    obtain ⟨hl, h5⟩ := h_3
    obtain ⟨k1, k2, k3, k4⟩ := hse
    obtain ⟨f, hf⟩ : ∃ f, 5 - t = f + 1 := ⟨5 - t - 1, by omega⟩
    refine z_iload_n dX8_readConditions_2 rfl ?_
    refine z_iconst (v := nI 4) dX8_readConditions_3 rfl ?_
    refine z_icmp_gtN (tgt := 74) dX8_readConditions_4 (by decide) (by omega) (by omega) (fun c_4 => ?_) (fun c_4 => ?_)
    · exact absurd c_4 (by omega)
    · refine z_aload_n dX8_readConditions_7 rfl ?_
      refine z_callV0i dX8_readConditions_8 kX8_columnHere lX8_75 (by first | assumption | exact And.left (by assumption)) rfl (s_clm hs0 h0) (Nat.le_of_ble_eq_true rfl) (Nat.le_of_ble_eq_true rfl) ⟨Nat.le_of_ble_eq_true rfl, Nat.le_of_ble_eq_true rfl⟩ ?_
      refine z_iconst (v := (-1)) dX8_readConditions_11 rfl ?_
      refine z_icmp_ne (tgt := 21) dX8_readConditions_12 (by decide) (fun c_12 => ?_) (fun c_12 => ?_)
      · obtain ⟨c, hc⟩ := Option.ne_none_iff_exists'.mp (fun q => c_12 ((clm_m1 b p).mpr q))
        have hc2 := clm_some hc
        refine z_iload_n dX8_readConditions_21 rfl ?_
        refine z_iconst (v := nI 4) dX8_readConditions_22 rfl ?_
        refine z_icmp_neN (tgt := 32) dX8_readConditions_23 (by decide) (by omega) (by omega) (fun c_23 => ?_) (fun c_23 => ?_)
        · have q1 := c4_at e t (by omega)
          have p1 := k4 t (by omega)
          have hf2 : 5 - (t + 1) = f := by omega
          refine z_aload_n dX8_readConditions_32 rfl ?_
          refine z_aload_n dX8_readConditions_33 rfl ?_
          refine z_getR dX8_readConditions_34 fX8_127 (by first | assumption | exact And.left (by assumption)) rfl ?_
          refine z_iload_n dX8_readConditions_37 rfl ?_
          refine z_aaldN dX8_readConditions_38 (by first | assumption | exact And.left (by assumption)) (fun _ => rfl) (by exact Nat.le_of_ble_eq_true rfl) (by assumption) ?_
          refine z_callV1q dX8_readConditions_39 kX8_readCondition lX8_62 (by first | assumption | exact And.left (by assumption)) rfl (s_rC hs0 h0 p1 (by omega)) (Nat.le_of_ble_eq_true rfl) (Nat.le_of_ble_eq_true rfl) ⟨Nat.le_of_ble_eq_true rfl, Nat.le_of_ble_eq_true rfl⟩ ?_
          intro V2 hV2
          obtain ⟨f2, a2, b2, c2⟩ := hV2
          refine z_if_neB (tgt := 47) dX8_readConditions_42 (by decide) (fun c_42 => ?_) (fun c_42 => ?_)
          · have h0 := PRS_i a2 c_42
            have gp := h0.2.1
            have cc := c2 c_42
            have q2 : QU V2 e (cs, []) := by
              obtain ⟨r1, r2, r3, r4⟩ := h_2
              exact ⟨by rw [f2 e (by omega) (by omega)]; exact r1, r2, fun k hk => by have := r3 k hk; have hk2 : k < cs.length := hk; unfold CO at this ⊢; rw [f2 (e + 5 + k) (by omega) (by omega)]; exact this, by unfold OR at r4 ⊢; rw [f2 (e + 2) (by omega) (by omega), f2 (e + 2 + 1) (by omega) (by omega), f2 (e + 2 + 2) (by omega) (by omega)]; exact r4⟩
            have q3 := q2.1
            refine z_aload_n dX8_readConditions_47 rfl ?_
            refine z_dup dX8_readConditions_48 rfl ?_
            refine z_getIe dX8_readConditions_49 fX8_131 (by first | assumption | exact And.left (by assumption)) rfl q3 ?_
            refine z_iconst (v := nI 1) dX8_readConditions_52 rfl ?_
            refine z_addN dX8_readConditions_53 ?_
            refine z_putI dX8_readConditions_54 fX8_131 (by first | assumption | exact And.left (by assumption)) rfl ?_
            have e3 : zEq V2 (zup V2 e 1 (nI (cs.length + 1))) e (e + 1) := zEq.rf.up (by omega) (by omega)
            have q4 : QU (zup V2 e 1 (nI (cs.length + 1))) e (cs ++ [(rC b p).2.2], []) := by
              obtain ⟨r1, r2, r3, r4⟩ := q2
              refine ⟨by simp [zup], by simp; omega, fun k hk => ?_, r4.eq e3 (by omega)⟩
              simp at hk
              rw [ck_snoc hk]
              split
              · rename_i q; exact (r3 k q).eq e3 (by omega)
              · rename_i q
                rw [show k = t by omega]
                exact cc.eq e3 (by omega)
            have h0 := h0.eq e3 (by omega)
            have hl4 : (cs ++ [(rC b p).2.2]).length = t + 1 := by simp; omega
            refine z_aload_n dX8_readConditions_57 rfl ?_
            refine z_ldcS (i := 5) dX8_readConditions_58 (by decide) rfl rfl ?_
            refine z_callV1q dX8_readConditions_60 kX8_takeWord lX8_33 (by first | assumption | exact And.left (by assumption)) rfl (s_word hs0 h0 (i := 5) (by decide)) (Nat.le_of_ble_eq_true rfl) (Nat.le_of_ble_eq_true rfl) ⟨Nat.le_of_ble_eq_true rfl, Nat.le_of_ble_eq_true rfl⟩ ?_
            intro V5 hV5
            obtain ⟨e5, h0⟩ := hV5
            have f5 := ((h_0.trans f2 (by omega) (by omega)).en e3 (by omega) (by omega)).tp e5
            refine z_if_neB (tgt := 68) dX8_readConditions_63 (by decide) (fun c_63 => ?_) (fun c_63 => ?_)
            · rw [if_pos c_63] at h0
              have eN : rCs b (5 - t) p cs = rCs b (5 - (t + 1)) (sk b ((rC b p).2.1 + zln 5)) (cs ++ [(rC b p).2.2]) := by rw [hf, hf2, rCs, hc]; simp only; rw [if_neg (by omega), if_pos c_42, if_pos c_63]
              refine z_incN dX8_readConditions_68 rfl rfl ?_
              refine z_goto (tgt := 2) dX8_readConditions_71 (by decide) ?_
              rw [eN]
              exact ih _ (by omega) (t + 1) _ _ V5 rfl f5 h0 (q4.eq e5 (by omega)) ⟨hl4, by omega⟩
            · rw [if_neg c_63] at h0
              have hR : rCs b (5 - t) p cs = (0, (rC b p).2.1, cs ++ [(rC b p).2.2]) := by rw [hf, rCs, hc]; simp only; rw [if_neg (by omega), if_pos c_42, if_neg c_63]
              refine z_iconst (v := nI 1) dX8_readConditions_66 rfl ?_
              refine z_zreturn dX8_readConditions_67 (Nat.le_of_ble_eq_true rfl) (Nat.le_of_ble_eq_true rfl) rfl (by first | exact Or.inl rfl | exact Or.inr rfl | exact zb_01 _ | assumption) ?_
              exact ⟨by rw [hR, zb_t rfl] <;> rfl, rfl, rfl, by rw [hR]; exact ⟨f5, PRS_0 h0 rfl, q4.eq e5 (by omega)⟩⟩
          · have hR : rCs b (5 - t) p cs = ((rC b p).1, (rC b p).2.1, cs) := by rw [hf, rCs, hc]; simp only; rw [if_neg (by omega), if_neg c_42]
            refine z_iconst (v := nI 0) dX8_readConditions_45 rfl ?_
            refine z_zreturn dX8_readConditions_46 (Nat.le_of_ble_eq_true rfl) (Nat.le_of_ble_eq_true rfl) rfl (by first | exact Or.inl rfl | exact Or.inr rfl | exact zb_01 _ | assumption) ?_
            exact ⟨by rw [hR, zb_f c_42] <;> rfl, rfl, rfl, by rw [hR]; exact ⟨h_0.trans f2 (by omega) (by omega), a2, h_2.eq (b2 c_42) (by omega)⟩⟩
        · have hR : rCs b (5 - t) p cs = (4, p, cs) := by rw [hf, rCs, hc]; simp only; rw [if_pos (by omega)]
          refine z_aload_n dX8_readConditions_26 rfl ?_
          refine z_iconst (v := nI 4) dX8_readConditions_27 rfl ?_
          refine z_callV1q dX8_readConditions_28 kX8_refuse lX8_37 (by first | assumption | exact And.left (by assumption)) rfl (s_refuse hs0 h0) (Nat.le_of_ble_eq_true rfl) (Nat.le_of_ble_eq_true rfl) ⟨Nat.le_of_ble_eq_true rfl, Nat.le_of_ble_eq_true rfl⟩ ?_
          intro V9 hV9
          refine z_zreturn dX8_readConditions_31 (Nat.le_of_ble_eq_true rfl) (Nat.le_of_ble_eq_true rfl) rfl (by first | exact Or.inl rfl | exact Or.inr rfl | exact zb_01 _ | assumption) ?_
          exact ⟨by rw [hR, zb_f (by simp)] <;> rfl, rfl, rfl, by rw [hR]; exact ⟨h_0.tp hV9.1, PRS_f hV9.2 (by simp), h_2.eq hV9.1 (by omega)⟩⟩
      · have hn := (clm_m1 b p).mp c_12
        have hR : rCs b (5 - t) p cs = (1, p, cs) := by rw [hf, rCs, hn]
        refine z_aload_n dX8_readConditions_15 rfl ?_
        refine z_iconst (v := nI 1) dX8_readConditions_16 rfl ?_
        refine z_callV1q dX8_readConditions_17 kX8_refuse lX8_37 (by first | assumption | exact And.left (by assumption)) rfl (s_refuse hs0 h0) (Nat.le_of_ble_eq_true rfl) (Nat.le_of_ble_eq_true rfl) ⟨Nat.le_of_ble_eq_true rfl, Nat.le_of_ble_eq_true rfl⟩ ?_
        intro V9 hV9
        refine z_zreturn dX8_readConditions_20 (Nat.le_of_ble_eq_true rfl) (Nat.le_of_ble_eq_true rfl) rfl (by first | exact Or.inl rfl | exact Or.inr rfl | exact zb_01 _ | assumption) ?_
        exact ⟨by rw [hR, zb_f (by simp)] <;> rfl, rfl, rfl, by rw [hR]; exact ⟨h_0.tp hV9.1, PRS_f hV9.2 (by simp), h_2.eq hV9.1 (by omega)⟩⟩

set_option maxHeartbeats 4000000 in
set_option maxRecDepth 100000 in
theorem s_rCs {D : zD} {z0 nx : Nat} {L : zL} {V : zV} {a p e : Nat} {b : List Nat} {fl fk fp : Int32} (hs : sTp L a) (hse : sQu L e) (hae : e + 9 ≤ a ∨ a + 2 ≤ e) (h : TA V a b p fl fk fp) (ho : QU V e ([], [])) : Sp D z0 7 0 0 mX8_readConditions [.ref a, .ref e] L V nx (zq (some (.int (zb ((rCs b (5) p []).1 = 0)))) L nx (fun V' => fr V V' a e (e + 9) ∧ PRS V' a b (rCs b (5) p []).1 (rCs b (5) p []).2.1 fl fk fp ∧ QU V' e ((rCs b (5) p []).2.2, []))) := by
  refine Sp.of 1 (by decide) rfl rfl (Nat.le_of_ble_eq_true rfl) ?_
  refine z_iconst (v := nI 0) dX8_readConditions_0 rfl ?_
  refine z_istore_n dX8_readConditions_1 (Nat.le_of_ble_eq_true rfl) rfl ?_
  exact lp_rCs hs hse hae _ 0 p [] V rfl fr.rf h ho ⟨rfl, by omega⟩

