/-! the reference: the plan of a query -/
def mt (q : List Cd) (x : Cd) (j : Nat) : Prop := (ck q j).1 = x.1 ∧ (ck q j).2.1 = x.2.1 ∧ (ck q j).2.2 = x.2.2
def wk1 (q : List Cd) (d : Df) (j : Nat) : Prop := ¬ d.2.2.1 = true ∨ ∃ k, k < j ∧ mt q d.2.2.2 k
theorem wk1_s {q : List Cd} {d : Df} {j : Nat} : wk1 q d (j + 1) ↔ (wk1 q d j ∨ mt q d.2.2.2 j) := by
  unfold wk1
  constructor
  · rintro (h | ⟨k, h1, h2⟩)
    · exact Or.inl (Or.inl h)
    · by_cases e : k = j
      · rw [e] at h2; exact Or.inr h2
      · exact Or.inl (Or.inr ⟨k, by omega, h2⟩)
  · rintro ((h | ⟨k, h1, h2⟩) | h)
    · exact Or.inl h
    · exact Or.inr ⟨k, by omega, h2⟩
    · exact Or.inr ⟨j, by omega, h⟩
theorem cn_ex {p : Nat → Prop} : ∀ {n : Nat}, 0 < cn p n → ∃ k, k < n ∧ p k
  | 0, h => absurd h (by simp [cn])
  | n + 1, h => by
    by_cases c : p n
    · exact ⟨n, by omega, c⟩
    · rw [cn_n c] at h
      obtain ⟨k, h1, h2⟩ := cn_ex h
      exact ⟨k, by omega, h2⟩
theorem stz_pos {q : List Cd} {o : List (Nat × Bool)} (hl : 1 ≤ o.length) (hq : ∀ k, k < q.length → (ck q k).2.1 < 4) : 0 < stz q o ↔ (hc q (o.getD 0 (0, false)).1 0 0 ∨ hc q (o.getD 0 (0, false)).1 2 3) := by
  have hp0 : po o (o.getD 0 (0, false)).1 = 0 := fs_eq (fun k hk => absurd hk (by omega)) (by omega) (fun _ => rfl)
  constructor
  · intro h
    obtain ⟨k, h1, h2, h3, h4⟩ := cn_ex h
    have hk := hq k h1
    by_cases e : po o (ck q k).1 = 0
    · have hc1 := po_yes h3
      rw [e] at hc1
      by_cases e2 : (ck q k).2.1 = 0
      · exact Or.inl ⟨k, h1, hc1.symm, by omega, by omega⟩
      · exact Or.inr ⟨k, h1, hc1.symm, by omega, by omega⟩
    · have hs : ¬ stc q o = 0 := by omega
      have ha : asL q (o.getD 0 (0, false)).1 := Classical.byContradiction (fun z => hs (stc_a (fun j hj => absurd hj (by omega)) (by omega) (fun _ => z)))
      exact Or.inl (asL_hc.mp ha)
  · intro h
    have h2 : ∃ k, k < q.length ∧ inS o (ck q k) (stc q o + 1) := by
      rcases h with ⟨k, h1, h2, h3, h4⟩ | ⟨k, h1, h2, h3, h4⟩
      · exact ⟨k, h1, by omega, by rw [h2, hp0]; omega, by rw [h2, hp0]; omega⟩
      · exact ⟨k, h1, by omega, by rw [h2, hp0]; omega, by rw [h2, hp0]; omega⟩
    obtain ⟨k, h3, h4⟩ := h2
    have := cn_pos (p := fun k => inS o (ck q k) (stc q o + 1)) h3 h4
    unfold stz
    omega
theorem wk1_a {q : List Cd} {d : Df} : wk1 q d q.length ↔ (d.2.2.1 = true → ask q d.2.2.2) := by
  unfold wk1 ask mt
  constructor
  · rintro (h | h) z
    · exact absurd z h
    · exact h
  · intro h
    by_cases c : d.2.2.1 = true
    · exact Or.inr (h c)
    · exact Or.inl c

set_option maxHeartbeats 4000000 in
set_option maxRecDepth 100000 in
theorem lp_srv {D : zD} {z0 nx : Nat} {L : zL} {V : zV} {m i : Nat} {x : Ix} {q : Qu} (hm : sM L m) (hq : MqS V m q) (hi : i < 2) (hX : MX (V (m + 1)) (2140 + 1600 * i) x) {wv : Int32} (hwv : x.2.1.2.2.1 = true → wv = nI x.2.1.2.2.2.1) {P : zP} (K : Z D z0 4 0 0 mX12_doesServe 0 0 114 [some (.ref m), some (.int (nI i)), some (.int wv), some (.int (zb (wk1 q.1 x.2.1 q.1.length))), none] [] L V nx P) : ∀ (fu : Nat) (j : Nat) (y : Int32), 4 - j = fu → j ≤ q.1.length → y = zb (wk1 q.1 x.2.1 j) → Z D z0 4 0 0 mX12_doesServe 0 0 34 [some (.ref m), some (.int (nI i)), some (.int wv), some (.int y), some (.int (nI j))] [] L V nx (P) := by
  intro fu
  induction fu using Nat.strongRecOn with
  | ind fu ih =>
    intro j y h_fu h_0 h_1
    have hm0 := hm
    obtain ⟨a0, a1, a2, a3, a4, a5, a6, a7, a8, a9, a10, a11, a12, a13, a14, a15⟩ := hm
    obtain ⟨q1, q2, q3, q4, q5, q6⟩ := id hq
    obtain ⟨x1, x2, x3, x4, x5, x6⟩ := id hX
    have n1 := x1.1
    have hs6 := x6.1
    have hb := x6.2.2.2.2.2.1
    obtain ⟨d1, d2, d3, d4, d5, d6⟩ := id x2
    obtain ⟨b1, b2, b3, b4, b5⟩ := id hb
    subst h_1
    refine z_iload dX12_doesServe_34 rfl ?_
    refine z_aload_n dX12_doesServe_36 rfl ?_
    refine z_getIe dX12_doesServe_37 fX12_53 (by first | assumption | exact And.left (by assumption)) rfl q1 ?_
    refine z_icmp_geN (tgt := 114) dX12_doesServe_40 (by decide) (by omega) (by omega) (fun c_40 => ?_) (fun c_40 => ?_)
    · have ej : j = q.1.length := by omega
      subst ej
      refine z_fg 4 ?_
      exact K
    · obtain ⟨u1, u2, u3, u4, u5, u6⟩ := q3 j (by omega)
      refine z_iload_n dX12_doesServe_43 rfl ?_
      refine z_if_neB (tgt := 102) dX12_doesServe_44 (by decide) (fun c_44 => ?_) (fun c_44 => ?_)
      · have hY : wk1 q.1 x.2.1 (j + 1) := wk1_s.mpr (Or.inl c_44)
        refine z_iconst (v := nI 1) dX12_doesServe_102 rfl ?_
        refine z_goto (tgt := 107) dX12_doesServe_103 (by decide) ?_
        refine z_istore_n dX12_doesServe_107 (Nat.le_of_ble_eq_true rfl) rfl ?_
        refine z_incN dX12_doesServe_108 rfl rfl ?_
        refine z_goto (tgt := 34) dX12_doesServe_111 (by decide) ?_
        first
          | exact ih _ (by omega) (j + 1) _ rfl (by omega) (zb_t hY).symm
          | exact ih _ (by omega) (j + 1) _ rfl (by omega) (zb_f hN).symm
      · have hpt : x.2.1.2.2.1 = true := Classical.byContradiction (fun z => c_44 (Or.inl z))
        have hw9 := hwv hpt
        subst hw9
        refine z_aload_n dX12_doesServe_47 rfl ?_
        refine z_getR dX12_doesServe_48 fX12_44 (by first | assumption | exact And.left (by assumption)) rfl ?_
        refine z_iconst (v := nI 3) dX12_doesServe_51 rfl ?_
        refine z_iload dX12_doesServe_52 rfl ?_
        refine z_mulN dX12_doesServe_54 ?_
        refine z_ialdN dX12_doesServe_55 (by first | assumption | exact And.left (by assumption)) (by omega) (by decide) u1 ?_
        refine z_iload_n dX12_doesServe_56 rfl ?_
        refine z_icmp_neN (tgt := 106) dX12_doesServe_57 (by decide) (by omega) (by omega) (fun c_57 => ?_) (fun c_57 => ?_)
        · have hN : ¬ wk1 q.1 x.2.1 (j + 1) := fun z => (wk1_s.mp z).elim c_44 (fun y => c_57 y.1)
          refine z_iconst (v := nI 0) dX12_doesServe_106 rfl ?_
          refine z_istore_n dX12_doesServe_107 (Nat.le_of_ble_eq_true rfl) rfl ?_
          refine z_incN dX12_doesServe_108 rfl rfl ?_
          refine z_goto (tgt := 34) dX12_doesServe_111 (by decide) ?_
          first
            | exact ih _ (by omega) (j + 1) _ rfl (by omega) (zb_t hY).symm
            | exact ih _ (by omega) (j + 1) _ rfl (by omega) (zb_f hN).symm
        · refine z_aload_n dX12_doesServe_60 rfl ?_
          refine z_getR dX12_doesServe_61 fX12_44 (by first | assumption | exact And.left (by assumption)) rfl ?_
          refine z_iconst (v := nI 3) dX12_doesServe_64 rfl ?_
          refine z_iload dX12_doesServe_65 rfl ?_
          refine z_mulN dX12_doesServe_67 ?_
          refine z_iconst (v := nI 1) dX12_doesServe_68 rfl ?_
          refine z_addN dX12_doesServe_69 ?_
          refine z_ialdN dX12_doesServe_70 (by first | assumption | exact And.left (by assumption)) (by omega) (by decide) u2 ?_
          refine z_aload_n dX12_doesServe_71 rfl ?_
          refine z_iload_n dX12_doesServe_72 rfl ?_
          refine z_bipush (v := nI 10) dX12_doesServe_73 rfl ?_
          refine z_callV2i dX12_doesServe_75 kX12_ofIndex lX12_104 (by first | assumption | exact And.left (by assumption)) rfl (s_ofIx hm0 hi (by omega) d5) (Nat.le_of_ble_eq_true rfl) (Nat.le_of_ble_eq_true rfl) ⟨Nat.le_of_ble_eq_true rfl, Nat.le_of_ble_eq_true rfl⟩ ?_
          refine z_icmp_neN (tgt := 106) dX12_doesServe_78 (by decide) (by omega) (by omega) (fun c_78 => ?_) (fun c_78 => ?_)
          · have hN : ¬ wk1 q.1 x.2.1 (j + 1) := fun z => (wk1_s.mp z).elim c_44 (fun y => c_78 y.2.1)
            refine z_iconst (v := nI 0) dX12_doesServe_106 rfl ?_
            refine z_istore_n dX12_doesServe_107 (Nat.le_of_ble_eq_true rfl) rfl ?_
            refine z_incN dX12_doesServe_108 rfl rfl ?_
            refine z_goto (tgt := 34) dX12_doesServe_111 (by decide) ?_
            first
              | exact ih _ (by omega) (j + 1) _ rfl (by omega) (zb_t hY).symm
              | exact ih _ (by omega) (j + 1) _ rfl (by omega) (zb_f hN).symm
          · refine z_aload_n dX12_doesServe_81 rfl ?_
            refine z_getR dX12_doesServe_82 fX12_44 (by first | assumption | exact And.left (by assumption)) rfl ?_
            refine z_iconst (v := nI 3) dX12_doesServe_85 rfl ?_
            refine z_iload dX12_doesServe_86 rfl ?_
            refine z_mulN dX12_doesServe_88 ?_
            refine z_iconst (v := nI 2) dX12_doesServe_89 rfl ?_
            refine z_addN dX12_doesServe_90 ?_
            refine z_ialdN dX12_doesServe_91 (by first | assumption | exact And.left (by assumption)) (by omega) (by decide) u3 ?_
            refine z_aload_n dX12_doesServe_92 rfl ?_
            refine z_iload_n dX12_doesServe_93 rfl ?_
            refine z_bipush (v := nI 11) dX12_doesServe_94 rfl ?_
            refine z_callV2i dX12_doesServe_96 kX12_ofIndex lX12_104 (by first | assumption | exact And.left (by assumption)) rfl (s_ofIx hm0 hi (by omega) d6) (Nat.le_of_ble_eq_true rfl) (Nat.le_of_ble_eq_true rfl) ⟨Nat.le_of_ble_eq_true rfl, Nat.le_of_ble_eq_true rfl⟩ ?_
            refine z_icmp_neN (tgt := 106) dX12_doesServe_99 (by decide) (by omega) (by omega) (fun c_99 => ?_) (fun c_99 => ?_)
            · have hN : ¬ wk1 q.1 x.2.1 (j + 1) := fun z => (wk1_s.mp z).elim c_44 (fun y => c_99 y.2.2)
              refine z_iconst (v := nI 0) dX12_doesServe_106 rfl ?_
              refine z_istore_n dX12_doesServe_107 (Nat.le_of_ble_eq_true rfl) rfl ?_
              refine z_incN dX12_doesServe_108 rfl rfl ?_
              refine z_goto (tgt := 34) dX12_doesServe_111 (by decide) ?_
              first
                | exact ih _ (by omega) (j + 1) _ rfl (by omega) (zb_t hY).symm
                | exact ih _ (by omega) (j + 1) _ rfl (by omega) (zb_f hN).symm
            · have hY : wk1 q.1 x.2.1 (j + 1) := wk1_s.mpr (Or.inr ⟨c_57, c_78, c_99⟩)
              refine z_iconst (v := nI 1) dX12_doesServe_102 rfl ?_
              refine z_goto (tgt := 107) dX12_doesServe_103 (by decide) ?_
              refine z_istore_n dX12_doesServe_107 (Nat.le_of_ble_eq_true rfl) rfl ?_
              refine z_incN dX12_doesServe_108 rfl rfl ?_
              refine z_goto (tgt := 34) dX12_doesServe_111 (by decide) ?_
              first
                | exact ih _ (by omega) (j + 1) _ rfl (by omega) (zb_t hY).symm
                | exact ih _ (by omega) (j + 1) _ rfl (by omega) (zb_f hN).symm

set_option maxHeartbeats 4000000 in
set_option maxRecDepth 100000 in
theorem lp_srv114 {D : zD} {z0 nx : Nat} {L : zL} {V : zV} {m i : Nat} {x : Ix} {q : Qu} (hm : sM L m) (hq : MqS V m q) (hi : i < 2) (hX : MX (V (m + 1)) (2140 + 1600 * i) x) {wv : Int32} (h4 : x.1.1 = 4) (hol : 1 ≤ x.2.1.1.length) : Z D z0 4 0 0 mX12_doesServe 0 0 114 [some (.ref m), some (.int (nI i)), some (.int wv), some (.int (zb (wk1 q.1 x.2.1 q.1.length))), none] [] L V nx (zi (zb (srv q.1 x)) L V nx) := by

  have hm0 := hm
  obtain ⟨a0, a1, a2, a3, a4, a5, a6, a7, a8, a9, a10, a11, a12, a13, a14, a15⟩ := hm
  obtain ⟨q1, q2, q3, q4, q5, q6⟩ := id hq
  obtain ⟨x1, x2, x3, x4, x5, x6⟩ := id hX
  have n1 := x1.1
  have hs6 := x6.1
  have hb := x6.2.2.2.2.2.1
  obtain ⟨d1, d2, d3, d4, d5, d6⟩ := id x2
  obtain ⟨b1, b2, b3, b4, b5⟩ := id hb
  have hc9 := b2 0 hol
  have hz := stz_pos (q := q.1) hol (fun k hk => (q3 k hk).2.2.2.2.1)
  refine z_iload_n dX12_doesServe_114 rfl ?_
  refine z_if_eqB (tgt := 152) dX12_doesServe_115 (by decide) (fun c_115 => ?_) (fun c_115 => ?_)
  · have hN : ¬ srv q.1 x := fun z => c_115 (wk1_a.mpr z.2.1)
    refine z_iconst (v := nI 0) dX12_doesServe_152 rfl ?_
    refine z_zreturn dX12_doesServe_153 (Nat.le_of_ble_eq_true rfl) (Nat.le_of_ble_eq_true rfl) rfl (by first | exact Or.inl rfl | exact Or.inr rfl | exact zb_01 _ | assumption) ?_
    first
      | exact zi_r (by rw [zb_f hN] <;> rfl)
      | exact zi_r (by rw [zb_t hY] <;> rfl)
  · refine z_aload_n dX12_doesServe_118 rfl ?_
    refine z_aload_n dX12_doesServe_119 rfl ?_
    refine z_iload_n dX12_doesServe_120 rfl ?_
    refine z_iconst (v := nI 0) dX12_doesServe_121 rfl ?_
    refine z_callV2i dX12_doesServe_122 kX12_columnOf lX12_111 (by first | assumption | exact And.left (by assumption)) rfl (s_mCol hm0 hi x2 hb hol) (Nat.le_of_ble_eq_true rfl) (Nat.le_of_ble_eq_true rfl) ⟨Nat.le_of_ble_eq_true rfl, Nat.le_of_ble_eq_true rfl⟩ ?_
    refine z_iconst (v := nI 0) dX12_doesServe_125 rfl ?_
    refine z_iconst (v := nI 0) dX12_doesServe_126 rfl ?_
    refine z_callV3i dX12_doesServe_127 kX12_hasCond lX12_319 (by first | assumption | exact And.left (by assumption)) rfl (s_hasC hm0 hq (by omega) (by decide) (by decide)) (Nat.le_of_ble_eq_true rfl) (Nat.le_of_ble_eq_true rfl) ⟨Nat.le_of_ble_eq_true rfl, Nat.le_of_ble_eq_true rfl⟩ ?_
    refine z_if_neB (tgt := 148) dX12_doesServe_130 (by decide) (fun c_130 => ?_) (fun c_130 => ?_)
    · have hY : srv q.1 x := ⟨h4, wk1_a.mp c_115, hz.mpr (Or.inl c_130)⟩
      refine z_iconst (v := nI 1) dX12_doesServe_148 rfl ?_
      refine z_goto (tgt := 153) dX12_doesServe_149 (by decide) ?_
      refine z_zreturn dX12_doesServe_153 (Nat.le_of_ble_eq_true rfl) (Nat.le_of_ble_eq_true rfl) rfl (by first | exact Or.inl rfl | exact Or.inr rfl | exact zb_01 _ | assumption) ?_
      first
        | exact zi_r (by rw [zb_f hN] <;> rfl)
        | exact zi_r (by rw [zb_t hY] <;> rfl)
    · refine z_aload_n dX12_doesServe_133 rfl ?_
      refine z_aload_n dX12_doesServe_134 rfl ?_
      refine z_iload_n dX12_doesServe_135 rfl ?_
      refine z_iconst (v := nI 0) dX12_doesServe_136 rfl ?_
      refine z_callV2i dX12_doesServe_137 kX12_columnOf lX12_111 (by first | assumption | exact And.left (by assumption)) rfl (s_mCol hm0 hi x2 hb hol) (Nat.le_of_ble_eq_true rfl) (Nat.le_of_ble_eq_true rfl) ⟨Nat.le_of_ble_eq_true rfl, Nat.le_of_ble_eq_true rfl⟩ ?_
      refine z_iconst (v := nI 2) dX12_doesServe_140 rfl ?_
      refine z_iconst (v := nI 3) dX12_doesServe_141 rfl ?_
      refine z_callV3i dX12_doesServe_142 kX12_hasCond lX12_319 (by first | assumption | exact And.left (by assumption)) rfl (s_hasC hm0 hq (by omega) (by decide) (by decide)) (Nat.le_of_ble_eq_true rfl) (Nat.le_of_ble_eq_true rfl) ⟨Nat.le_of_ble_eq_true rfl, Nat.le_of_ble_eq_true rfl⟩ ?_
      refine z_if_eqB (tgt := 152) dX12_doesServe_145 (by decide) (fun c_145 => ?_) (fun c_145 => ?_)
      · have hN : ¬ srv q.1 x := fun z => (hz.mp z.2.2).elim c_130 c_145
        refine z_iconst (v := nI 0) dX12_doesServe_152 rfl ?_
        refine z_zreturn dX12_doesServe_153 (Nat.le_of_ble_eq_true rfl) (Nat.le_of_ble_eq_true rfl) rfl (by first | exact Or.inl rfl | exact Or.inr rfl | exact zb_01 _ | assumption) ?_
        first
          | exact zi_r (by rw [zb_f hN] <;> rfl)
          | exact zi_r (by rw [zb_t hY] <;> rfl)
      · have hY : srv q.1 x := ⟨h4, wk1_a.mp c_115, hz.mpr (Or.inr c_145)⟩
        refine z_iconst (v := nI 1) dX12_doesServe_148 rfl ?_
        refine z_goto (tgt := 153) dX12_doesServe_149 (by decide) ?_
        refine z_zreturn dX12_doesServe_153 (Nat.le_of_ble_eq_true rfl) (Nat.le_of_ble_eq_true rfl) rfl (by first | exact Or.inl rfl | exact Or.inr rfl | exact zb_01 _ | assumption) ?_
        first
          | exact zi_r (by rw [zb_f hN] <;> rfl)
          | exact zi_r (by rw [zb_t hY] <;> rfl)

set_option maxHeartbeats 4000000 in
set_option maxRecDepth 100000 in
theorem s_mSrv {D : zD} {z0 nx : Nat} {L : zL} {V : zV} {m i : Nat} {x : Ix} {q : Qu} (hm : sM L m) (hq : MqS V m q) (hi : i < 2) (hX : MX (V (m + 1)) (2140 + 1600 * i) x) (hol : x.1.1 = 4 → 1 ≤ x.2.1.1.length) : Sp D z0 4 0 0 mX12_doesServe [.ref m, .int (nI i)] L V nx (zi (zb (srv q.1 x)) L V nx) := by
  have hm0 := hm
  obtain ⟨a0, a1, a2, a3, a4, a5, a6, a7, a8, a9, a10, a11, a12, a13, a14, a15⟩ := hm
  obtain ⟨q1, q2, q3, q4, q5, q6⟩ := id hq
  obtain ⟨x1, x2, x3, x4, x5, x6⟩ := id hX
  have n1 := x1.1
  have hs6 := x6.1
  have hb := x6.2.2.2.2.2.1
  obtain ⟨d1, d2, d3, d4, d5, d6⟩ := id x2
  obtain ⟨b1, b2, b3, b4, b5⟩ := id hb
  refine Sp.of 3 (by decide) rfl rfl (Nat.le_of_ble_eq_true rfl) ?_
  refine z_aload_n dX12_doesServe_0 rfl ?_
  refine z_iload_n dX12_doesServe_1 rfl ?_
  refine z_iconst (v := nI 0) dX12_doesServe_2 rfl ?_
  refine z_callV2i dX12_doesServe_3 kX12_ofIndex lX12_104 (by first | assumption | exact And.left (by assumption)) rfl (s_ofIx hm0 hi (by omega) n1) (Nat.le_of_ble_eq_true rfl) (Nat.le_of_ble_eq_true rfl) ⟨Nat.le_of_ble_eq_true rfl, Nat.le_of_ble_eq_true rfl⟩ ?_
  refine z_iconst (v := nI 4) dX12_doesServe_6 rfl ?_
  refine z_icmp_eqN (tgt := 12) dX12_doesServe_7 (by decide) (by omega) (by omega) (fun c_7 => ?_) (fun c_7 => ?_)
  · refine z_aload_n dX12_doesServe_12 rfl ?_
    refine z_iload_n dX12_doesServe_13 rfl ?_
    refine z_bipush (v := nI 9) dX12_doesServe_14 rfl ?_
    refine z_callV2i dX12_doesServe_16 kX12_ofIndex lX12_104 (by first | assumption | exact And.left (by assumption)) rfl (s_ofIx hm0 hi (by omega) d4) (Nat.le_of_ble_eq_true rfl) (Nat.le_of_ble_eq_true rfl) ⟨Nat.le_of_ble_eq_true rfl, Nat.le_of_ble_eq_true rfl⟩ ?_
    refine z_istore_n dX12_doesServe_19 (Nat.le_of_ble_eq_true rfl) rfl ?_
    refine z_iload_n dX12_doesServe_20 rfl ?_
    refine z_iconst (v := (-1)) dX12_doesServe_21 rfl ?_
    refine z_icmp_ne (tgt := 29) dX12_doesServe_22 (by decide) (fun c_22 => ?_) (fun c_22 => ?_)
    · have hpp : x.2.1.2.2.1 = true := Classical.byContradiction (fun z => c_22 (if_neg z))
      refine z_iconst (v := nI 0) dX12_doesServe_29 rfl ?_
      refine z_istore_n dX12_doesServe_30 (Nat.le_of_ble_eq_true rfl) rfl ?_
      refine z_iconst (v := nI 0) dX12_doesServe_31 rfl ?_
      refine z_istore dX12_doesServe_32 (Nat.le_of_ble_eq_true rfl) rfl ?_
      refine lp_srv hm0 hq hi hX (fun z => by first | exact if_pos z | exact absurd z hnp) (lp_srv114 hm0 hq hi hX c_7 (hol c_7)) _ 0 _ rfl (by omega) ?_
      first
        | exact (zb_t (Or.inl hnp)).symm
        | exact (zb_f (fun z => z.elim (fun y => y hpp) (fun ⟨k, k1, k2⟩ => by omega))).symm
    · have hnp : ¬ x.2.1.2.2.1 = true := fun z => by rw [if_pos z] at c_22; exact nI_ne_m1 (by omega) c_22
      refine z_iconst (v := nI 1) dX12_doesServe_25 rfl ?_
      refine z_goto (tgt := 30) dX12_doesServe_26 (by decide) ?_
      refine z_istore_n dX12_doesServe_30 (Nat.le_of_ble_eq_true rfl) rfl ?_
      refine z_iconst (v := nI 0) dX12_doesServe_31 rfl ?_
      refine z_istore dX12_doesServe_32 (Nat.le_of_ble_eq_true rfl) rfl ?_
      refine lp_srv hm0 hq hi hX (fun z => by first | exact if_pos z | exact absurd z hnp) (lp_srv114 hm0 hq hi hX c_7 (hol c_7)) _ 0 _ rfl (by omega) ?_
      first
        | exact (zb_t (Or.inl hnp)).symm
        | exact (zb_f (fun z => z.elim (fun y => y hpp) (fun ⟨k, k1, k2⟩ => by omega))).symm
  · refine z_iconst (v := nI 0) dX12_doesServe_10 rfl ?_
    refine z_zreturn dX12_doesServe_11 (Nat.le_of_ble_eq_true rfl) (Nat.le_of_ble_eq_true rfl) rfl (by first | exact Or.inl rfl | exact Or.inr rfl | exact zb_01 _ | assumption) ?_
    exact zi_r (by rw [zb_f (fun z => c_7 z.1)] <;> rfl)

theorem svr_s {q : Qu} {w : Wo} {f i : Nat} {x : Int32} : svr q w (f + 1) i x = svr q w f (i + 1) (x ||| (@ite _ (srv q.1 (xof w i)) (Classical.propDecidable _) (nI 1 <<< (nI i &&& 31)) (nI 0))) := by
  rw [svr]
  by_cases c : srv q.1 (xof w i)
  · rw [cif_y c, if_pos c]
  · rw [cif_n c, if_neg c, show nI 0 = (0 : Int32) from rfl, Int32.or_zero]

set_option maxHeartbeats 4000000 in
set_option maxRecDepth 100000 in
theorem lp_serving {D : zD} {z0 nx : Nat} {L : zL} {V : zV} {m : Nat} {w : Wo} {q : Qu} (hm : sM L m) (hq : MqS V m q) (hB : MB (V (m + 1)) w.1) (hol : ∀ i, i < 2 → (xof w i).1.1 = 4 → 1 ≤ (xof w i).2.1.1.length) : ∀ (fu : Nat) (i : Nat) (x : Int32), 2 - i = fu → i ≤ 2 → svr q w (2 - i) i x = svr q w 2 0 0 → Z D z0 5 0 0 mX12_serving 0 0 4 [some (.ref m), some (.int x), some (.int (nI i))] [] L V nx (zi (svr q w 2 0 0) L V nx) := by
  intro fu
  induction fu using Nat.strongRecOn with
  | ind fu ih =>
    intro i x h_fu h_0 h_1
    have hm0 := hm
    refine z_iload_n dX12_serving_4 rfl ?_
    refine z_iconst (v := nI 2) dX12_serving_5 rfl ?_
    refine z_icmp_geN (tgt := 33) dX12_serving_6 (by decide) (by omega) (by omega) (fun c_6 => ?_) (fun c_6 => ?_)
    · refine z_iload_n dX12_serving_33 rfl ?_
      refine z_ireturn dX12_serving_34 (Nat.le_of_ble_eq_true rfl) (Nat.le_of_ble_eq_true rfl) rfl ?_
      have e2 : i = 2 := by omega
      subst e2
      exact zi_r h_1
    · have hX := hB.2.2.2 i (by omega)
      rw [show 2 - i = (2 - (i + 1)) + 1 by omega, svr_s] at h_1
      refine z_iload_n dX12_serving_9 rfl ?_
      refine z_aload_n dX12_serving_10 rfl ?_
      refine z_iload_n dX12_serving_11 rfl ?_
      refine z_callV1i dX12_serving_12 kX12_doesServe lX12_331 (by first | assumption | exact And.left (by assumption)) rfl (s_mSrv hm0 hq (by omega) hX (hol i (by omega))) (Nat.le_of_ble_eq_true rfl) (Nat.le_of_ble_eq_true rfl) ⟨Nat.le_of_ble_eq_true rfl, Nat.le_of_ble_eq_true rfl⟩ ?_
      refine z_if_eqB (tgt := 24) dX12_serving_15 (by decide) (fun c_15 => ?_) (fun c_15 => ?_)
      · rw [if_neg (show ¬ srv q.1 (xof w i) from c_15)] at h_1
        refine z_iconst (v := nI 0) dX12_serving_24 rfl ?_
        refine z_ior dX12_serving_25 ?_
        refine z_istore_n dX12_serving_26 (Nat.le_of_ble_eq_true rfl) rfl ?_
        refine z_incN dX12_serving_27 rfl rfl ?_
        refine z_goto (tgt := 4) dX12_serving_30 (by decide) ?_
        exact ih _ (by omega) (i + 1) _ rfl (by omega) h_1
      · rw [if_pos (show srv q.1 (xof w i) from c_15)] at h_1
        refine z_iconst (v := nI 1) dX12_serving_18 rfl ?_
        refine z_iload_n dX12_serving_19 rfl ?_
        refine z_ishl dX12_serving_20 ?_
        refine z_goto (tgt := 25) dX12_serving_21 (by decide) ?_
        refine z_ior dX12_serving_25 ?_
        refine z_istore_n dX12_serving_26 (Nat.le_of_ble_eq_true rfl) rfl ?_
        refine z_incN dX12_serving_27 rfl rfl ?_
        refine z_goto (tgt := 4) dX12_serving_30 (by decide) ?_
        exact ih _ (by omega) (i + 1) _ rfl (by omega) h_1

set_option maxHeartbeats 4000000 in
set_option maxRecDepth 100000 in
theorem s_serving {D : zD} {z0 nx : Nat} {L : zL} {V : zV} {m : Nat} {w : Wo} {q : Qu} (hm : sM L m) (hq : MqS V m q) (hB : MB (V (m + 1)) w.1) (hol : ∀ i, i < 2 → (xof w i).1.1 = 4 → 1 ≤ (xof w i).2.1.1.length) : Sp D z0 5 0 0 mX12_serving [.ref m] L V nx (zi (svr q w 2 0 0) L V nx) := by
  refine Sp.of 2 (by decide) rfl rfl (Nat.le_of_ble_eq_true rfl) ?_
  refine z_iconst (v := nI 0) dX12_serving_0 rfl ?_
  refine z_istore_n dX12_serving_1 (Nat.le_of_ble_eq_true rfl) rfl ?_
  refine z_iconst (v := nI 0) dX12_serving_2 rfl ?_
  refine z_istore_n dX12_serving_3 (Nat.le_of_ble_eq_true rfl) rfl ?_
  exact lp_serving hm hq hB hol _ 0 (nI 0) rfl (by omega) rfl

theorem tc_kc {d : Df} {o : List (Nat × Bool)} {k : Nat} (h1 : k < d.1.length) (hb : (d.1.getD k (0, false)).1 < 3) (ho : (o.getD k (0, false)).1 < 3) : tc d k = nI (kc o k) ↔ d.1.getD k (0, false) = o.getD k (0, false) := by
  unfold tc kc
  rw [if_pos h1]
  constructor
  · intro h
    have h2 := nI_inj (by split <;> omega) (by split <;> omega) h
    refine Prod.ext ?_ ?_
    · split at h2 <;> split at h2 <;> omega
    · by_cases c : (d.1.getD k (0, false)).2 = true
      · by_cases e : (o.getD k (0, false)).2 = true
        · rw [c, e]
        · rw [if_pos c, if_neg e] at h2
          omega
      · by_cases e : (o.getD k (0, false)).2 = true
        · rw [if_neg c, if_pos e] at h2
          omega
        · have c1 : (d.1.getD k (0, false)).2 = false := by simpa using c
          have e1 : (o.getD k (0, false)).2 = false := by simpa using e
          rw [c1, e1]
  · intro h
    rw [h]
theorem tc_I (d : Df) (k : Nat) (hb : d.1.length ≤ 3) : True := trivial

set_option maxHeartbeats 4000000 in
set_option maxRecDepth 100000 in
theorem s_sortN {D : zD} {z0 nx : Nat} {L : zL} {V : zV} {m : Nat} {w : Wo} {q : Qu} (hm : sM L m) (hq : MqS V m q) : Sp D z0 3 0 0 mX12_isSorted [.ref m, .int (-1)] L V nx (zi (zb (srt q w 2)) L V nx) := by
  have hm0 := hm
  obtain ⟨a0, a1, a2, a3, a4, a5, a6, a7, a8, a9, a10, a11, a12, a13, a14, a15⟩ := hm
  obtain ⟨q1, q2, q3, q4, q5, q6⟩ := id hq
  refine Sp.of 1 (by decide) rfl rfl (Nat.le_of_ble_eq_true rfl) ?_
  refine z_aload_n dX12_isSorted_0 rfl ?_
  refine z_getIe dX12_isSorted_1 fX12_298 (by first | assumption | exact And.left (by assumption)) rfl q4 ?_
  refine z_if_neN (tgt := 9) dX12_isSorted_4 (by decide) (by omega) (fun c_4 => ?_) (fun c_4 => ?_)
  · refine z_iload_n dX12_isSorted_9 rfl ?_
    refine z_iconst (v := (-1)) dX12_isSorted_10 rfl ?_
    refine z_icmp_eq (tgt := 27) dX12_isSorted_11 (by decide) (fun c_11 => ?_) (fun c_11 => ?_)
    · refine z_iconst (v := nI 0) dX12_isSorted_27 rfl ?_
      refine z_zreturn dX12_isSorted_28 (Nat.le_of_ble_eq_true rfl) (Nat.le_of_ble_eq_true rfl) rfl (by first | exact Or.inl rfl | exact Or.inr rfl | exact zb_01 _ | assumption) ?_
      exact zi_r (by rw [zb_f (show ¬ srt q w 2 from fun z => z.elim (fun y => c_4 (by omega)) (fun y => by omega))] <;> rfl)
    · exact absurd rfl c_11
  · refine z_iconst (v := nI 1) dX12_isSorted_7 rfl ?_
    refine z_zreturn dX12_isSorted_8 (Nat.le_of_ble_eq_true rfl) (Nat.le_of_ble_eq_true rfl) rfl (by first | exact Or.inl rfl | exact Or.inr rfl | exact zb_01 _ | assumption) ?_
    exact zi_r (by rw [zb_t (show srt q w 2 from Or.inl (by omega))] <;> rfl)

set_option maxHeartbeats 4000000 in
set_option maxRecDepth 100000 in
theorem lp_sort {D : zD} {z0 nx : Nat} {L : zL} {V : zV} {m i : Nat} {w : Wo} {q : Qu} (hm : sM L m) (hq : MqS V m q) (hi : i < 2) (hX : MX (V (m + 1)) (2140 + 1600 * i) (xof w i)) (hn0 : ¬ q.2.length = 0) (hle : q.2.length ≤ (xof w i).2.1.1.length) : ∀ (fu : Nat) (k : Nat), 3 - k = fu → k ≤ q.2.length → (∀ j, j < k → (xof w i).2.1.1.getD j (0, false) = q.2.getD j (0, false)) → Z D z0 3 0 0 mX12_isSorted 0 0 31 [some (.ref m), some (.int (nI i)), some (.int (nI k))] [] L V nx (zi (zb (srt q w i)) L V nx) := by
  intro fu
  induction fu using Nat.strongRecOn with
  | ind fu ih =>
    intro k h_fu h_0 h_1
    have hm0 := hm
    obtain ⟨a0, a1, a2, a3, a4, a5, a6, a7, a8, a9, a10, a11, a12, a13, a14, a15⟩ := hm
    obtain ⟨q1, q2, q3, q4, q5, q6⟩ := id hq
    obtain ⟨x1, x2, x3, x4, x5, x6⟩ := id hX
    have n1 := x1.1
    have hs6 := x6.1
    have hb := x6.2.2.2.2.2.1
    obtain ⟨d1, d2, d3, d4, d5, d6⟩ := id x2
    obtain ⟨b1, b2, b3, b4, b5⟩ := id hb
    refine z_iload_n dX12_isSorted_31 rfl ?_
    refine z_aload_n dX12_isSorted_32 rfl ?_
    refine z_getIe dX12_isSorted_33 fX12_298 (by first | assumption | exact And.left (by assumption)) rfl q4 ?_
    refine z_icmp_geN (tgt := 65) dX12_isSorted_36 (by decide) (by omega) (by omega) (fun c_36 => ?_) (fun c_36 => ?_)
    · refine z_iconst (v := nI 1) dX12_isSorted_65 rfl ?_
      refine z_zreturn dX12_isSorted_66 (Nat.le_of_ble_eq_true rfl) (Nat.le_of_ble_eq_true rfl) rfl (by first | exact Or.inl rfl | exact Or.inr rfl | exact zb_01 _ | assumption) ?_
      exact zi_r (by rw [zb_t (show srt q w i from Or.inr ⟨hi, hle, fun j hj => h_1 j (by omega)⟩)] <;> rfl)
    · have hk3 : k < 3 := by omega
      have hd3 := d3 k hk3
      obtain ⟨u1, u2⟩ := q6 k (by omega)
      have htk := tc_kc (d := (xof w i).2.1) (o := q.2) (k := k) (by omega) (b2 k (by omega)) u2
      refine z_aload_n dX12_isSorted_39 rfl ?_
      refine z_iload_n dX12_isSorted_40 rfl ?_
      refine z_bipush (v := nI 6) dX12_isSorted_41 rfl ?_
      refine z_iload_n dX12_isSorted_43 rfl ?_
      refine z_addN dX12_isSorted_44 ?_
      refine z_callV2i dX12_isSorted_45 kX12_ofIndex lX12_104 (by first | assumption | exact And.left (by assumption)) rfl (s_ofIx hm0 hi (by omega) hd3) (Nat.le_of_ble_eq_true rfl) (Nat.le_of_ble_eq_true rfl) ⟨Nat.le_of_ble_eq_true rfl, Nat.le_of_ble_eq_true rfl⟩ ?_
      refine z_aload_n dX12_isSorted_48 rfl ?_
      refine z_getR dX12_isSorted_49 fX12_47 (by first | assumption | exact And.left (by assumption)) rfl ?_
      refine z_iload_n dX12_isSorted_52 rfl ?_
      refine z_ialdN dX12_isSorted_53 (by first | assumption | exact And.left (by assumption)) (by omega) (by decide) u1 ?_
      refine z_icmp_eq (tgt := 59) dX12_isSorted_54 (by decide) (fun c_54 => ?_) (fun c_54 => ?_)
      · refine z_incN dX12_isSorted_59 rfl rfl ?_
        refine z_goto (tgt := 31) dX12_isSorted_62 (by decide) ?_
        exact ih _ (by omega) (k + 1) rfl (by omega) (fun j hj => by
          by_cases e : j = k
          · rw [e]; exact htk.mp c_54
          · exact h_1 j (by omega))
      · refine z_iconst (v := nI 0) dX12_isSorted_57 rfl ?_
        refine z_zreturn dX12_isSorted_58 (Nat.le_of_ble_eq_true rfl) (Nat.le_of_ble_eq_true rfl) rfl (by first | exact Or.inl rfl | exact Or.inr rfl | exact zb_01 _ | assumption) ?_
        exact zi_r (by rw [zb_f (show ¬ srt q w i from fun z => z.elim hn0 (fun y => c_54 (htk.mpr (y.2.2 k (by omega)))))] <;> rfl)

set_option maxHeartbeats 4000000 in
set_option maxRecDepth 100000 in
theorem s_sortT {D : zD} {z0 nx : Nat} {L : zL} {V : zV} {m i : Nat} {w : Wo} {q : Qu} (hm : sM L m) (hq : MqS V m q) (hi : i < 2) (hX : MX (V (m + 1)) (2140 + 1600 * i) (xof w i)) : Sp D z0 3 0 0 mX12_isSorted [.ref m, .int (nI i)] L V nx (zi (zb (srt q w i)) L V nx) := by
  have hm0 := hm
  obtain ⟨a0, a1, a2, a3, a4, a5, a6, a7, a8, a9, a10, a11, a12, a13, a14, a15⟩ := hm
  obtain ⟨q1, q2, q3, q4, q5, q6⟩ := id hq
  obtain ⟨x1, x2, x3, x4, x5, x6⟩ := id hX
  have n1 := x1.1
  have hs6 := x6.1
  have hb := x6.2.2.2.2.2.1
  obtain ⟨d1, d2, d3, d4, d5, d6⟩ := id x2
  obtain ⟨b1, b2, b3, b4, b5⟩ := id hb
  refine Sp.of 1 (by decide) rfl rfl (Nat.le_of_ble_eq_true rfl) ?_
  refine z_aload_n dX12_isSorted_0 rfl ?_
  refine z_getIe dX12_isSorted_1 fX12_298 (by first | assumption | exact And.left (by assumption)) rfl q4 ?_
  refine z_if_neN (tgt := 9) dX12_isSorted_4 (by decide) (by omega) (fun c_4 => ?_) (fun c_4 => ?_)
  · refine z_iload_n dX12_isSorted_9 rfl ?_
    refine z_iconst (v := (-1)) dX12_isSorted_10 rfl ?_
    refine z_icmp_eq (tgt := 27) dX12_isSorted_11 (by decide) (fun c_11 => ?_) (fun c_11 => ?_)
    · exact absurd c_11 (nI_ne_m1 (by omega))
    · refine z_aload_n dX12_isSorted_14 rfl ?_
      refine z_iload_n dX12_isSorted_15 rfl ?_
      refine z_iconst (v := nI 5) dX12_isSorted_16 rfl ?_
      refine z_callV2i dX12_isSorted_17 kX12_ofIndex lX12_104 (by first | assumption | exact And.left (by assumption)) rfl (s_ofIx hm0 hi (by omega) d2) (Nat.le_of_ble_eq_true rfl) (Nat.le_of_ble_eq_true rfl) ⟨Nat.le_of_ble_eq_true rfl, Nat.le_of_ble_eq_true rfl⟩ ?_
      refine z_aload_n dX12_isSorted_20 rfl ?_
      refine z_getIe dX12_isSorted_21 fX12_298 (by first | assumption | exact And.left (by assumption)) rfl q4 ?_
      refine z_icmp_geN (tgt := 29) dX12_isSorted_24 (by decide) (by omega) (by omega) (fun c_24 => ?_) (fun c_24 => ?_)
      · refine z_iconst (v := nI 0) dX12_isSorted_29 rfl ?_
        refine z_istore_n dX12_isSorted_30 (Nat.le_of_ble_eq_true rfl) rfl ?_
        exact lp_sort hm0 hq hi hX (by omega) (by omega) _ 0 rfl (by omega) (fun j hj => absurd hj (by omega))
      · refine z_iconst (v := nI 0) dX12_isSorted_27 rfl ?_
        refine z_zreturn dX12_isSorted_28 (Nat.le_of_ble_eq_true rfl) (Nat.le_of_ble_eq_true rfl) rfl (by first | exact Or.inl rfl | exact Or.inr rfl | exact zb_01 _ | assumption) ?_
        exact zi_r (by rw [zb_f (show ¬ srt q w i from fun z => z.elim (fun y => c_4 (by omega)) (fun y => by have := y.2.1; omega))] <;> rfl)
  · refine z_iconst (v := nI 1) dX12_isSorted_7 rfl ?_
    refine z_zreturn dX12_isSorted_8 (Nat.le_of_ble_eq_true rfl) (Nat.le_of_ble_eq_true rfl) rfl (by first | exact Or.inl rfl | exact Or.inr rfl | exact zb_01 _ | assumption) ?_
    exact zi_r (by rw [zb_t (show srt q w i from Or.inl (by omega))] <;> rfl)

theorem cst_100 {q : Qu} {w : Wo} (h : ∀ i, i < 2 → (xof w i).2.2.1.length ≤ 48) (i : Nat) : cst q w i < 100 := by
  unfold cst
  split
  · rename_i z
    have h1 := h i z
    have h2 := cn_le (fun k => isR q.1 (xof w i).2.1.1 (stc q.1 (xof w i).2.1.1 + 1) ((xof w i).2.2.1.getD k 0 / 64)) (xof w i).2.2.1.length
    unfold rby
    omega
  · have := cn_le (fun r => (lst w.1.2.1 r).2 ≠ none) 48
    unfold rth
    omega
theorem chs_le {q : Qu} {w : Wo} : ∀ n, n ≤ 2 → chs q w n ≤ 2
  | 0, _ => by rw [chs]; omega
  | n + 1, h => by
    have := chs_le (q := q) (w := w) n (by omega)
    rw [chs]
    by_cases c : srv q.1 (xof w n) ∧ cst q w n < cst q w (chs q w n)
    · rw [cif_y c]
      omega
    · rw [cif_n c]
      exact this

theorem chs_2 {q : Qu} {w : Wo} (h : ¬ chs q w 2 < 2) : chs q w 2 = 2 := by
  have := chs_le (q := q) (w := w) 2 (by decide)
  omega

set_option maxHeartbeats 4000000 in
set_option maxRecDepth 100000 in
theorem lp_plan {D : zD} {z0 nx : Nat} {L : zL} {V : zV} {m : Nat} {w : Wo} {q : Qu} {x : Nat} (hm : sM L m) (h : MW V m w) (hqq : w.2.2.2.2.2 = some q) (hol : ∀ i, i < 2 → (xof w i).1.1 = 4 → 1 ≤ (xof w i).2.1.1.length) (hnd : ∀ i, i < 2 → ndc (xof w i).2.1.1) {P : zP} (K : ∀ V2, sE V V2 m → Z D z0 7 0 0 mX12_plan 0 0 85 [some (.ref m), some (.int (nI x)), some (.int (i2n (chs q w 2))), some (.int (nI (cst q w (chs q w 2)))), none] [] L V2 nx P) : ∀ (fu : Nat) (i : Nat) (V1 : zV), 2 - i = fu → i ≤ 2 → sE V V1 m → Z D z0 7 0 0 mX12_plan 0 0 41 [some (.ref m), some (.int (nI x)), some (.int (i2n (chs q w i))), some (.int (nI (cst q w (chs q w i)))), some (.int (nI i))] [] L V1 nx (P) := by
  intro fu
  induction fu using Nat.strongRecOn with
  | ind fu ih =>
    intro i V1 h_fu h_0 h_1
    have hm0 := hm
    obtain ⟨a0, a1, a2, a3, a4, a5, a6, a7, a8, a9, a10, a11, a12, a13, a14, a15⟩ := hm
    have hB1 : MB (V1 (m + 1)) w.1 := by rw [h_1.1 _ (by omega) (by omega)]; exact h.1
    have hq1 : MqS V1 m q := h_1.q (by have := h.2.2.2.2.2.1; rw [hqq] at this; exact this)
    have hl48 : ∀ i, i < 2 → (xof w i).2.2.1.length ≤ 48 := fun i hi => (hB1.2.2.2 i hi).2.2.2.2.2.2.2.2.2.2.2.1
    have hcl := cst_100 (q := q) hl48 (chs q w i)
    refine z_iload dX12_plan_41 rfl ?_
    refine z_iconst (v := nI 2) dX12_plan_43 rfl ?_
    refine z_icmp_geN (tgt := 85) dX12_plan_44 (by decide) (by omega) (by omega) (fun c_44 => ?_) (fun c_44 => ?_)
    · have e2 : i = 2 := by omega
      subst e2
      refine z_fg 4 ?_
      exact K V1 h_1
    · obtain ⟨x1, x2, x3, x4, x5, x6⟩ := id (hB1.2.2.2 i (by omega))
      have hb := x6.2.2.2.2.2.1
      have hci := cst_100 (q := q) hl48 i
      have ei : rby q.1 (w.1.2.2.2 i).2.1.1 (w.1.2.2.2 i).2.2.1 = cst q w i := (if_pos (show i < 2 by omega)).symm
      refine z_aload_n dX12_plan_47 rfl ?_
      refine z_iload dX12_plan_48 rfl ?_
      refine z_callV1i dX12_plan_50 kX12_doesServe lX12_331 (by first | assumption | exact And.left (by assumption)) rfl (s_mSrv hm0 hq1 (by omega) (hB1.2.2.2 i (by omega)) (hol i (by omega))) (Nat.le_of_ble_eq_true rfl) (Nat.le_of_ble_eq_true rfl) ⟨Nat.le_of_ble_eq_true rfl, Nat.le_of_ble_eq_true rfl⟩ ?_
      refine z_if_eqB (tgt := 79) dX12_plan_53 (by decide) (fun c_53 => ?_) (fun c_53 => ?_)
      · have eC : chs q w (i + 1) = chs q w i := by rw [chs, cif_n (fun z => c_53 z.1)]
        refine z_incN dX12_plan_79 rfl rfl ?_
        refine z_goto (tgt := 41) dX12_plan_82 (by decide) ?_
        first
          | (have hh := ih _ (by omega) (i + 1) V1 rfl (by omega) h_1
             rw [eC] at hh
             exact hh)
          | (have hh := ih _ (by omega) (i + 1) V2 rfl (by omega) (h_1.trans f1)
             rw [eC] at hh
             exact hh)
          | (have hh := ih _ (by omega) (i + 1) V3 rfl (by omega) ((h_1.trans f1).trans f3)
             rw [eC, show i2n i = nI i from if_pos (by omega)] at hh
             exact hh)
      · refine z_aload_n dX12_plan_56 rfl ?_
        refine z_iload dX12_plan_57 rfl ?_
        refine z_callV1q dX12_plan_59 kX12_readsBy lX12_337 (by first | assumption | exact And.left (by assumption)) rfl (s_reads hm0 hq1 (by omega) x2 hb (hnd i (by omega)) x3 x6.2.2.2.2.2.2.1 x6.2.2.2.2.2.2.2.2.2.2.1) (Nat.le_of_ble_eq_true rfl) (Nat.le_of_ble_eq_true rfl) ⟨Nat.le_of_ble_eq_true rfl, Nat.le_of_ble_eq_true rfl⟩ ?_
        intro V2 hV2
        obtain ⟨f1, f2⟩ := hV2
        rw [ei]
        have hq2 := f1.q hq1
        have hA2 : V2 (m + 1) = V1 (m + 1) := f1.1 _ (by omega) (by omega)
        rw [← hA2] at x2 x3
        refine z_iload_n dX12_plan_62 rfl ?_
        refine z_icmp_ltN (tgt := 69) dX12_plan_63 (by decide) (by omega) (by omega) (fun c_63 => ?_) (fun c_63 => ?_)
        · have eC : chs q w (i + 1) = i := by rw [chs, cif_y ⟨c_53, c_63⟩]
          refine z_iload dX12_plan_69 rfl ?_
          refine z_istore_n dX12_plan_71 (Nat.le_of_ble_eq_true rfl) rfl ?_
          refine z_aload_n dX12_plan_72 rfl ?_
          refine z_iload dX12_plan_73 rfl ?_
          refine z_callV1q dX12_plan_75 kX12_readsBy lX12_337 (by first | assumption | exact And.left (by assumption)) rfl (s_reads hm0 hq2 (by omega) x2 hb (hnd i (by omega)) x3 x6.2.2.2.2.2.2.1 x6.2.2.2.2.2.2.2.2.2.2.1) (Nat.le_of_ble_eq_true rfl) (Nat.le_of_ble_eq_true rfl) ⟨Nat.le_of_ble_eq_true rfl, Nat.le_of_ble_eq_true rfl⟩ ?_
          intro V3 hV3
          obtain ⟨f3, f4⟩ := hV3
          rw [ei]
          refine z_istore_n dX12_plan_78 (Nat.le_of_ble_eq_true rfl) rfl ?_
          refine z_incN dX12_plan_79 rfl rfl ?_
          refine z_goto (tgt := 41) dX12_plan_82 (by decide) ?_
          first
            | (have hh := ih _ (by omega) (i + 1) V1 rfl (by omega) h_1
               rw [eC] at hh
               exact hh)
            | (have hh := ih _ (by omega) (i + 1) V2 rfl (by omega) (h_1.trans f1)
               rw [eC] at hh
               exact hh)
            | (have hh := ih _ (by omega) (i + 1) V3 rfl (by omega) ((h_1.trans f1).trans f3)
               rw [eC, show i2n i = nI i from if_pos (by omega)] at hh
               exact hh)
        · have eC : chs q w (i + 1) = chs q w i := by rw [chs, cif_n (fun z => by have := z.2; omega)]
          refine z_goto (tgt := 79) dX12_plan_66 (by decide) ?_
          refine z_incN dX12_plan_79 rfl rfl ?_
          refine z_goto (tgt := 41) dX12_plan_82 (by decide) ?_
          first
            | (have hh := ih _ (by omega) (i + 1) V1 rfl (by omega) h_1
               rw [eC] at hh
               exact hh)
            | (have hh := ih _ (by omega) (i + 1) V2 rfl (by omega) (h_1.trans f1)
               rw [eC] at hh
               exact hh)
            | (have hh := ih _ (by omega) (i + 1) V3 rfl (by omega) ((h_1.trans f1).trans f3)
               rw [eC, show i2n i = nI i from if_pos (by omega)] at hh
               exact hh)

set_option maxHeartbeats 4000000 in
set_option maxRecDepth 100000 in
theorem lp_p85N {D : zD} {z0 nx : Nat} {L : zL} {V : zV} {m x : Nat} {w : Wo} {q : Qu} (hm : sM L m) (hB : MB (V (m + 1)) w.1) (hq : MqS V m q) (hx : x < 5) (hl48 : ∀ i, i < 2 → (xof w i).2.2.1.length ≤ 48) (hol : ∀ i, i < 2 → (xof w i).1.1 = 4 → 1 ≤ (xof w i).2.1.1.length) (hnd : ∀ i, i < 2 → ndc (xof w i).2.1.1) (hN : ¬ chs q w 2 < 2) : Z D z0 7 0 0 mX12_plan 0 0 85 [some (.ref m), some (.int (nI x)), some (.int (-1)), some (.int (nI (cst q w (chs q w 2)))), none] [] L V nx (zq (some (.int (pln q w x))) L nx (fun V' => sE V V' m)) := by
  have hm0 := hm
  obtain ⟨a0, a1, a2, a3, a4, a5, a6, a7, a8, a9, a10, a11, a12, a13, a14, a15⟩ := hm
  have hcl := cst_100 (q := q) hl48 (chs q w 2)

  refine z_aload_n dX12_plan_85 rfl ?_
  refine z_iconst (v := nI 0) dX12_plan_86 rfl ?_
  refine z_putI dX12_plan_87 fX12_322 (by first | assumption | exact And.left (by assumption)) rfl ?_
  refine z_iload_n dX12_plan_90 rfl ?_
  refine z_iconst (v := (-1)) dX12_plan_91 rfl ?_
  refine z_icmp_eq (tgt := 100) dX12_plan_92 (by decide) (fun c_92 => ?_) (fun c_92 => ?_)
  · refine z_iload_n dX12_plan_100 rfl ?_
    rcases (show x = 0 ∨ x = 1 ∨ x = 2 ∨ x = 3 ∨ x = 4 by omega) with rfl | rfl | rfl | rfl | rfl
    · refine z_tableIn (tgt := 132) dX12_plan_101 (by decide) (by decide) rfl (by decide) ?_
      refine z_iload_n dX12_plan_132 rfl ?_
      refine z_ireturn dX12_plan_133 (Nat.le_of_ble_eq_true rfl) (Nat.le_of_ble_eq_true rfl) rfl ?_
      exact ⟨by rw [show pln q w 0 = -1 from by unfold pln; rw [if_pos rfl, i2n, if_neg hN]], rfl, rfl, sE.rf.mn⟩
    · refine z_tableIn (tgt := 134) dX12_plan_101 (by decide) (by decide) rfl (by decide) ?_
      refine z_iload_n dX12_plan_134 rfl ?_
      refine z_ireturn dX12_plan_135 (Nat.le_of_ble_eq_true rfl) (Nat.le_of_ble_eq_true rfl) rfl ?_
      exact ⟨by rw [show pln q w 1 = nI (cst q w (chs q w 2)) from rfl], rfl, rfl, sE.rf.mn⟩
    · refine z_tableIn (tgt := 136) dX12_plan_101 (by decide) (by decide) rfl (by decide) ?_
      refine z_aload_n dX12_plan_136 rfl ?_
      refine z_iload_n dX12_plan_137 rfl ?_
      refine z_callV1i dX12_plan_138 kX12_isSorted lX12_340 (by first | assumption | exact And.left (by assumption)) rfl (s_sortN (w := w) hm0 (sE.rf.mn.q hq)) (Nat.le_of_ble_eq_true rfl) (Nat.le_of_ble_eq_true rfl) ⟨Nat.le_of_ble_eq_true rfl, Nat.le_of_ble_eq_true rfl⟩ ?_
      refine z_if_eqB (tgt := 148) dX12_plan_141 (by decide) (fun c_141 => ?_) (fun c_141 => ?_)
      · have hb2 : ¬ srt q w (chs q w 2) := by rw [chs_2 hN]; exact c_141
        refine z_iconst (v := nI 0) dX12_plan_148 rfl ?_
        refine z_ireturn dX12_plan_149 (Nat.le_of_ble_eq_true rfl) (Nat.le_of_ble_eq_true rfl) rfl ?_
        first
          | exact ⟨by rw [show pln q w 2 = zb (srt q w (chs q w 2)) from rfl, zb_f hb2] <;> rfl, rfl, rfl, sE.rf.mn⟩
          | exact ⟨by rw [show pln q w 2 = zb (srt q w (chs q w 2)) from rfl, zb_t hb2] <;> rfl, rfl, rfl, sE.rf.mn⟩
      · have hb2 : srt q w (chs q w 2) := by rw [chs_2 hN]; exact c_141
        refine z_iconst (v := nI 1) dX12_plan_144 rfl ?_
        refine z_goto (tgt := 149) dX12_plan_145 (by decide) ?_
        refine z_ireturn dX12_plan_149 (Nat.le_of_ble_eq_true rfl) (Nat.le_of_ble_eq_true rfl) rfl ?_
        first
          | exact ⟨by rw [show pln q w 2 = zb (srt q w (chs q w 2)) from rfl, zb_f hb2] <;> rfl, rfl, rfl, sE.rf.mn⟩
          | exact ⟨by rw [show pln q w 2 = zb (srt q w (chs q w 2)) from rfl, zb_t hb2] <;> rfl, rfl, rfl, sE.rf.mn⟩
    · refine z_tableIn (tgt := 150) dX12_plan_101 (by decide) (by decide) rfl (by decide) ?_
      refine z_aload_n dX12_plan_150 rfl ?_
      refine z_getIe dX12_plan_151 fX12_322 (by first | assumption | exact And.left (by assumption)) rfl (zup_s _ _ _ _) ?_
      refine z_ireturn dX12_plan_154 (Nat.le_of_ble_eq_true rfl) (Nat.le_of_ble_eq_true rfl) rfl ?_
      exact ⟨by rw [show pln q w 3 = nI 0 from by unfold pln; rw [if_neg (by decide), if_neg (by decide), if_neg (by decide), if_pos rfl, if_neg hN]], rfl, rfl, sE.rf.mn⟩
    · refine z_tableOut (tgt := 155) dX12_plan_101 (Or.inr (by decide)) (by decide) ?_
      refine z_aload_n dX12_plan_155 rfl ?_
      refine z_callV0i dX12_plan_156 kX12_serving lX12_343 (by first | assumption | exact And.left (by assumption)) rfl (s_serving hm0 (sE.rf.mn.q hq) (by rw [zup_a (by omega)]; exact hB) hol) (Nat.le_of_ble_eq_true rfl) (Nat.le_of_ble_eq_true rfl) ⟨Nat.le_of_ble_eq_true rfl, Nat.le_of_ble_eq_true rfl⟩ ?_
      refine z_ireturn dX12_plan_159 (Nat.le_of_ble_eq_true rfl) (Nat.le_of_ble_eq_true rfl) rfl ?_
      exact ⟨by rw [show pln q w 4 = svr q w 2 0 0 from rfl], rfl, rfl, sE.rf.mn⟩
  · exact absurd rfl c_92

set_option maxHeartbeats 4000000 in
set_option maxRecDepth 100000 in
theorem lp_p85T {D : zD} {z0 nx : Nat} {L : zL} {V : zV} {m x : Nat} {w : Wo} {q : Qu} (hm : sM L m) (hB : MB (V (m + 1)) w.1) (hq : MqS V m q) (hx : x < 5) (hl48 : ∀ i, i < 2 → (xof w i).2.2.1.length ≤ 48) (hol : ∀ i, i < 2 → (xof w i).1.1 = 4 → 1 ≤ (xof w i).2.1.1.length) (hnd : ∀ i, i < 2 → ndc (xof w i).2.1.1) {i : Nat} (hi : i < 2) (hT : chs q w 2 = i) : Z D z0 7 0 0 mX12_plan 0 0 85 [some (.ref m), some (.int (nI x)), some (.int (nI i)), some (.int (nI (cst q w (chs q w 2)))), none] [] L V nx (zq (some (.int (pln q w x))) L nx (fun V' => sE V V' m)) := by
  have hm0 := hm
  obtain ⟨a0, a1, a2, a3, a4, a5, a6, a7, a8, a9, a10, a11, a12, a13, a14, a15⟩ := hm
  have hcl := cst_100 (q := q) hl48 (chs q w 2)

  refine z_aload_n dX12_plan_85 rfl ?_
  refine z_iconst (v := nI 0) dX12_plan_86 rfl ?_
  refine z_putI dX12_plan_87 fX12_322 (by first | assumption | exact And.left (by assumption)) rfl ?_
  refine z_iload_n dX12_plan_90 rfl ?_
  refine z_iconst (v := (-1)) dX12_plan_91 rfl ?_
  refine z_icmp_eq (tgt := 100) dX12_plan_92 (by decide) (fun c_92 => ?_) (fun c_92 => ?_)
  · exact absurd c_92 (nI_ne_m1 (by omega))
  · refine z_aload_n dX12_plan_95 rfl ?_
    refine z_iload_n dX12_plan_96 rfl ?_
    obtain ⟨x1, x2, x3, x4, x5, x6⟩ := id (hB.2.2.2 i hi)
    have hb := x6.2.2.2.2.2.1
    refine z_callV1w dX12_plan_97 kX12_laysStretch lX12_325 (by first | assumption | exact And.left (by assumption)) rfl (s_stretch hm0 (sE.rf.mn.q hq) hi (by rw [zup_a (by omega)]; exact x2) hb (hnd i hi)) (Nat.le_of_ble_eq_true rfl) (Nat.le_of_ble_eq_true rfl) ⟨Nat.le_of_ble_eq_true rfl, Nat.le_of_ble_eq_true rfl⟩ ?_
    intro V2 hV2
    obtain ⟨f1, f2, f3⟩ := hV2
    have g1 : sE V V2 m := sE.rf.mn.trans f1
    have hA2 : V2 (m + 1) = V (m + 1) := g1.1 _ (by omega) (by omega)
    refine z_iload_n dX12_plan_100 rfl ?_
    rcases (show x = 0 ∨ x = 1 ∨ x = 2 ∨ x = 3 ∨ x = 4 by omega) with rfl | rfl | rfl | rfl | rfl
    · refine z_tableIn (tgt := 132) dX12_plan_101 (by decide) (by decide) rfl (by decide) ?_
      refine z_iload_n dX12_plan_132 rfl ?_
      refine z_ireturn dX12_plan_133 (Nat.le_of_ble_eq_true rfl) (Nat.le_of_ble_eq_true rfl) rfl ?_
      exact ⟨by rw [show pln q w 0 = nI i from by unfold pln; rw [if_pos rfl, hT, i2n, if_pos hi]], rfl, rfl, g1⟩
    · refine z_tableIn (tgt := 134) dX12_plan_101 (by decide) (by decide) rfl (by decide) ?_
      refine z_iload_n dX12_plan_134 rfl ?_
      refine z_ireturn dX12_plan_135 (Nat.le_of_ble_eq_true rfl) (Nat.le_of_ble_eq_true rfl) rfl ?_
      exact ⟨by rw [show pln q w 1 = nI (cst q w (chs q w 2)) from rfl], rfl, rfl, g1⟩
    · refine z_tableIn (tgt := 136) dX12_plan_101 (by decide) (by decide) rfl (by decide) ?_
      refine z_aload_n dX12_plan_136 rfl ?_
      refine z_iload_n dX12_plan_137 rfl ?_
      refine z_callV1i dX12_plan_138 kX12_isSorted lX12_340 (by first | assumption | exact And.left (by assumption)) rfl (s_sortT (w := w) hm0 (g1.q hq) hi (by rw [hA2]; exact hB.2.2.2 i hi)) (Nat.le_of_ble_eq_true rfl) (Nat.le_of_ble_eq_true rfl) ⟨Nat.le_of_ble_eq_true rfl, Nat.le_of_ble_eq_true rfl⟩ ?_
      refine z_if_eqB (tgt := 148) dX12_plan_141 (by decide) (fun c_141 => ?_) (fun c_141 => ?_)
      · refine z_iconst (v := nI 0) dX12_plan_148 rfl ?_
        refine z_ireturn dX12_plan_149 (Nat.le_of_ble_eq_true rfl) (Nat.le_of_ble_eq_true rfl) rfl ?_
        first
          | exact ⟨by rw [show pln q w 2 = zb (srt q w (chs q w 2)) from rfl, hT, zb_f c_141] <;> rfl, rfl, rfl, g1⟩
          | exact ⟨by rw [show pln q w 2 = zb (srt q w (chs q w 2)) from rfl, hT, zb_t c_141] <;> rfl, rfl, rfl, g1⟩
      · refine z_iconst (v := nI 1) dX12_plan_144 rfl ?_
        refine z_goto (tgt := 149) dX12_plan_145 (by decide) ?_
        refine z_ireturn dX12_plan_149 (Nat.le_of_ble_eq_true rfl) (Nat.le_of_ble_eq_true rfl) rfl ?_
        first
          | exact ⟨by rw [show pln q w 2 = zb (srt q w (chs q w 2)) from rfl, hT, zb_f c_141] <;> rfl, rfl, rfl, g1⟩
          | exact ⟨by rw [show pln q w 2 = zb (srt q w (chs q w 2)) from rfl, hT, zb_t c_141] <;> rfl, rfl, rfl, g1⟩
    · refine z_tableIn (tgt := 150) dX12_plan_101 (by decide) (by decide) rfl (by decide) ?_
      refine z_aload_n dX12_plan_150 rfl ?_
      refine z_getIe dX12_plan_151 fX12_322 (by first | assumption | exact And.left (by assumption)) rfl f2 ?_
      refine z_ireturn dX12_plan_154 (Nat.le_of_ble_eq_true rfl) (Nat.le_of_ble_eq_true rfl) rfl ?_
      exact ⟨by rw [show pln q w 3 = nI (stz q.1 (xof w i).2.1.1) from by unfold pln; rw [if_neg (by decide), if_neg (by decide), if_neg (by decide), if_pos rfl, hT, if_pos hi]] <;> rfl, rfl, rfl, g1⟩
    · refine z_tableOut (tgt := 155) dX12_plan_101 (Or.inr (by decide)) (by decide) ?_
      refine z_aload_n dX12_plan_155 rfl ?_
      refine z_callV0i dX12_plan_156 kX12_serving lX12_343 (by first | assumption | exact And.left (by assumption)) rfl (s_serving hm0 (g1.q hq) (by rw [hA2]; exact hB) hol) (Nat.le_of_ble_eq_true rfl) (Nat.le_of_ble_eq_true rfl) ⟨Nat.le_of_ble_eq_true rfl, Nat.le_of_ble_eq_true rfl⟩ ?_
      refine z_ireturn dX12_plan_159 (Nat.le_of_ble_eq_true rfl) (Nat.le_of_ble_eq_true rfl) rfl ?_
      exact ⟨by rw [show pln q w 4 = svr q w 2 0 0 from rfl], rfl, rfl, g1⟩

set_option maxHeartbeats 4000000 in
set_option maxRecDepth 100000 in
theorem m_plan {D : zD} {z0 nx : Nat} {L : zL} {V : zV} {m : Nat} {w : Wo} (hm : sM L m) (h : MW V m w) {x : Int32} (hol : ∀ i, i < 2 → (xof w i).1.1 = 4 → 1 ≤ (xof w i).2.1.1.length) (hnd : ∀ i, i < 2 → ndc (xof w i).2.1.1) : Sp D z0 7 0 0 mX12_plan [.ref m, .int x] L V nx (zq (some (.int (o_plan x w).1)) L nx (fun V' => zEq V V' m (m + 16) ∧ MW V' m (o_plan x w).2)) := by
  have hm0 := hm
  have h0 := h
  obtain ⟨a0, a1, a2, a3, a4, a5, a6, a7, a8, a9, a10, a11, a12, a13, a14, a15⟩ := hm
  refine Sp.of 3 (by decide) rfl rfl (Nat.le_of_ble_eq_true rfl) ?_
  refine z_aload_n dX12_plan_0 rfl ?_
  refine z_iconst (v := nI 0) dX12_plan_1 rfl ?_
  refine z_putI dX12_plan_2 fX12_1 (by first | assumption | exact And.left (by assumption)) rfl ?_
  have h9 := MW_thr (x := nI 0) h0
  have e0 : zEq V (zup V m 0 (nI 0)) m (m + 16) := zEq.rf.up (by omega) (by omega)
  generalize zup V m 0 (nI 0) = V1 at h9 e0 ⊢
  clear h0 h
  have h0 := h9
  obtain ⟨k1, k2, k3, k4, k5, k6, k7⟩ := h9
  refine z_iload_n dX12_plan_5 rfl ?_
  refine z_i2l dX12_plan_6 ?_
  refine z_lconst dX12_plan_7 rfl ?_
  refine z_ldc2 dX12_plan_8 qX12_285 ?_
  refine z_callS3i dX12_plan_11 kX12_isIn lX12_86 (s_isIn (v := x.toInt64)) (Nat.le_of_ble_eq_true rfl) (Nat.le_of_ble_eq_true rfl) ⟨Nat.le_of_ble_eq_true rfl, Nat.le_of_ble_eq_true rfl⟩ ?_
  refine z_if_neB (tgt := 20) dX12_plan_14 (by decide) (fun c_14 => ?_) (fun c_14 => ?_)
  · have c_x : rng 5 x := (rng_i (n := 4) (by decide)).mp (by rw [i64] at c_14; exact c_14)
    refine z_aload_n dX12_plan_20 rfl ?_
    refine z_getIe dX12_plan_21 fX12_53 (by first | assumption | exact And.left (by assumption)) rfl rfl ?_
    refine z_iconst (v := (-1)) dX12_plan_24 rfl ?_
    refine z_icmp_ne (tgt := 31) dX12_plan_25 (by decide) (fun c_25 => ?_) (fun c_25 => ?_)
    · obtain ⟨q, hq⟩ := Option.ne_none_iff_exists'.mp (fun z => c_25 ((Mq_some k6).mpr z))
      have hqS : MqS V1 m q := by have k6b : MqO V1 m w.2.2.2.2.2 := k6; rw [hq] at k6b; exact k6b
      obtain ⟨j, hj, rfl⟩ := c_x
      have hJ := tn_k (k := j) (by omega)
      have hR : o_plan (nI j) w = (pln q w j, w) := by unfold o_plan; rw [cif_y (rng_k hj), hq, hJ]
      refine z_iconst (v := (-1)) dX12_plan_31 rfl ?_
      refine z_istore_n dX12_plan_32 (Nat.le_of_ble_eq_true rfl) rfl ?_
      refine z_aload_n dX12_plan_33 rfl ?_
      refine z_callV0i dX12_plan_34 kX12_rowsThere lX12_334 (by first | assumption | exact And.left (by assumption)) rfl (s_mRth hm0 k1) (Nat.le_of_ble_eq_true rfl) (Nat.le_of_ble_eq_true rfl) ⟨Nat.le_of_ble_eq_true rfl, Nat.le_of_ble_eq_true rfl⟩ ?_
      refine z_istore_n dX12_plan_37 (Nat.le_of_ble_eq_true rfl) rfl ?_
      refine z_iconst (v := nI 0) dX12_plan_38 rfl ?_
      refine z_istore dX12_plan_39 (Nat.le_of_ble_eq_true rfl) rfl ?_
      have hl48 : ∀ i, i < 2 → (xof w i).2.2.1.length ≤ 48 := fun i hi => (k1.2.2.2 i hi).2.2.2.2.2.2.2.2.2.2.2.1
      rw [hR]
      refine lp_plan hm0 h0 hq hol hnd (fun V2 g1 => ?_) _ 0 V1 rfl (by omega) sE.rf
      have hA2 : V2 (m + 1) = V1 (m + 1) := g1.1 _ (by omega) (by omega)
      have hle := chs_le (q := q) (w := w) 2 (by decide)
      by_cases c : chs q w 2 < 2
      · rw [show i2n (chs q w 2) = nI (chs q w 2) from if_pos c]
        refine Z.mono (lp_p85T (D := D) (z0 := z0) (nx := nx) hm0 (by rw [hA2]; exact k1) (g1.q hqS) hj hl48 hol hnd c rfl) ?_
        intro r2 L2 V9 n9 h9
        obtain ⟨q1, q2, q3, q4⟩ := h9
        exact ⟨q1, q2, q3, e0.trans (g1.trans q4).zeq, MW_sE h0 (g1.trans q4)⟩
      · rw [show i2n (chs q w 2) = -1 from if_neg c]
        refine Z.mono (lp_p85N (D := D) (z0 := z0) (nx := nx) hm0 (by rw [hA2]; exact k1) (g1.q hqS) hj hl48 hol hnd c) ?_
        intro r2 L2 V9 n9 h9
        obtain ⟨q1, q2, q3, q4⟩ := h9
        exact ⟨q1, q2, q3, e0.trans (g1.trans q4).zeq, MW_sE h0 (g1.trans q4)⟩
    · have hqn := (Mq_some k6).mp c_25
      refine z_bipush (v := (-5)) dX12_plan_28 rfl ?_
      refine z_ireturn dX12_plan_30 (Nat.le_of_ble_eq_true rfl) (Nat.le_of_ble_eq_true rfl) rfl ?_
      rw [show o_plan x w = (-5, w) from by unfold o_plan; rw [cif_y c_x, hqn]]
      exact ⟨rfl, rfl, rfl, e0, h0⟩
  · have c_x : ¬ rng 5 x := fun z => c_14 (by rw [i64]; exact (rng_i (n := 4) (by decide)).mpr z)
    refine z_bipush (v := (-2)) dX12_plan_17 rfl ?_
    refine z_ireturn dX12_plan_19 (Nat.le_of_ble_eq_true rfl) (Nat.le_of_ble_eq_true rfl) rfl ?_
    rw [show o_plan x w = (-2, w) from by unfold o_plan; rw [cif_n c_x]]
    exact ⟨rfl, rfl, rfl, e0, h0⟩

