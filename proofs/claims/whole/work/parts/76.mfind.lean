/-! the reference: what a query finds -/
theorem pt_rs {o : List (Nat × Bool)} {p k : Nat} (hp : p < 1000000) (hk : k < 3) : pt (rk o p 3) k = rs o p k := pt_rk hp hk
theorem rk_cmp {o : List (Nat × Bool)} {a b k : Nat} (ha : a < 1000000) (hb : b < 1000000) (hk : k < 3) (h : ∀ j, j < k → rs o a j = rs o b j) : (rs o a k < rs o b k → rk o a 3 < rk o b 3) ∧ (rs o b k < rs o a k → ¬ rk o a 3 < rk o b 3) := by
  have l1 := pt_lex (rk_3 o ha).2.2 (rk_3 o hb).2.2
  rw [pt_rs ha (by decide), pt_rs ha (by decide), pt_rs ha (by decide), pt_rs hb (by decide), pt_rs hb (by decide), pt_rs hb (by decide)] at l1
  rcases (show k = 0 ∨ k = 1 ∨ k = 2 by omega) with rfl | rfl | rfl
  · omega
  · have := h 0 (by decide)
    omega
  · have := h 0 (by decide)
    have := h 1 (by decide)
    omega
theorem rk_all {o : List (Nat × Bool)} {a b : Nat} (ha : a < 1000000) (hb : b < 1000000) (h : ∀ j, j < 3 → rs o a j = rs o b j) : ¬ rk o a 3 < rk o b 3 := by
  have l1 := pt_lex (rk_3 o ha).2.2 (rk_3 o hb).2.2
  rw [pt_rs ha (by decide), pt_rs ha (by decide), pt_rs ha (by decide), pt_rs hb (by decide), pt_rs hb (by decide), pt_rs hb (by decide)] at l1
  have := h 0 (by decide)
  have := h 1 (by decide)
  have := h 2 (by decide)
  omega
theorem rs_y {o : List (Nat × Bool)} {p k : Nat} (h : k < o.length) : rs o p k = tu (o.getD k (0, false)).2 (pt p (o.getD k (0, false)).1) := if_pos h
theorem rs_n {o : List (Nat × Bool)} {p k : Nat} (h : ¬ k < o.length) : rs o p k = 0 := if_neg h
theorem rs_step {o : List (Nat × Bool)} {a b j : Nat} (hj : j < o.length) (h : ∀ i, i < j → rs o a i = rs o b i) (e : pt a (o.getD j (0, false)).1 = pt b (o.getD j (0, false)).1) : ∀ i, i < j + 1 → rs o a i = rs o b i := fun i hi => by
  by_cases c : i = j
  · rw [c, rs_y hj, rs_y hj, e]
  · exact h i (by omega)
theorem rs_end {o : List (Nat × Bool)} {a b : Nat} (h : ∀ i, i < o.length → rs o a i = rs o b i) : ∀ i, i < 3 → rs o a i = rs o b i := fun i _ => by
  by_cases c : i < o.length
  · exact h i c
  · rw [rs_n c, rs_n c]
theorem rk_up {o : List (Nat × Bool)} {a b j : Nat} (ha : a < 1000000) (hb : b < 1000000) (hl : o.length ≤ 3) (hj : j < o.length) (h : ∀ i, i < j → rs o a i = rs o b i) (hd : ¬ (o.getD j (0, false)).2 = true) : (pt a (o.getD j (0, false)).1 < pt b (o.getD j (0, false)).1 → rk o a 3 < rk o b 3) ∧ (pt b (o.getD j (0, false)).1 < pt a (o.getD j (0, false)).1 → ¬ rk o a 3 < rk o b 3) := by
  have := rk_cmp ha hb (show j < 3 by omega) h
  rw [rs_y hj, rs_y hj] at this
  have e : (o.getD j (0, false)).2 = false := by simpa using hd
  rw [e] at this
  exact this
theorem rk_dn {o : List (Nat × Bool)} {a b j : Nat} (ha : a < 1000000) (hb : b < 1000000) (hl : o.length ≤ 3) (hj : j < o.length) (h : ∀ i, i < j → rs o a i = rs o b i) (hd : (o.getD j (0, false)).2 = true) : (pt b (o.getD j (0, false)).1 < pt a (o.getD j (0, false)).1 → rk o a 3 < rk o b 3) ∧ (pt a (o.getD j (0, false)).1 < pt b (o.getD j (0, false)).1 → ¬ rk o a 3 < rk o b 3) := by
  have := rk_cmp ha hb (show j < 3 by omega) h
  have pa := pt_lt (o.getD j (0, false)).1 ha
  have pb := pt_lt (o.getD j (0, false)).1 hb
  rw [rs_y hj, rs_y hj, hd] at this
  simp only [tu, if_true] at this
  exact ⟨fun q => this.1 (by omega), fun q => this.2 (by omega)⟩
theorem kc_9 {o : List (Nat × Bool)} {k : Nat} (h : (o.getD k (0, false)).1 < 3) : (o.getD k (0, false)).2 = true ↔ ¬ kc o k ≤ 9 := by
  unfold kc
  by_cases c : (o.getD k (0, false)).2 = true
  · rw [if_pos c]
    exact ⟨fun _ => by omega, fun _ => c⟩
  · rw [if_neg c]
    exact ⟨fun q => absurd q c, fun q => absurd (by omega) q⟩
theorem dI_ne {x y : Nat} (hx : x < 100) (hy : y < 100) (h : ¬ nI x - nI y = 0) : x < y ∨ y < x := by
  have := (dI_lt hx hy).2.2
  rcases Nat.lt_trichotomy x y with q | q | q
  · exact Or.inl q
  · exact absurd (this.mpr q) h
  · exact Or.inr q
theorem dI_le {x y : Nat} (hx : x < 100) (hy : y < 100) : (nI x - nI y ≤ 0 ↔ ¬ y < x) ∧ (0 ≤ nI x - nI y ↔ ¬ x < y) := by
  obtain ⟨h1, h2, _⟩ := dI_lt hx hy
  exact ⟨by rw [← h2, Int32.not_lt], by rw [← h1, Int32.not_lt]⟩

set_option maxHeartbeats 4000000 in
set_option maxRecDepth 100000 in
theorem lp_akeys {D : zD} {z0 nx : Nat} {L : zL} {V : zV} {m pa pb a b : Nat} {q : Qu} (hm : sM L m) (hq : MqS V m q) (hA : AT (V (m + 1)) pa (some a)) (hB : AT (V (m + 1)) pb (some b)) (hpa : pa + 5 ≤ 5343) (hpb : pb + 5 ≤ 5343) : ∀ (fu : Nat) (j : Nat), 3 - j = fu → j ≤ q.2.length → (∀ i, i < j → rs q.2 a i = rs q.2 b i) → Z D z0 1 0 0 mX12_isAheadByKeys 0 0 2 [some (.ref m), some (.int (nI pa)), some (.int (nI pb)), some (.int (nI j)), none] [] L V nx (zi (zb (rk q.2 a 3 < rk q.2 b 3)) L V nx) := by
  intro fu
  induction fu using Nat.strongRecOn with
  | ind fu ih =>
    intro j h_fu h_0 h_1
    have hm0 := hm
    obtain ⟨a0, a1, a2, a3, a4, a5, a6, a7, a8, a9, a10, a11, a12, a13, a14, a15⟩ := hm
    obtain ⟨q1, q2, q3, q4, q5, q6⟩ := hq
    obtain ⟨A1, A2, A3⟩ := hA
    obtain ⟨B1, B2, B3⟩ := hB
    refine z_iload_n dX12_isAheadByKeys_2 rfl ?_
    refine z_aload_n dX12_isAheadByKeys_3 rfl ?_
    refine z_getIe dX12_isAheadByKeys_4 fX12_298 (by first | assumption | exact And.left (by assumption)) rfl q4 ?_
    refine z_icmp_geN (tgt := 95) dX12_isAheadByKeys_7 (by decide) (by omega) (by omega) (fun c_7 => ?_) (fun c_7 => ?_)
    · refine z_iconst (v := nI 0) dX12_isAheadByKeys_95 rfl ?_
      refine z_zreturn dX12_isAheadByKeys_96 (Nat.le_of_ble_eq_true rfl) (Nat.le_of_ble_eq_true rfl) rfl (by first | exact Or.inl rfl | exact Or.inr rfl | exact zb_01 _ | assumption) ?_
      exact zi_r (by rw [zb_f (rk_all A2 B2 (rs_end (fun i hi => h_1 i (by omega))))] <;> rfl)
    · obtain ⟨u1, u2⟩ := q6 j (by omega)
      obtain ⟨u3, u4⟩ := kc_10 u2
      have u5 := kc_9 u2
      have va := A3 (kc q.2 j % 10) (by omega)
      have vb := B3 (kc q.2 j % 10) (by omega)
      have la := pt_lt (q.2.getD j (0, false)).1 A2
      have lb := pt_lt (q.2.getD j (0, false)).1 B2
      rw [u3] at va vb
      refine z_aload_n dX12_isAheadByKeys_10 rfl ?_
      refine z_getR dX12_isAheadByKeys_11 fX12_13 (by first | assumption | exact And.left (by assumption)) rfl ?_
      refine z_iload_n dX12_isAheadByKeys_14 rfl ?_
      refine z_iconst (v := nI 2) dX12_isAheadByKeys_15 rfl ?_
      refine z_addN dX12_isAheadByKeys_16 ?_
      refine z_aload_n dX12_isAheadByKeys_17 rfl ?_
      refine z_getR dX12_isAheadByKeys_18 fX12_47 (by first | assumption | exact And.left (by assumption)) rfl ?_
      refine z_iload_n dX12_isAheadByKeys_21 rfl ?_
      refine z_ialdN dX12_isAheadByKeys_22 (by first | assumption | exact And.left (by assumption)) (by omega) (by decide) u1 ?_
      refine z_bipush (v := nI 10) dX12_isAheadByKeys_23 rfl ?_
      refine z_remN dX12_isAheadByKeys_25 (by omega) (by omega) (by omega) ?_
      rw [u3]
      refine z_addN dX12_isAheadByKeys_26 ?_
      refine z_ialdN dX12_isAheadByKeys_27 (by first | assumption | exact And.left (by assumption)) (by omega) (by decide) va ?_
      refine z_aload_n dX12_isAheadByKeys_28 rfl ?_
      refine z_getR dX12_isAheadByKeys_29 fX12_13 (by first | assumption | exact And.left (by assumption)) rfl ?_
      refine z_iload_n dX12_isAheadByKeys_32 rfl ?_
      refine z_iconst (v := nI 2) dX12_isAheadByKeys_33 rfl ?_
      refine z_addN dX12_isAheadByKeys_34 ?_
      refine z_aload_n dX12_isAheadByKeys_35 rfl ?_
      refine z_getR dX12_isAheadByKeys_36 fX12_47 (by first | assumption | exact And.left (by assumption)) rfl ?_
      refine z_iload_n dX12_isAheadByKeys_39 rfl ?_
      refine z_ialdN dX12_isAheadByKeys_40 (by first | assumption | exact And.left (by assumption)) (by omega) (by decide) u1 ?_
      refine z_bipush (v := nI 10) dX12_isAheadByKeys_41 rfl ?_
      refine z_remN dX12_isAheadByKeys_43 (by omega) (by omega) (by omega) ?_
      rw [u3]
      refine z_addN dX12_isAheadByKeys_44 ?_
      refine z_ialdN dX12_isAheadByKeys_45 (by first | assumption | exact And.left (by assumption)) (by omega) (by decide) vb ?_
      refine z_isub dX12_isAheadByKeys_46 ?_
      refine z_istore dX12_isAheadByKeys_47 (Nat.le_of_ble_eq_true rfl) rfl ?_
      refine z_iload dX12_isAheadByKeys_49 rfl ?_
      refine z_if_eq (tgt := 89) dX12_isAheadByKeys_51 (by decide) (fun c_51 => ?_) (fun c_51 => ?_)
      · have e := (dI_lt la lb).2.2.mp c_51
        refine z_incN dX12_isAheadByKeys_89 rfl rfl ?_
        refine z_goto (tgt := 2) dX12_isAheadByKeys_92 (by decide) ?_
        refine z_fg 4 ?_
        exact ih _ (by omega) (j + 1) rfl (by omega) (rs_step (by omega) h_1 e)
      · have hne := dI_ne la lb c_51
        refine z_aload_n dX12_isAheadByKeys_54 rfl ?_
        refine z_getR dX12_isAheadByKeys_55 fX12_47 (by first | assumption | exact And.left (by assumption)) rfl ?_
        refine z_iload_n dX12_isAheadByKeys_58 rfl ?_
        refine z_ialdN dX12_isAheadByKeys_59 (by first | assumption | exact And.left (by assumption)) (by omega) (by decide) (by first | assumption | exact zup_s _ _ _ _ | rfl) ?_
        refine z_bipush (v := nI 9) dX12_isAheadByKeys_60 rfl ?_
        refine z_icmp_leN (tgt := 78) dX12_isAheadByKeys_62 (by decide) (by omega) (by omega) (fun c_62 => ?_) (fun c_62 => ?_)
        · have hd : ¬ (q.2.getD j (0, false)).2 = true := fun z => u5.mp z c_62
          have hk := rk_up A2 B2 q5 (by omega) h_1 hd
          refine z_iload dX12_isAheadByKeys_78 rfl ?_
          refine z_if_ge (tgt := 87) dX12_isAheadByKeys_80 (by decide) (fun c_80 => ?_) (fun c_80 => ?_)
          · have hv := (dI_le la lb).2.mp c_80
            refine z_iconst (v := nI 0) dX12_isAheadByKeys_87 rfl ?_
            refine z_zreturn dX12_isAheadByKeys_88 (Nat.le_of_ble_eq_true rfl) (Nat.le_of_ble_eq_true rfl) rfl (by first | exact Or.inl rfl | exact Or.inr rfl | exact zb_01 _ | assumption) ?_
            first
              | exact zi_r (by rw [zb_t (hk.1 (by omega))] <;> rfl)
              | exact zi_r (by rw [zb_f (hk.2 (by omega))] <;> rfl)
          · have hv : _ := Classical.byContradiction (fun z => c_80 ((dI_le la lb).2.mpr z))
            refine z_iconst (v := nI 1) dX12_isAheadByKeys_83 rfl ?_
            refine z_goto (tgt := 88) dX12_isAheadByKeys_84 (by decide) ?_
            refine z_zreturn dX12_isAheadByKeys_88 (Nat.le_of_ble_eq_true rfl) (Nat.le_of_ble_eq_true rfl) rfl (by first | exact Or.inl rfl | exact Or.inr rfl | exact zb_01 _ | assumption) ?_
            first
              | exact zi_r (by rw [zb_t (hk.1 (by omega))] <;> rfl)
              | exact zi_r (by rw [zb_f (hk.2 (by omega))] <;> rfl)
        · have hk := rk_dn A2 B2 q5 (by omega) h_1 (u5.mpr (by omega))
          refine z_iload dX12_isAheadByKeys_65 rfl ?_
          refine z_if_le (tgt := 74) dX12_isAheadByKeys_67 (by decide) (fun c_67 => ?_) (fun c_67 => ?_)
          · have hv := (dI_le la lb).1.mp c_67
            refine z_iconst (v := nI 0) dX12_isAheadByKeys_74 rfl ?_
            refine z_goto (tgt := 88) dX12_isAheadByKeys_75 (by decide) ?_
            refine z_zreturn dX12_isAheadByKeys_88 (Nat.le_of_ble_eq_true rfl) (Nat.le_of_ble_eq_true rfl) rfl (by first | exact Or.inl rfl | exact Or.inr rfl | exact zb_01 _ | assumption) ?_
            first
              | exact zi_r (by rw [zb_t (hk.1 (by omega))] <;> rfl)
              | exact zi_r (by rw [zb_f (hk.2 (by omega))] <;> rfl)
          · have hv : _ := Classical.byContradiction (fun z => c_67 ((dI_le la lb).1.mpr z))
            refine z_iconst (v := nI 1) dX12_isAheadByKeys_70 rfl ?_
            refine z_goto (tgt := 88) dX12_isAheadByKeys_71 (by decide) ?_
            refine z_zreturn dX12_isAheadByKeys_88 (Nat.le_of_ble_eq_true rfl) (Nat.le_of_ble_eq_true rfl) rfl (by first | exact Or.inl rfl | exact Or.inr rfl | exact zb_01 _ | assumption) ?_
            first
              | exact zi_r (by rw [zb_t (hk.1 (by omega))] <;> rfl)
              | exact zi_r (by rw [zb_f (hk.2 (by omega))] <;> rfl)

set_option maxHeartbeats 4000000 in
set_option maxRecDepth 100000 in
theorem s_akeys {D : zD} {z0 nx : Nat} {L : zL} {V : zV} {m pa pb a b : Nat} {q : Qu} (hm : sM L m) (hq : MqS V m q) (hA : AT (V (m + 1)) pa (some a)) (hB : AT (V (m + 1)) pb (some b)) (hpa : pa + 5 ≤ 5343) (hpb : pb + 5 ≤ 5343) : Sp D z0 1 0 0 mX12_isAheadByKeys [.ref m, .int (nI pa), .int (nI pb)] L V nx (zi (zb (rk q.2 a 3 < rk q.2 b 3)) L V nx) := by
  refine Sp.of 2 (by decide) rfl rfl (Nat.le_of_ble_eq_true rfl) ?_
  refine z_iconst (v := nI 0) dX12_isAheadByKeys_0 rfl ?_
  refine z_istore_n dX12_isAheadByKeys_1 (Nat.le_of_ble_eq_true rfl) rfl ?_
  exact lp_akeys hm hq hA hB hpa hpb _ 0 rfl (by omega) (fun i hi => absurd hi (by omega))

def fk (q : Qu) (v : Option Nat) (j : Nat) : Prop := ∃ p, v = some p ∧ ∀ k, k < j → fo (ck q.1 k) p
theorem fk_0 {f : Nat → Int32} {p : Nat} {q : Qu} {v : Option Nat} (h : AT f p v) : f (p + 1) = zb (fk q v 0) := by
  cases v with
  | none => rw [zb_f (fun ⟨_, z, _⟩ => by cases z)]; exact h
  | some x => rw [zb_t ⟨x, rfl, fun k hk => absurd hk (by omega)⟩]; exact h.1

set_option maxHeartbeats 4000000 in
set_option maxRecDepth 100000 in
theorem lp_does {D : zD} {z0 nx : Nat} {L : zL} {V : zV} {m p : Nat} {q : Qu} {v : Option Nat} (hm : sM L m) (hq : MqS V m q) (hA : AT (V (m + 1)) p v) (hp : p + 5 ≤ 5343) : ∀ (fu : Nat) (j : Nat) (x : Int32), 4 - j = fu → j ≤ q.1.length → x = zb (fk q v j) → Z D z0 2 0 0 mX12_doesFind 0 0 20 [some (.ref m), some (.int (nI p)), some (.int x), some (.int (nI j))] [] L V nx (zi (zb (fk q v q.1.length)) L V nx) := by
  intro fu
  induction fu using Nat.strongRecOn with
  | ind fu ih =>
    intro j x h_fu h_0 h_1
    have hm0 := hm
    obtain ⟨a0, a1, a2, a3, a4, a5, a6, a7, a8, a9, a10, a11, a12, a13, a14, a15⟩ := hm
    obtain ⟨q1, q2, q3, q4, q5, q6⟩ := hq
    subst h_1
    refine z_iload_n dX12_doesFind_20 rfl ?_
    refine z_aload_n dX12_doesFind_21 rfl ?_
    refine z_getIe dX12_doesFind_22 fX12_53 (by first | assumption | exact And.left (by assumption)) rfl q1 ?_
    refine z_icmp_geN (tgt := 87) dX12_doesFind_25 (by decide) (by omega) (by omega) (fun c_25 => ?_) (fun c_25 => ?_)
    · have ej : j = q.1.length := by omega
      subst ej
      refine z_iload_n dX12_doesFind_87 rfl ?_
      refine z_zreturn dX12_doesFind_88 (Nat.le_of_ble_eq_true rfl) (Nat.le_of_ble_eq_true rfl) rfl (by first | exact Or.inl rfl | exact Or.inr rfl | exact zb_01 _ | assumption) ?_
      exact zi_r rfl
    · obtain ⟨u1, u2, u3, u4, u5, u6⟩ := q3 j (by omega)
      refine z_iload_n dX12_doesFind_28 rfl ?_
      refine z_if_eqB (tgt := 79) dX12_doesFind_29 (by decide) (fun c_29 => ?_) (fun c_29 => ?_)
      · have hN : ¬ fk q v (j + 1) := fun ⟨y, z1, z2⟩ => c_29 ⟨y, z1, fun k hk => z2 k (by omega)⟩
        refine z_iconst (v := nI 0) dX12_doesFind_79 rfl ?_
        refine z_istore_n dX12_doesFind_80 (Nat.le_of_ble_eq_true rfl) rfl ?_
        refine z_incN dX12_doesFind_81 rfl rfl ?_
        refine z_goto (tgt := 20) dX12_doesFind_84 (by decide) ?_
        first
          | exact ih _ (by omega) (j + 1) _ rfl (by omega) (zb_t hY).symm
          | exact ih _ (by omega) (j + 1) _ rfl (by omega) (zb_f hN).symm
      · obtain ⟨y, z1, z2⟩ := id c_29
        subst z1
        obtain ⟨A1, A2, A3⟩ := hA
        have va := A3 (ck q.1 j).1 u4
        have la := pt_lt (ck q.1 j).1 A2
        refine z_aload_n dX12_doesFind_32 rfl ?_
        refine z_getR dX12_doesFind_33 fX12_44 (by first | assumption | exact And.left (by assumption)) rfl ?_
        refine z_iconst (v := nI 3) dX12_doesFind_36 rfl ?_
        refine z_iload_n dX12_doesFind_37 rfl ?_
        refine z_mulN dX12_doesFind_38 ?_
        refine z_iconst (v := nI 1) dX12_doesFind_39 rfl ?_
        refine z_addN dX12_doesFind_40 ?_
        refine z_ialdN dX12_doesFind_41 (by first | assumption | exact And.left (by assumption)) (by omega) (by decide) u2 ?_
        refine z_aload_n dX12_doesFind_42 rfl ?_
        refine z_getR dX12_doesFind_43 fX12_13 (by first | assumption | exact And.left (by assumption)) rfl ?_
        refine z_iload_n dX12_doesFind_46 rfl ?_
        refine z_iconst (v := nI 2) dX12_doesFind_47 rfl ?_
        refine z_addN dX12_doesFind_48 ?_
        refine z_aload_n dX12_doesFind_49 rfl ?_
        refine z_getR dX12_doesFind_50 fX12_44 (by first | assumption | exact And.left (by assumption)) rfl ?_
        refine z_iconst (v := nI 3) dX12_doesFind_53 rfl ?_
        refine z_iload_n dX12_doesFind_54 rfl ?_
        refine z_mulN dX12_doesFind_55 ?_
        refine z_ialdN dX12_doesFind_56 (by first | assumption | exact And.left (by assumption)) (by omega) (by decide) u1 ?_
        refine z_addN dX12_doesFind_57 ?_
        refine z_ialdN dX12_doesFind_58 (by first | assumption | exact And.left (by assumption)) (by omega) (by decide) va ?_
        refine z_aload_n dX12_doesFind_59 rfl ?_
        refine z_getR dX12_doesFind_60 fX12_44 (by first | assumption | exact And.left (by assumption)) rfl ?_
        refine z_iconst (v := nI 3) dX12_doesFind_63 rfl ?_
        refine z_iload_n dX12_doesFind_64 rfl ?_
        refine z_mulN dX12_doesFind_65 ?_
        refine z_iconst (v := nI 2) dX12_doesFind_66 rfl ?_
        refine z_addN dX12_doesFind_67 ?_
        refine z_ialdN dX12_doesFind_68 (by first | assumption | exact And.left (by assumption)) (by omega) (by decide) u3 ?_
        refine z_callS3i dX12_doesFind_69 kX12_holds lX12_107 (s_holds u5 (by omega) (by omega)) (Nat.le_of_ble_eq_true rfl) (Nat.le_of_ble_eq_true rfl) ⟨Nat.le_of_ble_eq_true rfl, Nat.le_of_ble_eq_true rfl⟩ ?_
        refine z_if_eqB (tgt := 79) dX12_doesFind_72 (by decide) (fun c_72 => ?_) (fun c_72 => ?_)
        · have hN : ¬ fk q (some y) (j + 1) := fun ⟨y2, w1, w2⟩ => by
            cases w1
            exact c_72 (w2 j (by omega))
          refine z_iconst (v := nI 0) dX12_doesFind_79 rfl ?_
          refine z_istore_n dX12_doesFind_80 (Nat.le_of_ble_eq_true rfl) rfl ?_
          refine z_incN dX12_doesFind_81 rfl rfl ?_
          refine z_goto (tgt := 20) dX12_doesFind_84 (by decide) ?_
          first
            | exact ih _ (by omega) (j + 1) _ rfl (by omega) (zb_t hY).symm
            | exact ih _ (by omega) (j + 1) _ rfl (by omega) (zb_f hN).symm
        · have hY : fk q (some y) (j + 1) := ⟨y, rfl, fun k hk => by
            by_cases e : k = j
            · rw [e]; exact c_72
            · exact z2 k (by omega)⟩
          refine z_iconst (v := nI 1) dX12_doesFind_75 rfl ?_
          refine z_goto (tgt := 80) dX12_doesFind_76 (by decide) ?_
          refine z_istore_n dX12_doesFind_80 (Nat.le_of_ble_eq_true rfl) rfl ?_
          refine z_incN dX12_doesFind_81 rfl rfl ?_
          refine z_goto (tgt := 20) dX12_doesFind_84 (by decide) ?_
          first
            | exact ih _ (by omega) (j + 1) _ rfl (by omega) (zb_t hY).symm
            | exact ih _ (by omega) (j + 1) _ rfl (by omega) (zb_f hN).symm

set_option maxHeartbeats 4000000 in
set_option maxRecDepth 100000 in
theorem s_does {D : zD} {z0 nx : Nat} {L : zL} {V : zV} {m p : Nat} {q : Qu} {v : Option Nat} (hm : sM L m) (hq : MqS V m q) (hA : AT (V (m + 1)) p v) (hp : p + 5 ≤ 5343) : Sp D z0 2 0 0 mX12_doesFind [.ref m, .int (nI p)] L V nx (zi (zb (fk q v q.1.length)) L V nx) := by
  have hm0 := hm
  obtain ⟨a0, a1, a2, a3, a4, a5, a6, a7, a8, a9, a10, a11, a12, a13, a14, a15⟩ := hm
  have h0 := fk_0 (q := q) hA
  refine Sp.of 2 (by decide) rfl rfl (Nat.le_of_ble_eq_true rfl) ?_
  refine z_aload_n dX12_doesFind_0 rfl ?_
  refine z_getR dX12_doesFind_1 fX12_13 (by first | assumption | exact And.left (by assumption)) rfl ?_
  refine z_iload_n dX12_doesFind_4 rfl ?_
  refine z_iconst (v := nI 1) dX12_doesFind_5 rfl ?_
  refine z_addN dX12_doesFind_6 ?_
  refine z_ialdN dX12_doesFind_7 (by first | assumption | exact And.left (by assumption)) (by omega) (by decide) h0 ?_
  refine z_iconst (v := nI 1) dX12_doesFind_8 rfl ?_
  refine z_icmp_ne (tgt := 16) dX12_doesFind_9 (by decide) (fun c_9 => ?_) (fun c_9 => ?_)
  · refine z_iconst (v := nI 0) dX12_doesFind_16 rfl ?_
    refine z_istore_n dX12_doesFind_17 (Nat.le_of_ble_eq_true rfl) rfl ?_
    first
      | (have e : fk q v 0 := Classical.byContradiction (fun z => by rw [zb_f z] at c_9; exact absurd c_9 (by decide))
         exact (fun (k : Z D z0 2 0 0 mX12_doesFind 0 0 18 [some (.ref m), some (.int (nI p)), some (.int (nI 1)), none] [] L V nx (zi (zb (fk q v q.1.length)) L V nx)) => k) (by
           refine z_iconst (v := nI 0) dX12_doesFind_18 rfl ?_
           refine z_istore_n dX12_doesFind_19 (Nat.le_of_ble_eq_true rfl) rfl ?_
           exact lp_does hm0 hq hA hp _ 0 _ rfl (by omega) (zb_t e).symm))
      | (have e : ¬ fk q v 0 := fun z => c_9 (by rw [zb_t z] <;> rfl)
         refine z_iconst (v := nI 0) dX12_doesFind_18 rfl ?_
         refine z_istore_n dX12_doesFind_19 (Nat.le_of_ble_eq_true rfl) rfl ?_
         exact lp_does hm0 hq hA hp _ 0 _ rfl (by omega) (zb_f e).symm)
  · refine z_iconst (v := nI 1) dX12_doesFind_12 rfl ?_
    refine z_goto (tgt := 17) dX12_doesFind_13 (by decide) ?_
    refine z_istore_n dX12_doesFind_17 (Nat.le_of_ble_eq_true rfl) rfl ?_
    first
      | (have e : fk q v 0 := Classical.byContradiction (fun z => by rw [zb_f z] at c_9; exact absurd c_9 (by decide))
         exact (fun (k : Z D z0 2 0 0 mX12_doesFind 0 0 18 [some (.ref m), some (.int (nI p)), some (.int (nI 1)), none] [] L V nx (zi (zb (fk q v q.1.length)) L V nx)) => k) (by
           refine z_iconst (v := nI 0) dX12_doesFind_18 rfl ?_
           refine z_istore_n dX12_doesFind_19 (Nat.le_of_ble_eq_true rfl) rfl ?_
           exact lp_does hm0 hq hA hp _ 0 _ rfl (by omega) (zb_t e).symm))
      | (have e : ¬ fk q v 0 := fun z => c_9 (by rw [zb_t z] <;> rfl)
         refine z_iconst (v := nI 0) dX12_doesFind_18 rfl ?_
         refine z_istore_n dX12_doesFind_19 (Nat.le_of_ble_eq_true rfl) rfl ?_
         exact lp_does hm0 hq hA hp _ 0 _ rfl (by omega) (zb_f e).symm)

theorem gf_n {q : Qu} {f : Nat → Option Nat} {r : Nat} (h : ¬ fk q (f r) q.1.length) : gf q f (r + 1) = gf q f r := by
  rw [gf]
  cases hf : f r with
  | none => rfl
  | some p => exact cif_n (fun z => h ⟨p, hf, z⟩)
theorem gf_y {q : Qu} {f : Nat → Option Nat} {r p : Nat} (hp : f r = some p) (h : fk q (f r) q.1.length) : gf q f (r + 1) = inc (rk q.2 p 3 * 64 + r) (gf q f r) := by
  rw [gf, hp]
  refine cif_y ?_
  obtain ⟨p2, h1, h2⟩ := h
  rw [hp] at h1
  cases h1
  exact h2
theorem gf_ok {q : Qu} {f : Nat → Option Nat} : ∀ {n : Nat}, n ≤ 48 → PW (gf q f n) ∧ (∀ c, c ∈ gf q f n → ∃ r p, r < n ∧ f r = some p ∧ c = rk q.2 p 3 * 64 + r) ∧ (gf q f n).length ≤ n
  | 0, _ => ⟨PW_nil, fun c hc => absurd hc (by simp [gf]), by simp [gf]⟩
  | n + 1, hn => by
    obtain ⟨h1, h2, h3⟩ := gf_ok (q := q) (f := f) (n := n) (by omega)
    by_cases h : fk q (f n) q.1.length
    · obtain ⟨p, e, h4⟩ := id h
      rw [gf_y e h]
      have hx : ¬ rk q.2 p 3 * 64 + n ∈ gf q f n := fun z => by
        obtain ⟨r, p2, z1, z2, z3⟩ := h2 _ z
        omega
      rw [inc_new h1 hx (by omega)]
      refine ⟨insR_pw h1 hx, fun c hc => ?_, by rw [insR_len]; omega⟩
      rcases insR_mem.mp hc with z | z
      · exact ⟨n, p, by omega, e, z⟩
      · obtain ⟨r, p2, z1, z2, z3⟩ := h2 _ z
        exact ⟨r, p2, by omega, z2, z3⟩
    · rw [gf_n h]
      exact ⟨h1, fun c hc => by obtain ⟨r, p2, z1, z2, z3⟩ := h2 _ hc; exact ⟨r, p2, by omega, z2, z3⟩, by omega⟩
/-- only what is found has changed -/
def fE (V V' : zV) (m : Nat) : Prop := (∀ q, q ≠ m → q ≠ m + 12 → V' q = V q) ∧ ∀ j, j ≠ 28 → V' m j = V m j
theorem fE.rf {V : zV} {m : Nat} : fE V V m := ⟨fun _ _ _ => rfl, fun _ _ => rfl⟩
theorem fE.q {V V' : zV} {m : Nat} {q : Qu} (h : fE V V' m) (hq : MqS V m q) : MqS V' m q := by
  obtain ⟨q1, q2, q3, q4, q5, q6⟩ := hq
  exact ⟨by rw [h.2 24 (by decide)]; exact q1, q2, fun k hk => by rw [h.1 (m + 9) (by omega) (by omega)]; exact q3 k hk, by rw [h.2 25 (by decide)]; exact q4, q5, fun k hk => by rw [h.1 (m + 10) (by omega) (by omega)]; exact q6 k hk⟩

set_option maxHeartbeats 4000000 in
set_option maxRecDepth 100000 in
theorem lp_fshift {D : zD} {z0 nx : Nat} {L : zL} {V : zV} {m : Nat} {q : Qu} {t : Int32} (hm : sM L m) (hq : MqS V m q) (P : Nat → Nat) (f : Nat → Option Nat) (hP : ∀ r, r < 48 → P r + 5 ≤ 5343 ∧ AT (V (m + 1)) (P r) (f r) ∧ ∀ V2 : zV, V2 (m + 1) = V (m + 1) → Sp D z0 4 0 0 mX12_placeSeen [.ref m, .int t, .int (nI r)] L V2 nx (zi (nI (P r)) L V2 nx)) {r a : Nat} (hr : r < 48) (ha : f r = some a) {P2 : zP} (K : ∀ V2, fE V V2 m → V2 m 28 = nI (gf q f r).length → (∀ j, j < pl (rk q.2 a 3 * 64 + r) (gf q f r) → V2 (m + 12) j = nI ((gf q f r).getD j 0 % 64)) → (∀ j, pl (rk q.2 a 3 * 64 + r) (gf q f r) ≤ j → j < (gf q f r).length → V2 (m + 12) (j + 1) = nI ((gf q f r).getD j 0 % 64)) → Z D z0 5 0 0 mX12_finds 0 0 86 [some (.ref m), some (.int t), some (.int (nI r)), some (.int (nI (P r))), some (.int (nI (pl (rk q.2 a 3 * 64 + r) (gf q f r))))] [] L V2 nx P2) : ∀ (fu : Nat) (k : Nat) (V1 : zV), k = fu → k ≤ (gf q f r).length → fE V V1 m → V1 m 28 = nI (gf q f r).length → (∀ j, j < k → V1 (m + 12) j = nI ((gf q f r).getD j 0 % 64)) → (∀ j, k ≤ j → j < (gf q f r).length → V1 (m + 12) (j + 1) = nI ((gf q f r).getD j 0 % 64) ∧ (rk q.2 a 3 * 64 + r) < (gf q f r).getD j 0) → Z D z0 5 0 0 mX12_finds 0 0 37 [some (.ref m), some (.int t), some (.int (nI r)), some (.int (nI (P r))), some (.int (nI k))] [] L V1 nx (P2) := by
  intro fu
  induction fu using Nat.strongRecOn with
  | ind fu ih =>
    intro k V1 h_fu h_0 h_1 h_2 h_3 h_4
    have hm0 := hm
    obtain ⟨a0, a1, a2, a3, a4, a5, a6, a7, a8, a9, a10, a11, a12, a13, a14, a15⟩ := hm
    obtain ⟨w1, w2, w3⟩ := gf_ok (q := q) (f := f) (n := r) (by omega)
    obtain ⟨p1, p2, p3⟩ := hP r hr
    rw [ha] at p2
    have hq1 := h_1.q hq
    have hA1 : V1 (m + 1) = V (m + 1) := h_1.1 _ (by omega) (by omega)
    have hst : (∀ j, j < k → (gf q f r).getD j 0 < (rk q.2 a 3 * 64 + r)) → pl (rk q.2 a 3 * 64 + r) (gf q f r) = k := fun z => pl_eq _ _ k z (by omega) (fun z2 => by have := (h_4 k (by omega) z2).2; omega)
    refine z_iload dX12_finds_37 rfl ?_
    refine z_if_leN (tgt := 86) dX12_finds_39 (by decide) (by omega) (fun c_39 => ?_) (fun c_39 => ?_)
    · have e := hst (fun j hj => absurd hj (by omega))
      rw [show nI k = nI (pl (rk q.2 a 3 * 64 + r) (gf q f r)) from by rw [e]]
      refine K V1 h_1 h_2 (fun j hj => h_3 j (by omega)) (fun j j1 j2 => (h_4 j (by omega) j2).1)
    · obtain ⟨r0, a0b, z1, z2, z3⟩ := w2 ((gf q f r).getD (k - 1) 0) (mem_getD (by omega))
      have z4 : (gf q f r).getD (k - 1) 0 % 64 = r0 := by omega
      have hv := h_3 (k - 1) (by omega)
      rw [z4] at hv
      obtain ⟨y1, y2, y3⟩ := hP r0 (by omega)
      rw [z2] at y2
      refine z_aload_n dX12_finds_42 rfl ?_
      refine z_iload_n dX12_finds_43 rfl ?_
      refine z_aload_n dX12_finds_44 rfl ?_
      refine z_iload_n dX12_finds_45 rfl ?_
      refine z_aload_n dX12_finds_46 rfl ?_
      refine z_getR dX12_finds_47 fX12_56 (by first | assumption | exact And.left (by assumption)) rfl ?_
      refine z_iload dX12_finds_50 rfl ?_
      refine z_iconst (v := nI 1) dX12_finds_52 rfl ?_
      refine z_subN dX12_finds_53 (by omega) ?_
      refine z_ialdN dX12_finds_54 (by first | assumption | exact And.left (by assumption)) (by omega) (by decide) hv ?_
      refine z_callV2i dX12_finds_55 kX12_placeSeen lX12_304 (by first | assumption | exact And.left (by assumption)) rfl (y3 V1 hA1) (Nat.le_of_ble_eq_true rfl) (Nat.le_of_ble_eq_true rfl) ⟨Nat.le_of_ble_eq_true rfl, Nat.le_of_ble_eq_true rfl⟩ ?_
      refine z_callV2i dX12_finds_58 kX12_isAheadByKeys lX12_310 (by first | assumption | exact And.left (by assumption)) rfl (s_akeys hm0 hq1 (by rw [hA1]; exact p2) (by rw [hA1]; exact y2) p1 y1) (Nat.le_of_ble_eq_true rfl) (Nat.le_of_ble_eq_true rfl) ⟨Nat.le_of_ble_eq_true rfl, Nat.le_of_ble_eq_true rfl⟩ ?_
      refine z_if_eqB (tgt := 86) dX12_finds_61 (by decide) (fun c_61 => ?_) (fun c_61 => ?_)
      · have e := hst (fun j hj => by
          have h9 : (gf q f r).getD (k - 1) 0 < (rk q.2 a 3 * 64 + r) := by omega
          rcases (show j = k - 1 ∨ j < k - 1 by omega) with q9 | q9
          · rw [q9]; exact h9
          · have := PW_srtd w1 j (k - 1) q9 (by omega)
            omega)
        rw [show nI k = nI (pl (rk q.2 a 3 * 64 + r) (gf q f r)) from by rw [e]]
        refine K V1 h_1 h_2 (fun j hj => h_3 j (by omega)) (fun j j1 j2 => (h_4 j (by omega) j2).1)
      · have hx9 : (rk q.2 a 3 * 64 + r) < (gf q f r).getD (k - 1) 0 := by omega
        refine z_aload_n dX12_finds_64 rfl ?_
        refine z_getR dX12_finds_65 fX12_56 (by first | assumption | exact And.left (by assumption)) rfl ?_
        refine z_iload dX12_finds_68 rfl ?_
        refine z_aload_n dX12_finds_70 rfl ?_
        refine z_getR dX12_finds_71 fX12_56 (by first | assumption | exact And.left (by assumption)) rfl ?_
        refine z_iload dX12_finds_74 rfl ?_
        refine z_iconst (v := nI 1) dX12_finds_76 rfl ?_
        refine z_subN dX12_finds_77 (by omega) ?_
        refine z_ialdN dX12_finds_78 (by first | assumption | exact And.left (by assumption)) (by omega) (by decide) hv ?_
        refine z_iastN dX12_finds_79 (by first | assumption | exact And.left (by assumption)) (by omega) (by decide) ?_
        refine z_decN dX12_finds_80 rfl (by omega) rfl ?_
        refine z_goto (tgt := 37) dX12_finds_83 (by decide) ?_
        refine ih (k - 1) (by omega) (k - 1) _ rfl (by omega) ⟨fun q q1 q2 => by rw [zup_a q2]; exact h_1.1 q q1 q2, fun j hj => by rw [zup_a (by omega)]; exact h_1.2 j hj⟩ (by rw [zup_a (by omega)]; exact h_2) (fun j hj => by rw [zup_k (by omega)]; exact h_3 j (by omega)) (fun j j1 j2 => ?_)
        by_cases e : j = k - 1
        · rw [e, show k - 1 + 1 = k by omega, zup_s, z4]
          exact ⟨rfl, hx9⟩
        · rw [zup_k (by omega)]
          exact h_4 j (by omega) j2

set_option maxHeartbeats 4000000 in
set_option maxRecDepth 100000 in
theorem lp_finds {D : zD} {z0 nx : Nat} {L : zL} {V : zV} {m : Nat} {q : Qu} {t : Int32} (hm : sM L m) (hq : MqS V m q) (P : Nat → Nat) (f : Nat → Option Nat) (hP : ∀ r, r < 48 → P r + 5 ≤ 5343 ∧ AT (V (m + 1)) (P r) (f r) ∧ ∀ V2 : zV, V2 (m + 1) = V (m + 1) → Sp D z0 4 0 0 mX12_placeSeen [.ref m, .int t, .int (nI r)] L V2 nx (zi (nI (P r)) L V2 nx)) : ∀ (fu : Nat) (r : Nat) (V1 : zV), 48 - r = fu → r ≤ 48 → fE V V1 m → V1 m 28 = nI (gf q f r).length → (∀ j, j < (gf q f r).length → V1 (m + 12) j = nI ((gf q f r).getD j 0 % 64)) → Z D z0 5 0 0 mX12_finds 0 0 7 [some (.ref m), some (.int t), some (.int (nI r)), none, none] [] L V1 nx (zq none L nx (fun V' => fE V V' m ∧ V' m 28 = nI (gf q f 48).length ∧ ∀ j, j < (gf q f 48).length → V' (m + 12) j = nI ((gf q f 48).getD j 0 % 64))) := by
  intro fu
  induction fu using Nat.strongRecOn with
  | ind fu ih =>
    intro r V1 h_fu h_0 h_1 h_2 h_3
    have hm0 := hm
    obtain ⟨a0, a1, a2, a3, a4, a5, a6, a7, a8, a9, a10, a11, a12, a13, a14, a15⟩ := hm
    obtain ⟨w1, w2, w3⟩ := gf_ok (q := q) (f := f) (n := r) (by omega)
    have hq1 := h_1.q hq
    have hA1 : V1 (m + 1) = V (m + 1) := h_1.1 _ (by omega) (by omega)
    refine z_iload_n dX12_finds_7 rfl ?_
    refine z_bipush (v := nI 48) dX12_finds_8 rfl ?_
    refine z_icmp_geN (tgt := 110) dX12_finds_10 (by decide) (by omega) (by omega) (fun c_10 => ?_) (fun c_10 => ?_)
    · refine z_return dX12_finds_110 (Nat.le_of_ble_eq_true rfl) (Nat.le_of_ble_eq_true rfl) rfl ?_
      have e48 : r = 48 := by omega
      subst e48
      exact ⟨rfl, rfl, rfl, h_1, h_2, h_3⟩
    · obtain ⟨p1, p2, p3⟩ := hP r (by omega)
      refine z_aload_n dX12_finds_13 rfl ?_
      refine z_iload_n dX12_finds_14 rfl ?_
      refine z_iload_n dX12_finds_15 rfl ?_
      refine z_callV2i dX12_finds_16 kX12_placeSeen lX12_304 (by first | assumption | exact And.left (by assumption)) rfl (p3 V1 hA1) (Nat.le_of_ble_eq_true rfl) (Nat.le_of_ble_eq_true rfl) ⟨Nat.le_of_ble_eq_true rfl, Nat.le_of_ble_eq_true rfl⟩ ?_
      refine z_istore_n dX12_finds_19 (Nat.le_of_ble_eq_true rfl) rfl ?_
      refine z_aload_n dX12_finds_20 rfl ?_
      refine z_iload_n dX12_finds_21 rfl ?_
      refine z_callV1i dX12_finds_22 kX12_doesFind lX12_307 (by first | assumption | exact And.left (by assumption)) rfl (s_does hm0 hq1 (by rw [hA1]; exact p2) p1) (Nat.le_of_ble_eq_true rfl) (Nat.le_of_ble_eq_true rfl) ⟨Nat.le_of_ble_eq_true rfl, Nat.le_of_ble_eq_true rfl⟩ ?_
      refine z_if_neB (tgt := 31) dX12_finds_25 (by decide) (fun c_25 => ?_) (fun c_25 => ?_)
      · obtain ⟨a, ha, hb⟩ := id c_25
        have eG := gf_y ha c_25
        have hxn : ¬ rk q.2 a 3 * 64 + r ∈ gf q f r := fun z => by obtain ⟨r1, p9, z1, z2, z3⟩ := w2 _ z; omega
        have hple := pl_le (rk q.2 a 3 * 64 + r) (gf q f r)
        refine z_aload_n dX12_finds_31 rfl ?_
        refine z_getIe dX12_finds_32 fX12_301 (by first | assumption | exact And.left (by assumption)) rfl h_2 ?_
        refine z_istore dX12_finds_35 (Nat.le_of_ble_eq_true rfl) rfl ?_
        refine lp_fshift (V := V) hm0 hq P f hP (by omega) ha (fun V2 k1 k2 k3 k4 => ?_) _ _ V1 rfl (Nat.le_refl _) h_1 h_2 (fun j hj => h_3 j hj) (fun j j1 j2 => absurd j2 (by omega))
        refine z_aload_n dX12_finds_86 rfl ?_
        refine z_getR dX12_finds_87 fX12_56 (by first | assumption | exact And.left (by assumption)) rfl ?_
        refine z_iload dX12_finds_90 rfl ?_
        refine z_iload_n dX12_finds_92 rfl ?_
        refine z_iastN dX12_finds_93 (by first | assumption | exact And.left (by assumption)) (by omega) (by decide) ?_
        refine z_aload_n dX12_finds_94 rfl ?_
        refine z_dup dX12_finds_95 rfl ?_
        refine z_getIe dX12_finds_96 fX12_301 (by first | assumption | exact And.left (by assumption)) rfl ((congrFun (zup_a (by omega)) 28).trans k2) ?_
        refine z_iconst (v := nI 1) dX12_finds_99 rfl ?_
        refine z_addN dX12_finds_100 ?_
        refine z_putI dX12_finds_101 fX12_301 (by first | assumption | exact And.left (by assumption)) rfl ?_
        refine z_incN dX12_finds_104 rfl rfl ?_
        refine z_goto (tgt := 7) dX12_finds_107 (by decide) ?_
        refine z_fg 3 ?_
        refine z_fg 4 ?_
        first
          | exact ih _ (by omega) (r + 1) _ rfl (by omega) h_1 (by rw [eG]; exact h_2) (by rw [eG]; exact h_3)
          | (have eI : gf q f (r + 1) = (gf q f r).take (pl (rk q.2 a 3 * 64 + r) (gf q f r)) ++ (rk q.2 a 3 * 64 + r) :: (gf q f r).drop (pl (rk q.2 a 3 * 64 + r) (gf q f r)) := by rw [eG, inc_new w1 hxn (by omega), insR_eq]
             have eL : (gf q f (r + 1)).length = (gf q f r).length + 1 := by rw [eG, inc_new w1 hxn (by omega), insR_len]
             refine ih _ (by omega) (r + 1) _ rfl (by omega) ⟨fun q q1 q2 => by rw [zup_a q1, zup_a q2]; exact k1.1 q q1 q2, fun j hj => by rw [zup_k hj, zup_a (by omega)]; exact k1.2 j hj⟩ (by rw [eL, zup_s]) (fun j hj => ?_)
             rw [eL] at hj
             rw [eI, getD_ins _ _ _ _ hple, zup_a (by omega)]
             by_cases c1 : j < pl (rk q.2 a 3 * 64 + r) (gf q f r)
             · rw [if_pos c1, zup_k (by omega)]
               exact k3 j c1
             · by_cases c2 : j = pl (rk q.2 a 3 * 64 + r) (gf q f r)
               · rw [if_neg c1, if_pos c2, c2, zup_s]
                 congr 1
                 omega
               · rw [if_neg c1, if_neg c2, zup_k c2]
                 have := k4 (j - 1) (by omega) (by omega)
                 rw [show j - 1 + 1 = j by omega] at this
                 exact this)
      · have eG := gf_n c_25
        refine z_goto (tgt := 104) dX12_finds_28 (by decide) ?_
        refine z_incN dX12_finds_104 rfl rfl ?_
        refine z_goto (tgt := 7) dX12_finds_107 (by decide) ?_
        refine z_fg 3 ?_
        refine z_fg 4 ?_
        first
          | exact ih _ (by omega) (r + 1) _ rfl (by omega) h_1 (by rw [eG]; exact h_2) (by rw [eG]; exact h_3)
          | (have eI : gf q f (r + 1) = (gf q f r).take (pl (rk q.2 a 3 * 64 + r) (gf q f r)) ++ (rk q.2 a 3 * 64 + r) :: (gf q f r).drop (pl (rk q.2 a 3 * 64 + r) (gf q f r)) := by rw [eG, inc_new w1 hxn (by omega), insR_eq]
             have eL : (gf q f (r + 1)).length = (gf q f r).length + 1 := by rw [eG, inc_new w1 hxn (by omega), insR_len]
             refine ih _ (by omega) (r + 1) _ rfl (by omega) ⟨fun q q1 q2 => by rw [zup_a q1, zup_a q2]; exact k1.1 q q1 q2, fun j hj => by rw [zup_k hj, zup_a (by omega)]; exact k1.2 j hj⟩ (by rw [eL, zup_s]) (fun j hj => ?_)
             rw [eL] at hj
             rw [eI, getD_ins _ _ _ _ hple, zup_a (by omega)]
             by_cases c1 : j < pl (rk q.2 a 3 * 64 + r) (gf q f r)
             · rw [if_pos c1, zup_k (by omega)]
               exact k3 j c1
             · by_cases c2 : j = pl (rk q.2 a 3 * 64 + r) (gf q f r)
               · rw [if_neg c1, if_pos c2, c2, zup_s]
                 congr 1
                 omega
               · rw [if_neg c1, if_neg c2, zup_k c2]
                 have := k4 (j - 1) (by omega) (by omega)
                 rw [show j - 1 + 1 = j by omega] at this
                 exact this)

set_option maxHeartbeats 4000000 in
set_option maxRecDepth 100000 in
theorem s_finds {D : zD} {z0 nx : Nat} {L : zL} {V : zV} {m : Nat} {q : Qu} {t : Int32} (hm : sM L m) (hq : MqS V m q) (P : Nat → Nat) (f : Nat → Option Nat) (hP : ∀ r, r < 48 → P r + 5 ≤ 5343 ∧ AT (V (m + 1)) (P r) (f r) ∧ ∀ V2 : zV, V2 (m + 1) = V (m + 1) → Sp D z0 4 0 0 mX12_placeSeen [.ref m, .int t, .int (nI r)] L V2 nx (zi (nI (P r)) L V2 nx)) : Sp D z0 5 0 0 mX12_finds [.ref m, .int t] L V nx (zq none L nx (fun V' => fE V V' m ∧ V' m 28 = nI (gf q f 48).length ∧ ∀ j, j < (gf q f 48).length → V' (m + 12) j = nI ((gf q f 48).getD j 0 % 64))) := by
  refine Sp.of 3 (by decide) rfl rfl (Nat.le_of_ble_eq_true rfl) ?_
  refine z_aload_n dX12_finds_0 rfl ?_
  refine z_iconst (v := nI 0) dX12_finds_1 rfl ?_
  refine z_putI dX12_finds_2 fX12_301 (by first | assumption | exact And.left (by assumption)) rfl ?_
  refine z_iconst (v := nI 0) dX12_finds_5 rfl ?_
  refine z_istore_n dX12_finds_6 (Nat.le_of_ble_eq_true rfl) rfl ?_
  refine Z.mono (lp_finds (D := D) (z0 := z0) (nx := nx) (q := q) (V := zup V m 28 (nI 0)) hm ⟨?_, ?_, ?_, ?_, ?_, ?_⟩ P f (fun r hr => ?_) _ 0 _ rfl (by omega) fE.rf (zup_s _ _ _ _) (fun j hj => absurd hj (by simp [gf]))) ?_
  · rw [zup_k (by decide)]; exact hq.1
  · exact hq.2.1
  · intro k hk
    rw [zup_a (by omega)]
    exact hq.2.2.1 k hk
  · rw [zup_k (by decide)]; exact hq.2.2.2.1
  · exact hq.2.2.2.2.1
  · intro k hk
    rw [zup_a (by omega)]
    exact hq.2.2.2.2.2 k hk
  · obtain ⟨p1, p2, p3⟩ := hP r hr
    exact ⟨p1, by rw [zup_a (by omega)]; exact p2, fun V2 e => p3 V2 (e.trans (zup_a (by omega)))⟩
  · intro r2 L2 V9 n9 h9
    obtain ⟨q1, q2, q3, q4, q5, q6⟩ := h9
    exact ⟨q1, q2, q3, ⟨fun q j1 j2 => (q4.1 q j1 j2).trans (zup_a j1), fun j hj => (q4.2 j hj).trans (zup_k hj)⟩, q5, q6⟩

set_option maxHeartbeats 4000000 in
set_option maxRecDepth 100000 in
theorem s_plcN {D : zD} {z0 nx : Nat} {L : zL} {V : zV} {m r : Nat} {w : Wo} (hm : sM L m) (hB : MB (V (m + 1)) w.1) (hr : r < 48) : Sp D z0 4 0 0 mX12_placeSeen [.ref m, .int (-1), .int (nI r)] L V nx (zi (nI (40 * r + 5 * ((w.1.2.1 r).length - 1))) L V nx) := by
  have hm0 := hm
  refine Sp.of 0 (by decide) rfl rfl (Nat.le_of_ble_eq_true rfl) ?_
  refine z_iload_n dX12_placeSeen_0 rfl ?_
  refine z_iconst (v := (-1)) dX12_placeSeen_1 rfl ?_
  refine z_icmp_ne (tgt := 13) dX12_placeSeen_2 (by decide) (fun c_2 => ?_) (fun c_2 => ?_)
  · exact absurd rfl c_2
  · refine z_aload_n dX12_placeSeen_5 rfl ?_
    refine z_iload_n dX12_placeSeen_6 rfl ?_
    refine z_callV1i dX12_placeSeen_7 kX12_latest lX12_171 (by first | assumption | exact And.left (by assumption)) rfl (s_mLatest hm0 hr (hB.2.1 r hr)) (Nat.le_of_ble_eq_true rfl) (Nat.le_of_ble_eq_true rfl) ⟨Nat.le_of_ble_eq_true rfl, Nat.le_of_ble_eq_true rfl⟩ ?_
    refine z_goto (tgt := 19) dX12_placeSeen_10 (by decide) ?_
    refine z_ireturn dX12_placeSeen_19 (Nat.le_of_ble_eq_true rfl) (Nat.le_of_ble_eq_true rfl) rfl ?_
    exact zi_r rfl

set_option maxHeartbeats 4000000 in
set_option maxRecDepth 100000 in
theorem s_plcT {D : zD} {z0 nx : Nat} {L : zL} {V : zV} {m r : Nat} {w : Wo} (hm : sM L m) (hB : MB (V (m + 1)) w.1) (hr : r < 48) {k : Nat} {ws : List (Nat × Option Nat)} (hk : k < 4) (hw : MTw (V (m + 1)) (1968 + 43 * k) ws (w.1.2.2.1 k)) : Sp D z0 4 0 0 mX12_placeSeen [.ref m, .int (nI k), .int (nI r)] L V nx (zi (nI (sap ws (w.1.2.1 r) k r (w.1.2.2.1 k).2.1)) L V nx) := by
  have hm0 := hm
  obtain ⟨x1, x2, x3, x4⟩ := hB.2.2.1 k hk
  have hxv := hB.2.1 r hr
  have hsl := sap_lt (sn := (w.1.2.2.1 k).2.1) hk hr hw.2.1 hxv.2.1 hxv.2.2.1
  refine Sp.of 0 (by decide) rfl rfl (Nat.le_of_ble_eq_true rfl) ?_
  refine z_iload_n dX12_placeSeen_0 rfl ?_
  refine z_iconst (v := (-1)) dX12_placeSeen_1 rfl ?_
  refine z_icmp_ne (tgt := 13) dX12_placeSeen_2 (by decide) (fun c_2 => ?_) (fun c_2 => ?_)
  · refine z_aload_n dX12_placeSeen_13 rfl ?_
    refine z_iload_n dX12_placeSeen_14 rfl ?_
    refine z_iload_n dX12_placeSeen_15 rfl ?_
    refine z_callV2i dX12_placeSeen_16 kX12_seenAt lX12_168 (by first | assumption | exact And.left (by assumption)) rfl (s_mSeen hm0 hk hr hw hxv x2 x3) (Nat.le_of_ble_eq_true rfl) (Nat.le_of_ble_eq_true rfl) ⟨Nat.le_of_ble_eq_true rfl, Nat.le_of_ble_eq_true rfl⟩ ?_
    refine z_ireturn dX12_placeSeen_19 (Nat.le_of_ble_eq_true rfl) (Nat.le_of_ble_eq_true rfl) rfl ?_
    exact zi_r rfl
  · exact absurd c_2 (nI_ne_m1 (by omega))

theorem s_plc {D : zD} {z0 nx : Nat} {L : zL} {V : zV} {m : Nat} {w : Wo} {t : Int32} (hm : sM L m) (hB : MB (V (m + 1)) w.1) (hc : cvw w t) (hfs : ∀ k, k < 4 → (w.1.2.2.1 k).1 = true → ∀ r, r < 48 → (vk (w.1.2.1 r) 0).1 ≤ (w.1.2.2.1 k).2.1) : ∃ P : Nat → Nat, ∀ r, r < 48 → P r + 5 ≤ 5343 ∧ AT (V (m + 1)) (P r) (sv w t r) ∧ ∀ V2 : zV, V2 (m + 1) = V (m + 1) → Sp D z0 4 0 0 mX12_placeSeen [.ref m, .int t, .int (nI r)] L V2 nx (zi (nI (P r)) L V2 nx) := by
  rcases hc with rfl | ⟨⟨k, hk, rfl⟩, ho⟩
  · refine ⟨fun r => 40 * r + 5 * ((w.1.2.1 r).length - 1), fun r hr => ?_⟩
    obtain ⟨v1, v2, v3, v4⟩ := hB.2.1 r hr
    refine ⟨by show 40 * r + 5 * ((w.1.2.1 r).length - 1) + 5 ≤ 5343; omega, ?_, fun V2 e => s_plcN hm (by rw [e]; exact hB) hr⟩
    unfold sv
    rw [cif_y rfl]
    exact (v4 ((w.1.2.1 r).length - 1) (by omega)).2.2
  · have hT := tn_k (k := k) (by omega)
    obtain ⟨x1, x2, x3, ws, xw⟩ := hB.2.2.1 k hk
    refine ⟨fun r => sap ws (w.1.2.1 r) k r (w.1.2.2.1 k).2.1, fun r hr => ?_⟩
    have hxv := hB.2.1 r hr
    have hsl := sap_lt (sn := (w.1.2.2.1 k).2.1) hk hr xw.2.1 hxv.2.1 hxv.2.2.1
    have ho2 : (w.1.2.2.1 k).1 = true := by unfold opn at ho; rw [hT] at ho; exact ho
    refine ⟨by show sap ws (w.1.2.1 r) k r (w.1.2.2.1 k).2.1 + 5 ≤ 5343; omega, ?_, fun V2 e => s_plcT hm (by rw [e]; exact hB) hr hk (by rw [e]; exact xw)⟩
    unfold sv
    rw [cif_n (nI_ne_m1 (by omega)), hT]
    exact see_at hB hr xw (hfs k hk ho2 r hr)

theorem Mq_some {V : zV} {m : Nat} {q : Option Qu} (h : MqO V m q) : V m 24 = -1 ↔ q = none := by
  cases q with
  | none => exact ⟨fun _ => rfl, fun _ => h⟩
  | some q =>
    refine ⟨fun z => ?_, fun z => by cases z⟩
    have h1 : V m 24 = nI q.1.length := h.1
    have h2 := h.2.1
    rw [h1] at z
    exact absurd z (nI_ne_m1 (by omega))

set_option maxHeartbeats 4000000 in
set_option maxRecDepth 100000 in
theorem s_refFN {D : zD} {z0 nx : Nat} {L : zL} {V : zV} {m : Nat} {w : Wo} (hm : sM L m) (h : MW V m w) : Sp D z0 3 0 0 mX12_refusesFind [.ref m, .int (-1)] L V nx (zi (cif (cvw w (-1) ∧ w.2.2.2.2.2 ≠ none) 0 (-5)) L V nx) := by
  have hm0 := hm
  obtain ⟨a0, a1, a2, a3, a4, a5, a6, a7, a8, a9, a10, a11, a12, a13, a14, a15⟩ := hm
  have hq := Mq_some h.2.2.2.2.2.1
  refine Sp.of 0 (by decide) rfl rfl (Nat.le_of_ble_eq_true rfl) ?_
  refine z_iload_n dX12_refusesFind_0 rfl ?_
  refine z_iconst (v := (-1)) dX12_refusesFind_1 rfl ?_
  refine z_icmp_eq (tgt := 13) dX12_refusesFind_2 (by decide) (fun c_2 => ?_) (fun c_2 => ?_)
  · refine z_aload_n dX12_refusesFind_13 rfl ?_
    refine z_getIe dX12_refusesFind_14 fX12_53 (by first | assumption | exact And.left (by assumption)) rfl rfl ?_
    refine z_iconst (v := (-1)) dX12_refusesFind_17 rfl ?_
    refine z_icmp_ne (tgt := 26) dX12_refusesFind_18 (by decide) (fun c_18 => ?_) (fun c_18 => ?_)
    · have hR : cif (cvw w (-1) ∧ w.2.2.2.2.2 ≠ none) (0 : Int32) (-5) = 0 := cif_y ⟨Or.inl rfl, fun z => c_18 (hq.mpr z)⟩
      refine z_iconst (v := nI 0) dX12_refusesFind_26 rfl ?_
      refine z_ireturn dX12_refusesFind_27 (Nat.le_of_ble_eq_true rfl) (Nat.le_of_ble_eq_true rfl) rfl ?_
      exact zi_r (by rw [hR] <;> rfl)
    · have hR : cif (cvw w (-1) ∧ w.2.2.2.2.2 ≠ none) (0 : Int32) (-5) = -5 := cif_n (fun z => z.2 (hq.mp c_18))
      refine z_bipush (v := (-5)) dX12_refusesFind_21 rfl ?_
      refine z_goto (tgt := 27) dX12_refusesFind_23 (by decide) ?_
      refine z_ireturn dX12_refusesFind_27 (Nat.le_of_ble_eq_true rfl) (Nat.le_of_ble_eq_true rfl) rfl ?_
      exact zi_r (by rw [hR] <;> rfl)
  · exact absurd rfl c_2

set_option maxHeartbeats 4000000 in
set_option maxRecDepth 100000 in
theorem s_refFT {D : zD} {z0 nx : Nat} {L : zL} {V : zV} {m : Nat} {w : Wo} (hm : sM L m) (h : MW V m w) {k : Nat} (hk : k < 4) : Sp D z0 3 0 0 mX12_refusesFind [.ref m, .int (nI k)] L V nx (zi (cif (cvw w (nI k) ∧ w.2.2.2.2.2 ≠ none) 0 (-5)) L V nx) := by
  have hm0 := hm
  obtain ⟨a0, a1, a2, a3, a4, a5, a6, a7, a8, a9, a10, a11, a12, a13, a14, a15⟩ := hm
  have hq := Mq_some h.2.2.2.2.2.1
  have hT0 := h.1.2.2.1 k hk
  have hcv : cvw w (nI k) ↔ (w.1.2.2.1 k).1 = true := ⟨fun z => z.elim (fun e => absurd e (nI_ne_m1 (by omega))) (fun e => (opn_k hk).mp e.2), fun z => Or.inr ⟨rng_k hk, (opn_k hk).mpr z⟩⟩
  refine Sp.of 0 (by decide) rfl rfl (Nat.le_of_ble_eq_true rfl) ?_
  refine z_iload_n dX12_refusesFind_0 rfl ?_
  refine z_iconst (v := (-1)) dX12_refusesFind_1 rfl ?_
  refine z_icmp_eq (tgt := 13) dX12_refusesFind_2 (by decide) (fun c_2 => ?_) (fun c_2 => ?_)
  · exact absurd c_2 (nI_ne_m1 (by omega))
  · refine z_aload_n dX12_refusesFind_5 rfl ?_
    refine z_iload_n dX12_refusesFind_6 rfl ?_
    refine z_callV1i dX12_refusesFind_7 kX12_isOpen lX12_149 (by first | assumption | exact And.left (by assumption)) rfl (s_mOpen hm0 hk hT0) (Nat.le_of_ble_eq_true rfl) (Nat.le_of_ble_eq_true rfl) ⟨Nat.le_of_ble_eq_true rfl, Nat.le_of_ble_eq_true rfl⟩ ?_
    refine z_if_eqB (tgt := 21) dX12_refusesFind_10 (by decide) (fun c_10 => ?_) (fun c_10 => ?_)
    · have hR : cif (cvw w (nI k) ∧ w.2.2.2.2.2 ≠ none) (0 : Int32) (-5) = -5 := cif_n (fun z => c_10 (hcv.mp z.1))
      refine z_bipush (v := (-5)) dX12_refusesFind_21 rfl ?_
      refine z_goto (tgt := 27) dX12_refusesFind_23 (by decide) ?_
      refine z_ireturn dX12_refusesFind_27 (Nat.le_of_ble_eq_true rfl) (Nat.le_of_ble_eq_true rfl) rfl ?_
      exact zi_r (by rw [hR] <;> rfl)
    · refine z_aload_n dX12_refusesFind_13 rfl ?_
      refine z_getIe dX12_refusesFind_14 fX12_53 (by first | assumption | exact And.left (by assumption)) rfl rfl ?_
      refine z_iconst (v := (-1)) dX12_refusesFind_17 rfl ?_
      refine z_icmp_ne (tgt := 26) dX12_refusesFind_18 (by decide) (fun c_18 => ?_) (fun c_18 => ?_)
      · have hR : cif (cvw w (nI k) ∧ w.2.2.2.2.2 ≠ none) (0 : Int32) (-5) = 0 := cif_y ⟨hcv.mpr c_10, fun z => c_18 (hq.mpr z)⟩
        refine z_iconst (v := nI 0) dX12_refusesFind_26 rfl ?_
        refine z_ireturn dX12_refusesFind_27 (Nat.le_of_ble_eq_true rfl) (Nat.le_of_ble_eq_true rfl) rfl ?_
        exact zi_r (by rw [hR] <;> rfl)
      · have hR : cif (cvw w (nI k) ∧ w.2.2.2.2.2 ≠ none) (0 : Int32) (-5) = -5 := cif_n (fun z => z.2 (hq.mp c_18))
        refine z_bipush (v := (-5)) dX12_refusesFind_21 rfl ?_
        refine z_goto (tgt := 27) dX12_refusesFind_23 (by decide) ?_
        refine z_ireturn dX12_refusesFind_27 (Nat.le_of_ble_eq_true rfl) (Nat.le_of_ble_eq_true rfl) rfl ?_
        exact zi_r (by rw [hR] <;> rfl)

theorem s_refF {D : zD} {z0 nx : Nat} {L : zL} {V : zV} {m : Nat} {w : Wo} {t : Int32} (hm : sM L m) (h : MW V m w) (hv : vwr t) : Sp D z0 3 0 0 mX12_refusesFind [.ref m, .int t] L V nx (zi (cif (cvw w t ∧ w.2.2.2.2.2 ≠ none) 0 (-5)) L V nx) := by
  rcases hv with rfl | ⟨k, hk, rfl⟩
  · exact s_refFN hm h
  · exact s_refFT hm h hk
theorem MW_fE {V V' : zV} {m : Nat} {w : Wo} (h : MW V m w) (he : fE V V' m) : MW V' m w := by
  obtain ⟨h1, h2, h3, h4, h5, h6, h7⟩ := h
  have E := fun (q : Nat) (c : q = m + 1 ∨ q = m + 2 ∨ q = m + 3 ∨ q = m + 8 ∨ q = m + 6) => he.1 q (by omega) (by omega)
  refine ⟨by rw [E (m + 1) (by omega)]; exact h1, ⟨h2.1, by rw [he.2 3 (by decide)]; exact h2.2.1, fun q hq => by rw [E (m + 2) (by omega)]; exact h2.2.2 q hq⟩, fun i hi => ⟨by rw [E (m + 3) (by omega)]; exact (h3 i hi).1, fun s hs => by rw [E (m + 1) (by omega)]; exact (h3 i hi).2 s hs⟩, ?_, ⟨by rw [he.2 6 (by decide)]; exact h5.1, h5.2⟩, ?_, fun q hq => by rw [E (m + 8) (by omega)]; exact h7 q hq⟩
  · obtain ⟨g1, g2, g3, g4, g5, g6⟩ := h4
    exact ⟨by rw [he.2 9 (by decide)]; exact g1, by rw [he.2 12 (by decide)]; exact g2, by rw [he.2 13 (by decide)]; exact g3, g4, g5, fun j hj => by rw [E (m + 6) (by omega)]; exact g6 j hj⟩
  · show MqO _ m w.2.2.2.2.2
    cases hq : w.2.2.2.2.2 with
    | none =>
      rw [hq] at h6
      show V' m 24 = -1
      rw [he.2 24 (by decide)]
      exact h6
    | some q =>
      rw [hq] at h6
      exact he.q h6
theorem fE.zeq {V V' : zV} {m : Nat} (h : fE V V' m) : zEq V V' m (m + 16) := fun q hq => h.1 q (by omega) (by omega)

set_option maxHeartbeats 4000000 in
set_option maxRecDepth 100000 in
theorem m_find {D : zD} {z0 nx : Nat} {L : zL} {V : zV} {m : Nat} {w : Wo} (hm : sM L m) (h : MW V m w) {t : Int32} (hfs : ∀ k, k < 4 → (w.1.2.2.1 k).1 = true → ∀ r, r < 48 → (vk (w.1.2.1 r) 0).1 ≤ (w.1.2.2.1 k).2.1) : Sp D z0 6 0 0 mX12_find [.ref m, .int t] L V nx (zq (some (.int (o_find t w).1)) L nx (fun V' => zEq V V' m (m + 16) ∧ MW V' m (o_find t w).2)) := by
  have hm0 := hm
  have h0 := h
  obtain ⟨a0, a1, a2, a3, a4, a5, a6, a7, a8, a9, a10, a11, a12, a13, a14, a15⟩ := hm
  refine Sp.of 0 (by decide) rfl rfl (Nat.le_of_ble_eq_true rfl) ?_
  refine z_aload_n dX12_find_0 rfl ?_
  refine z_iconst (v := nI 0) dX12_find_1 rfl ?_
  refine z_putI dX12_find_2 fX12_1 (by first | assumption | exact And.left (by assumption)) rfl ?_
  have h9 := MW_thr (x := nI 0) h0
  have e0 : zEq V (zup V m 0 (nI 0)) m (m + 16) := zEq.rf.up (by omega) (by omega)
  generalize zup V m 0 (nI 0) = V1 at h9 e0 ⊢
  clear h0 h
  have h0 := h9
  obtain ⟨k1, k2, k3, k4, k5, k6, k7⟩ := h9
  refine z_iload_n dX12_find_5 rfl ?_
  refine z_i2l dX12_find_6 ?_
  refine z_ldc2 dX12_find_7 qX12_205 ?_
  refine z_ldc2 dX12_find_10 qX12_84 ?_
  refine z_callS3i dX12_find_13 kX12_isIn lX12_86 (s_isIn (v := t.toInt64)) (Nat.le_of_ble_eq_true rfl) (Nat.le_of_ble_eq_true rfl) ⟨Nat.le_of_ble_eq_true rfl, Nat.le_of_ble_eq_true rfl⟩ ?_
  refine z_if_neB (tgt := 22) dX12_find_16 (by decide) (fun c_16 => ?_) (fun c_16 => ?_)
  · have c_v : vwr t := vwr_i.mp (by rw [i64] at c_16; exact c_16)
    refine z_aload_n dX12_find_22 rfl ?_
    refine z_iload_n dX12_find_23 rfl ?_
    refine z_callV1i dX12_find_24 kX12_refusesFind lX12_313 (by first | assumption | exact And.left (by assumption)) rfl (s_refF hm0 h0 c_v) (Nat.le_of_ble_eq_true rfl) (Nat.le_of_ble_eq_true rfl) ⟨Nat.le_of_ble_eq_true rfl, Nat.le_of_ble_eq_true rfl⟩ ?_
    refine z_if_eq (tgt := 33) dX12_find_27 (by decide) (fun c_27 => ?_) (fun c_27 => ?_)
    · have c_k : cvw w t ∧ w.2.2.2.2.2 ≠ none := Classical.byContradiction (fun z => by rw [cif_n z] at c_27; exact absurd c_27 (by decide))
      obtain ⟨c_c, c_q⟩ := c_k
      obtain ⟨q, hq⟩ := Option.ne_none_iff_exists'.mp c_q
      have hqS : MqS V1 m q := by have k6b : MqO V1 m w.2.2.2.2.2 := k6; rw [hq] at k6b; exact k6b
      obtain ⟨P, hP⟩ := s_plc (D := D) (z0 := z0) (nx := nx) hm0 k1 c_c hfs
      refine z_aload_n dX12_find_33 rfl ?_
      refine z_iload_n dX12_find_34 rfl ?_
      refine z_callV1w dX12_find_35 kX12_finds lX12_316 (by first | assumption | exact And.left (by assumption)) rfl (s_finds hm0 hqS P (sv w t) hP) (Nat.le_of_ble_eq_true rfl) (Nat.le_of_ble_eq_true rfl) ⟨Nat.le_of_ble_eq_true rfl, Nat.le_of_ble_eq_true rfl⟩ ?_
      intro V3 hV3
      obtain ⟨d1, d2, d3⟩ := hV3
      refine z_aload_n dX12_find_38 rfl ?_
      refine z_getIe dX12_find_39 fX12_301 (by first | assumption | exact And.left (by assumption)) rfl d2 ?_
      refine z_ireturn dX12_find_42 (Nat.le_of_ble_eq_true rfl) (Nat.le_of_ble_eq_true rfl) rfl ?_
      rw [show o_find t w = (nI (gf q (sv w t) 48).length, w) from by unfold o_find; rw [cif_y c_v, cif_y c_c, hq]]
      exact ⟨rfl, rfl, rfl, e0.trans d1.zeq, MW_fE h0 d1⟩
    · have c_k : ¬ (cvw w t ∧ w.2.2.2.2.2 ≠ none) := fun z => by rw [cif_y z] at c_27; exact c_27 rfl
      refine z_bipush (v := (-5)) dX12_find_30 rfl ?_
      refine z_ireturn dX12_find_32 (Nat.le_of_ble_eq_true rfl) (Nat.le_of_ble_eq_true rfl) rfl ?_
      rw [show o_find t w = (-5, w) from by
        unfold o_find
        rw [cif_y c_v]
        by_cases c : cvw w t
        · rw [cif_y c]
          have hn : w.2.2.2.2.2 = none := Classical.byContradiction (fun z => c_k ⟨c, z⟩)
          rw [hn]
        · rw [cif_n c]]
      exact ⟨rfl, rfl, rfl, e0, h0⟩
  · have c_v : ¬ vwr t := fun z => c_16 (by rw [i64]; exact vwr_i.mpr z)
    refine z_bipush (v := (-2)) dX12_find_19 rfl ?_
    refine z_ireturn dX12_find_21 (Nat.le_of_ble_eq_true rfl) (Nat.le_of_ble_eq_true rfl) rfl ?_
    rw [show o_find t w = (-2, w) from by unfold o_find; rw [cif_n c_v]]
    exact ⟨rfl, rfl, rfl, e0, h0⟩

set_option maxHeartbeats 4000000 in
set_option maxRecDepth 100000 in
theorem m_found {D : zD} {z0 nx : Nat} {L : zL} {V : zV} {m : Nat} {w : Wo} (hm : sM L m) (h : MW V m w) {t : Int32} {i : Int32} (hfs : ∀ k, k < 4 → (w.1.2.2.1 k).1 = true → ∀ r, r < 48 → (vk (w.1.2.1 r) 0).1 ≤ (w.1.2.2.1 k).2.1) : Sp D z0 6 0 0 mX12_found [.ref m, .int t, .int i] L V nx (zq (some (.int (o_found t i w).1)) L nx (fun V' => zEq V V' m (m + 16) ∧ MW V' m (o_found t i w).2)) := by
  have hm0 := hm
  have h0 := h
  obtain ⟨a0, a1, a2, a3, a4, a5, a6, a7, a8, a9, a10, a11, a12, a13, a14, a15⟩ := hm
  refine Sp.of 0 (by decide) rfl rfl (Nat.le_of_ble_eq_true rfl) ?_
  refine z_aload_n dX12_found_0 rfl ?_
  refine z_iconst (v := nI 0) dX12_found_1 rfl ?_
  refine z_putI dX12_found_2 fX12_1 (by first | assumption | exact And.left (by assumption)) rfl ?_
  have h9 := MW_thr (x := nI 0) h0
  have e0 : zEq V (zup V m 0 (nI 0)) m (m + 16) := zEq.rf.up (by omega) (by omega)
  generalize zup V m 0 (nI 0) = V1 at h9 e0 ⊢
  clear h0 h
  have h0 := h9
  obtain ⟨k1, k2, k3, k4, k5, k6, k7⟩ := h9
  refine z_iload_n dX12_found_5 rfl ?_
  refine z_i2l dX12_found_6 ?_
  refine z_ldc2 dX12_found_7 qX12_205 ?_
  refine z_ldc2 dX12_found_10 qX12_84 ?_
  refine z_callS3i dX12_found_13 kX12_isIn lX12_86 (s_isIn (v := t.toInt64)) (Nat.le_of_ble_eq_true rfl) (Nat.le_of_ble_eq_true rfl) ⟨Nat.le_of_ble_eq_true rfl, Nat.le_of_ble_eq_true rfl⟩ ?_
  refine z_if_neB (tgt := 22) dX12_found_16 (by decide) (fun c_16 => ?_) (fun c_16 => ?_)
  · have c_v : vwr t := vwr_i.mp (by rw [i64] at c_16; exact c_16)
    refine z_iload_n dX12_found_22 rfl ?_
    refine z_if_ge (tgt := 29) dX12_found_23 (by decide) (fun c_23 => ?_) (fun c_23 => ?_)
    · have c_i : ¬ i < 0 := Int32.not_lt.mpr c_23
      refine z_aload_n dX12_found_29 rfl ?_
      refine z_iload_n dX12_found_30 rfl ?_
      refine z_callV1i dX12_found_31 kX12_refusesFind lX12_313 (by first | assumption | exact And.left (by assumption)) rfl (s_refF hm0 h0 c_v) (Nat.le_of_ble_eq_true rfl) (Nat.le_of_ble_eq_true rfl) ⟨Nat.le_of_ble_eq_true rfl, Nat.le_of_ble_eq_true rfl⟩ ?_
      refine z_if_eq (tgt := 40) dX12_found_34 (by decide) (fun c_34 => ?_) (fun c_34 => ?_)
      · have c_k : cvw w t ∧ w.2.2.2.2.2 ≠ none := Classical.byContradiction (fun z => by rw [cif_n z] at c_34; exact absurd c_34 (by decide))
        obtain ⟨c_c, c_q⟩ := c_k
        obtain ⟨q, hq⟩ := Option.ne_none_iff_exists'.mp c_q
        have hqS : MqS V1 m q := by have k6b : MqO V1 m w.2.2.2.2.2 := k6; rw [hq] at k6b; exact k6b
        obtain ⟨P, hP⟩ := s_plc (D := D) (z0 := z0) (nx := nx) hm0 k1 c_c hfs
        refine z_aload_n dX12_found_40 rfl ?_
        refine z_iload_n dX12_found_41 rfl ?_
        refine z_callV1w dX12_found_42 kX12_finds lX12_316 (by first | assumption | exact And.left (by assumption)) rfl (s_finds hm0 hqS P (sv w t) hP) (Nat.le_of_ble_eq_true rfl) (Nat.le_of_ble_eq_true rfl) ⟨Nat.le_of_ble_eq_true rfl, Nat.le_of_ble_eq_true rfl⟩ ?_
        intro V3 hV3
        obtain ⟨d1, d2, d3⟩ := hV3
        obtain ⟨w1, w2, w3⟩ := gf_ok (q := q) (f := sv w t) (n := 48) (by omega)
        have hR : o_found t i w = (cif (rng (gf q (sv w t) 48).length i) (nI ((gf q (sv w t) 48).getD (tn i) 0 % 64)) (-1), w) := by unfold o_found; rw [cif_y c_v, if_neg c_i, cif_y c_c, hq]
        refine z_iload_n dX12_found_45 rfl ?_
        refine z_aload_n dX12_found_46 rfl ?_
        refine z_getIe dX12_found_47 fX12_301 (by first | assumption | exact And.left (by assumption)) rfl d2 ?_
        refine z_icmp_ge (tgt := 62) dX12_found_50 (by decide) (fun c_50 => ?_) (fun c_50 => ?_)
        · have c_r : ¬ rng (gf q (sv w t) 48).length i := rng_n2 (by omega) c_50
          refine z_iconst (v := (-1)) dX12_found_62 rfl ?_
          refine z_ireturn dX12_found_63 (Nat.le_of_ble_eq_true rfl) (Nat.le_of_ble_eq_true rfl) rfl ?_
          first
            | (rw [hR, cif_n c_r]; exact ⟨rfl, rfl, rfl, e0.trans d1.zeq, MW_fE h0 d1⟩)
            | (rw [hR, cif_y c_r, hJ]; exact ⟨rfl, rfl, rfl, e0.trans d1.zeq, MW_fE h0 d1⟩)
        · have c_r : rng (gf q (sv w t) 48).length i := rng_y (by omega) c_i c_50
          obtain ⟨j, hj, rfl⟩ := id c_r
          have hJ := tn_k (k := j) (by omega)
          refine z_aload_n dX12_found_53 rfl ?_
          refine z_getR dX12_found_54 fX12_56 (by first | assumption | exact And.left (by assumption)) rfl ?_
          refine z_iload_n dX12_found_57 rfl ?_
          refine z_ialdN dX12_found_58 (by first | assumption | exact And.left (by assumption)) (by omega) (by decide) (d3 j hj) ?_
          refine z_goto (tgt := 63) dX12_found_59 (by decide) ?_
          refine z_ireturn dX12_found_63 (Nat.le_of_ble_eq_true rfl) (Nat.le_of_ble_eq_true rfl) rfl ?_
          first
            | (rw [hR, cif_n c_r]; exact ⟨rfl, rfl, rfl, e0.trans d1.zeq, MW_fE h0 d1⟩)
            | (rw [hR, cif_y c_r, hJ]; exact ⟨rfl, rfl, rfl, e0.trans d1.zeq, MW_fE h0 d1⟩)
      · have c_k : ¬ (cvw w t ∧ w.2.2.2.2.2 ≠ none) := fun z => by rw [cif_y z] at c_34; exact c_34 rfl
        refine z_bipush (v := (-5)) dX12_found_37 rfl ?_
        refine z_ireturn dX12_found_39 (Nat.le_of_ble_eq_true rfl) (Nat.le_of_ble_eq_true rfl) rfl ?_
        rw [show o_found t i w = (-5, w) from by
          unfold o_found
          rw [cif_y c_v, if_neg c_i]
          by_cases c : cvw w t
          · rw [cif_y c]
            have hn : w.2.2.2.2.2 = none := Classical.byContradiction (fun z => c_k ⟨c, z⟩)
            rw [hn]
          · rw [cif_n c]]
        exact ⟨rfl, rfl, rfl, e0, h0⟩
    · skip
      refine z_bipush (v := (-3)) dX12_found_26 rfl ?_
      refine z_ireturn dX12_found_28 (Nat.le_of_ble_eq_true rfl) (Nat.le_of_ble_eq_true rfl) rfl ?_
      rw [show o_found t i w = (-3, w) from by unfold o_found; rw [cif_y c_v]; rw [if_pos (Int32.not_le.mp c_23)]]
      exact ⟨rfl, rfl, rfl, e0, h0⟩
  · have c_v : ¬ vwr t := fun z => c_16 (by rw [i64]; exact vwr_i.mpr z)
    refine z_bipush (v := (-2)) dX12_found_19 rfl ?_
    refine z_ireturn dX12_found_21 (Nat.le_of_ble_eq_true rfl) (Nat.le_of_ble_eq_true rfl) rfl ?_
    rw [show o_found t i w = (-2, w) from by unfold o_found; rw [cif_n c_v]]
    exact ⟨rfl, rfl, rfl, e0, h0⟩

