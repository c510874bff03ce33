/-! Versions.keepSeen -/
def one (S : List Nat) (f b : Nat) : Prop := ∃ k, k < S.length ∧ f ≤ S.getD k 0 ∧ S.getD k 0 < b
def SN (V : zV) (b : Nat) (S : List Nat) : Prop := S.length ≤ 7 ∧ ∀ k, k < S.length → V b k = nI (S.getD k 0) ∧ S.getD k 0 < 1000000

set_option maxHeartbeats 4000000 in
set_option maxRecDepth 100000 in
theorem lp_one {D : zD} {z0 nx : Nat} {L : zL} {V : zV} {b f t : Nat} {S : List Nat} (hs : L b = some (.inl (0, 7))) (h : SN V b S) (hf : f < 2147483648) (ht : t < 2147483648) : ∀ (fu : Nat) (i : Nat), S.length - i = fu → i ≤ S.length → (∀ k, k < i → ¬ (f ≤ S.getD k 0 ∧ S.getD k 0 < t)) → Z D z0 1 0 0 mX10_isOneWithin 0 0 3 [some (.ref b), some (.int (nI S.length)), some (.int (nI f)), some (.int (nI t)), some (.int (nI i))] [] L V nx (zi (zb (one S f t)) L V nx) := by
  intro fu
  induction fu using Nat.strongRecOn with
  | ind fu ih =>
    intro i h_fu h_0 h_1
    have h7 := h.1
    refine z_iload dX10_isOneWithin_3 rfl ?_
    refine z_iload_n dX10_isOneWithin_5 rfl ?_
    refine z_icmp_geN (tgt := 40) dX10_isOneWithin_6 (by decide) (by omega) (by omega) (fun c_6 => ?_) (fun c_6 => ?_)
    · refine z_iconst (v := nI 0) dX10_isOneWithin_40 rfl ?_
      refine z_zreturn dX10_isOneWithin_41 (Nat.le_of_ble_eq_true rfl) (Nat.le_of_ble_eq_true rfl) rfl (by first | exact Or.inl rfl | exact Or.inr rfl | exact zb_01 _ | assumption) ?_
      exact zi_r (zb_f (fun q => by obtain ⟨k, k1, k2⟩ := q; exact h_1 k (by omega) k2)).symm
    · refine z_iload dX10_isOneWithin_9 rfl ?_
      refine z_aload_n dX10_isOneWithin_11 rfl ?_
      refine z_alen dX10_isOneWithin_12 (by first | assumption | exact And.left (by assumption)) (fun _ => rfl) ?_
      refine z_icmp_geN (tgt := 40) dX10_isOneWithin_13 (by decide) (by omega) (by omega) (fun c_13 => ?_) (fun c_13 => ?_)
      · exact absurd c_13 (by omega)
      · refine z_aload_n dX10_isOneWithin_16 rfl ?_
        refine z_iload dX10_isOneWithin_17 rfl ?_
        refine z_ialdN dX10_isOneWithin_19 (by first | assumption | exact And.left (by assumption)) (by omega) (by decide) (h.2 i (by omega)).1 ?_
        refine z_iload_n dX10_isOneWithin_20 rfl ?_
        have b1 := (h.2 i (by omega)).2
        refine z_icmp_ltN (tgt := 34) dX10_isOneWithin_21 (by decide) (by omega) (by omega) (fun c_21 => ?_) (fun c_21 => ?_)
        · refine z_incN dX10_isOneWithin_34 rfl rfl ?_
          refine z_goto (tgt := 3) dX10_isOneWithin_37 (by decide) ?_
          exact ih _ (by omega) (i + 1) rfl (by omega) (lt_s h_1 (by omega))
        · refine z_aload_n dX10_isOneWithin_24 rfl ?_
          refine z_iload dX10_isOneWithin_25 rfl ?_
          refine z_ialdN dX10_isOneWithin_27 (by first | assumption | exact And.left (by assumption)) (by omega) (by decide) (h.2 i (by omega)).1 ?_
          refine z_iload_n dX10_isOneWithin_28 rfl ?_
          refine z_icmp_geN (tgt := 34) dX10_isOneWithin_29 (by decide) (by omega) (by omega) (fun c_29 => ?_) (fun c_29 => ?_)
          · refine z_incN dX10_isOneWithin_34 rfl rfl ?_
            refine z_goto (tgt := 3) dX10_isOneWithin_37 (by decide) ?_
            exact ih _ (by omega) (i + 1) rfl (by omega) (lt_s h_1 (by omega))
          · refine z_iconst (v := nI 1) dX10_isOneWithin_32 rfl ?_
            refine z_zreturn dX10_isOneWithin_33 (Nat.le_of_ble_eq_true rfl) (Nat.le_of_ble_eq_true rfl) rfl (by first | exact Or.inl rfl | exact Or.inr rfl | exact zb_01 _ | assumption) ?_
            exact zi_r (zb_t ⟨i, by omega, by omega, by omega⟩).symm

set_option maxHeartbeats 4000000 in
set_option maxRecDepth 100000 in
theorem s_one {D : zD} {z0 nx : Nat} {L : zL} {V : zV} {b f t n : Nat} {S : List Nat} (hs : L b = some (.inl (0, 7))) (h : SN V b S) (hf : f < 2147483648) (ht : t < 2147483648) (hn : n = S.length) : Sp D z0 1 0 0 mX10_isOneWithin [.ref b, .int (nI n), .int (nI f), .int (nI t)] L V nx (zi (zb (one S f t)) L V nx) := by
  subst hn
  refine Sp.of 1 (by decide) rfl rfl (Nat.le_of_ble_eq_true rfl) ?_
  refine z_iconst (v := nI 0) dX10_isOneWithin_0 rfl ?_
  refine z_istore dX10_isOneWithin_1 (Nat.le_of_ble_eq_true rfl) rfl ?_
  exact lp_one hs h hf ht _ 0 rfl (by omega) (fun k hk => absurd hk (by omega))

/-- whether the k-th version is seen from one of these snaps -/
def kp (l : List (Nat × Option Nat)) (S : List Nat) (k : Nat) : Prop := one S (vk l k).1 (if k + 1 < l.length then (vk l (k + 1)).1 else 1000000)
noncomputable def kl (p : Nat → Prop) : Nat → List Nat
  | 0 => []
  | n + 1 => @ite _ (p n) (Classical.propDecidable _) (kl p n ++ [n]) (kl p n)
theorem kl_y {p : Nat → Prop} {n : Nat} (h : p n) : kl p (n + 1) = kl p n ++ [n] := by rw [kl, if_pos h]
theorem kl_n {p : Nat → Prop} {n : Nat} (h : ¬ p n) : kl p (n + 1) = kl p n := by rw [kl, if_neg h]
theorem kl_le (p : Nat → Prop) : ∀ n, (kl p n).length ≤ n
  | 0 => Nat.le_refl 0
  | n + 1 => by
    have := kl_le p n
    by_cases h : p n
    · rw [kl_y h]; simp; omega
    · rw [kl_n h]; omega
theorem kl_mem {p : Nat → Prop} : ∀ {n k : Nat}, k ∈ kl p n ↔ k < n ∧ p k
  | 0, k => by simp [kl]
  | n + 1, k => by
    have ih := kl_mem (p := p) (n := n) (k := k)
    by_cases h : p n
    · rw [kl_y h, List.mem_append, List.mem_singleton, ih]
      constructor
      · rintro (q | q)
        · exact ⟨by omega, q.2⟩
        · subst q; exact ⟨by omega, h⟩
      · rintro ⟨q1, q2⟩
        by_cases e : k = n
        · exact Or.inr e
        · exact Or.inl ⟨by omega, q2⟩
    · rw [kl_n h, ih]
      constructor
      · exact fun q => ⟨by omega, q.2⟩
      · rintro ⟨q1, q2⟩
        by_cases e : k = n
        · subst e; exact absurd q2 h
        · exact ⟨by omega, q2⟩
/-- the versions that stay -/
noncomputable def kv (l : List (Nat × Option Nat)) (S : List Nat) : List (Nat × Option Nat) := (kl (kp l S) l.length).map (vk l)
/-- behind the first k versions of row r: those that stay stand at its beginning -/
def KI (V V1 : zV) (a r : Nat) (l : List (Nat × Option Nat)) (S : List Nat) (k : Nat) : Prop :=
  (∀ q, q ≠ a + 1 → q ≠ a + 2 → V1 q = V q) ∧ (∀ q j, ¬ (r * 8 ≤ j ∧ j < r * 8 + k) → V1 q j = V q j) ∧ ∀ j, j < (kl (kp l S) k).length → V1 (a + 1) (r * 8 + j) = nI (vk l ((kl (kp l S) k).getD j 0)).1 ∧ V1 (a + 2) (r * 8 + j) = vv (vk l ((kl (kp l S) k).getD j 0)).2
theorem zEq.KI1 {V V1 : zV} {a r k b : Nat} {l : List (Nat × Option Nat)} {S S2 : List Nat} (h : KI V V1 a r l S k) (hb : SN V b S2) (h1 : b ≠ a + 1) (h2 : b ≠ a + 2) : SN V1 b S2 := by
  unfold SN at hb ⊢
  rw [h.1 b h1 h2]
  exact hb
theorem KI_n {V V1 : zV} {a r k : Nat} {l : List (Nat × Option Nat)} {S : List Nat} (h : KI V V1 a r l S k) (hk : ¬ kp l S k) : KI V V1 a r l S (k + 1) := by
  refine ⟨h.1, fun q j hj => h.2.1 q j (by omega), fun j hj => ?_⟩
  rw [kl_n hk] at hj ⊢
  exact h.2.2 j hj
theorem KI_y {V V1 : zV} {a r k : Nat} {l : List (Nat × Option Nat)} {S : List Nat} (h : KI V V1 a r l S k) (hk : kp l S k) : KI V (zup (zup V1 (a + 1) (r * 8 + (kl (kp l S) k).length) (nI (vk l k).1)) (a + 2) (r * 8 + (kl (kp l S) k).length) (vv (vk l k).2)) a r l S (k + 1) := by
  have hle := kl_le (kp l S) k
  refine ⟨fun q h1 h2 => by rw [zup_a h2, zup_a h1]; exact h.1 q h1 h2, fun q j hj => ?_, fun j hj => ?_⟩
  · have e : ¬ j = r * 8 + (kl (kp l S) k).length := by omega
    simp [zup, e]
    exact h.2.1 q j (by omega)
  · rw [kl_y hk] at hj ⊢
    simp at hj
    by_cases e : j = (kl (kp l S) k).length
    · subst e
      simp [zup, List.getD_eq_getElem?_getD]
    · have e2 : (kl (kp l S) k ++ [k]).getD j 0 = (kl (kp l S) k).getD j 0 := by
        simp only [List.getD_eq_getElem?_getD]
        rw [List.getElem?_append_left (by omega)]
      rw [e2]
      simp [zup, e]
      exact h.2.2 j (by omega)
theorem vk_map (l : List (Nat × Option Nat)) (ks : List Nat) (j : Nat) (hj : j < ks.length) : vk (ks.map (vk l)) j = vk l (ks.getD j 0) := by
  simp [vk, List.getD_eq_getElem?_getD, hj]
theorem KI_end {V V1 : zV} {a r : Nat} {v : Vs} {S : List Nat} (h : KI V V1 a r (v r) S (v r).length) (hv : VE V a v) (hr : r < 48) (h1 : 1 ≤ (kl (kp (v r) S) (v r).length).length) : VE (zup V1 (a + 3) r (nI (kl (kp (v r) S) (v r).length).length)) a (fun q => if q = r then kv (v r) S else v q) := by
  have hle := kl_le (kp (v r) S) (v r).length
  have g8 := (hv r hr).2.2.1
  intro q hq
  obtain ⟨g1, g2, g3, g4⟩ := hv q hq
  by_cases e : q = r
  · subst e
    simp only [if_pos]
    have el : (kv (v q) S).length = (kl (kp (v q) S) (v q).length).length := by simp [kv]
    refine ⟨by rw [zup_s, el], by omega, by omega, fun k hk => ?_⟩
    rw [el] at hk
    have e3 : vk (kv (v q) S) k = vk (v q) ((kl (kp (v q) S) (v q).length).getD k 0) := vk_map _ _ _ hk
    have hm : (kl (kp (v q) S) (v q).length).getD k 0 < (v q).length := by
      rw [List.getD_eq_getElem?_getD, List.getElem?_eq_getElem hk]
      exact (kl_mem.mp (List.getElem_mem hk)).1
    have g5 := g4 _ hm
    have g6 := h.2.2 k hk
    rw [e3, zup_a (by omega), zup_a (by omega)]
    exact ⟨g6.1, g6.2, g5.2.2⟩
  · simp only [if_neg e]
    refine ⟨?_, g2, g3, fun k hk => ?_⟩
    · rw [zup_k e, h.1 _ (by omega) (by omega)]; exact g1
    · have := g4 k hk
      rw [zup_a (by omega), zup_a (by omega), h.2.1 (a + 1) (q * 8 + k) (by omega), h.2.1 (a + 2) (q * 8 + k) (by omega)]
      exact this

set_option maxHeartbeats 4000000 in
set_option maxRecDepth 100000 in
theorem lp_keep {D : zD} {z0 nx : Nat} {L : zL} {V : zV} {a b r : Nat} {v : Vs} {S : List Nat} (hs : sVe L a) (h : VE V a v) (hr : r < 48) (hsn : L b = some (.inl (0, 7))) (hS : SN V b S) (hb : b < a ∨ a + 4 ≤ b) (hk1 : 1 ≤ (kl (kp (v r) S) (v r).length).length) : ∀ (fu : Nat) (i : Nat) (V1 : zV), (v r).length - i = fu → i ≤ (v r).length → KI V V1 a r (v r) S i → Z D z0 2 0 0 mX10_keepSeen 0 0 20 [some (.ref a), some (.int (nI r)), some (.ref b), some (.int (nI S.length)), some (.int (nI (r * 8))), some (.int (nI (v r).length)), some (.int (nI (kl (kp (v r) S) i).length)), some (.int (nI i)), none] [] L V1 nx (zq (some (.int (nI ((v r).length - (kl (kp (v r) S) (v r).length).length)))) L nx (fun V' => zEq V V' a (a + 4) ∧ VE V' a (fun q => if q = r then kv (v r) S else v q))) := by
  intro fu
  induction fu using Nat.strongRecOn with
  | ind fu ih =>
    intro i V1 h_fu h_0 h_1
    have hs0 := hs
    obtain ⟨h1, h2, h3, h4⟩ := hs
    obtain ⟨g1, g2, g3, g4⟩ := h r hr
    have hkl := kl_le (kp (v r) S) i
    have hS1 : SN V1 b S := zEq.KI1 h_1 hS (by omega) (by omega)
    have rd : ∀ j, i ≤ j → j < (v r).length → V1 (a + 1) (r * 8 + j) = nI (vk (v r) j).1 ∧ V1 (a + 2) (r * 8 + j) = vv (vk (v r) j).2 ∧ (vk (v r) j).1 < 1000000 := fun j j1 j2 => by rw [h_1.2.1 (a + 1) _ (by omega), h_1.2.1 (a + 2) _ (by omega)]; exact ⟨(g4 j j2).1, (g4 j j2).2.1, (g4 j j2).2.2.1⟩
    refine z_iload dX10_keepSeen_20 rfl ?_
    refine z_iload dX10_keepSeen_22 rfl ?_
    refine z_icmp_geN (tgt := 124) dX10_keepSeen_24 (by decide) (by omega) (by omega) (fun c_24 => ?_) (fun c_24 => ?_)
    · refine z_aload_n dX10_keepSeen_124 rfl ?_
      refine z_getR dX10_keepSeen_125 fX10_18 (by first | assumption | exact And.left (by assumption)) rfl ?_
      refine z_iload_n dX10_keepSeen_128 rfl ?_
      refine z_iload dX10_keepSeen_129 rfl ?_
      refine z_iastN dX10_keepSeen_131 (by first | assumption | exact And.left (by assumption)) (by omega) (by decide) ?_
      refine z_iload dX10_keepSeen_132 rfl ?_
      refine z_iload dX10_keepSeen_134 rfl ?_
      refine z_subN dX10_keepSeen_136 (by omega) ?_
      refine z_ireturn dX10_keepSeen_137 (Nat.le_of_ble_eq_true rfl) (Nat.le_of_ble_eq_true rfl) rfl ?_
      have e : i = (v r).length := by omega
      subst e
      exact ⟨rfl, rfl, rfl, fun q hq => by rw [zup_a (by omega)]; exact h_1.1 q (by omega) (by omega), KI_end h_1 h hr hk1⟩
    · refine z_iload dX10_keepSeen_27 rfl ?_
      refine z_iconst (v := nI 1) dX10_keepSeen_29 rfl ?_
      refine z_addN dX10_keepSeen_30 ?_
      refine z_iload dX10_keepSeen_31 rfl ?_
      refine z_icmp_geN (tgt := 51) dX10_keepSeen_33 (by decide) (by omega) (by omega) (fun c_33 => ?_) (fun c_33 => ?_)
      · refine z_ldc (v := nI 1000000) dX10_keepSeen_51 qX10_38 ?_
        refine z_istore dX10_keepSeen_53 (Nat.le_of_ble_eq_true rfl) rfl ?_
        refine z_aload_n dX10_keepSeen_55 rfl ?_
        refine z_iload_n dX10_keepSeen_56 rfl ?_
        refine z_aload_n dX10_keepSeen_57 rfl ?_
        refine z_getR dX10_keepSeen_58 fX10_9 (by first | assumption | exact And.left (by assumption)) rfl ?_
        refine z_iload dX10_keepSeen_61 rfl ?_
        refine z_iload dX10_keepSeen_63 rfl ?_
        refine z_addN dX10_keepSeen_65 ?_
        refine z_ialdN dX10_keepSeen_66 (by first | assumption | exact And.left (by assumption)) (by omega) (by decide) ((rd i (by omega) (by omega)).1) ?_
        refine z_iload dX10_keepSeen_67 rfl ?_
        have b1 := (rd i (by omega) (by omega)).2.2
        first | have b2 := (rd (i + 1) (by omega) (by omega)).2.2 | skip
        refine z_callS4i dX10_keepSeen_69 kX10_isOneWithin lX10_39 (s_one hsn hS1 (by omega) (by omega) rfl) (Nat.le_of_ble_eq_true rfl) (Nat.le_of_ble_eq_true rfl) ⟨Nat.le_of_ble_eq_true rfl, Nat.le_of_ble_eq_true rfl⟩ ?_
        refine z_if_eqB (tgt := 118) dX10_keepSeen_72 (by decide) (fun cc => ?_) (fun cc => ?_)
        · have hkp : ¬ kp (v r) S i := by
            unfold kp
            first | rw [if_pos (by omega)] | rw [if_neg (by omega)]
            exact cc
          refine z_incN dX10_keepSeen_118 rfl rfl ?_
          refine z_goto (tgt := 20) dX10_keepSeen_121 (by decide) ?_
          refine z_fg 8 ?_
          first
            | (have hz := ih _ (by omega) (i + 1) _ rfl (by omega) (KI_n h_1 hkp); rw [kl_n hkp] at hz; exact hz)
            | (have hz := ih _ (by omega) (i + 1) _ rfl (by omega) (KI_y h_1 hkp); rw [kl_y hkp, List.length_append] at hz; exact hz)
        · have hkp : kp (v r) S i := by
            unfold kp
            first | rw [if_pos (by omega)] | rw [if_neg (by omega)]
            exact cc
          refine z_aload_n dX10_keepSeen_75 rfl ?_
          refine z_getR dX10_keepSeen_76 fX10_9 (by first | assumption | exact And.left (by assumption)) rfl ?_
          refine z_iload dX10_keepSeen_79 rfl ?_
          refine z_iload dX10_keepSeen_81 rfl ?_
          refine z_addN dX10_keepSeen_83 ?_
          refine z_aload_n dX10_keepSeen_84 rfl ?_
          refine z_getR dX10_keepSeen_85 fX10_9 (by first | assumption | exact And.left (by assumption)) rfl ?_
          refine z_iload dX10_keepSeen_88 rfl ?_
          refine z_iload dX10_keepSeen_90 rfl ?_
          refine z_addN dX10_keepSeen_92 ?_
          refine z_ialdN dX10_keepSeen_93 (by first | assumption | exact And.left (by assumption)) (by omega) (by decide) ((rd i (by omega) (by omega)).1) ?_
          refine z_iastN dX10_keepSeen_94 (by first | assumption | exact And.left (by assumption)) (by omega) (by decide) ?_
          refine z_aload_n dX10_keepSeen_95 rfl ?_
          refine z_getR dX10_keepSeen_96 fX10_15 (by first | assumption | exact And.left (by assumption)) rfl ?_
          refine z_iload dX10_keepSeen_99 rfl ?_
          refine z_iload dX10_keepSeen_101 rfl ?_
          refine z_addN dX10_keepSeen_103 ?_
          refine z_aload_n dX10_keepSeen_104 rfl ?_
          refine z_getR dX10_keepSeen_105 fX10_15 (by first | assumption | exact And.left (by assumption)) rfl ?_
          refine z_iload dX10_keepSeen_108 rfl ?_
          refine z_iload dX10_keepSeen_110 rfl ?_
          refine z_addN dX10_keepSeen_112 ?_
          refine z_ialdN dX10_keepSeen_113 (by first | assumption | exact And.left (by assumption)) (by omega) (by decide) ((congrFun (zup_a (by omega)) _).trans (rd i (by omega) (by omega)).2.1) ?_
          refine z_iastN dX10_keepSeen_114 (by first | assumption | exact And.left (by assumption)) (by omega) (by decide) ?_
          refine z_incN dX10_keepSeen_115 rfl rfl ?_
          refine z_incN dX10_keepSeen_118 rfl rfl ?_
          refine z_goto (tgt := 20) dX10_keepSeen_121 (by decide) ?_
          refine z_fg 8 ?_
          first
            | (have hz := ih _ (by omega) (i + 1) _ rfl (by omega) (KI_n h_1 hkp); rw [kl_n hkp] at hz; exact hz)
            | (have hz := ih _ (by omega) (i + 1) _ rfl (by omega) (KI_y h_1 hkp); rw [kl_y hkp, List.length_append] at hz; exact hz)
      · refine z_aload_n dX10_keepSeen_36 rfl ?_
        refine z_getR dX10_keepSeen_37 fX10_9 (by first | assumption | exact And.left (by assumption)) rfl ?_
        refine z_iload dX10_keepSeen_40 rfl ?_
        refine z_iload dX10_keepSeen_42 rfl ?_
        refine z_addN dX10_keepSeen_44 ?_
        refine z_iconst (v := nI 1) dX10_keepSeen_45 rfl ?_
        refine z_addN dX10_keepSeen_46 ?_
        refine z_ialdN dX10_keepSeen_47 (by first | assumption | exact And.left (by assumption)) (by omega) (by decide) ((rd (i + 1) (by omega) (by omega)).1) ?_
        refine z_goto (tgt := 53) dX10_keepSeen_48 (by decide) ?_
        refine z_istore dX10_keepSeen_53 (Nat.le_of_ble_eq_true rfl) rfl ?_
        refine z_aload_n dX10_keepSeen_55 rfl ?_
        refine z_iload_n dX10_keepSeen_56 rfl ?_
        refine z_aload_n dX10_keepSeen_57 rfl ?_
        refine z_getR dX10_keepSeen_58 fX10_9 (by first | assumption | exact And.left (by assumption)) rfl ?_
        refine z_iload dX10_keepSeen_61 rfl ?_
        refine z_iload dX10_keepSeen_63 rfl ?_
        refine z_addN dX10_keepSeen_65 ?_
        refine z_ialdN dX10_keepSeen_66 (by first | assumption | exact And.left (by assumption)) (by omega) (by decide) ((rd i (by omega) (by omega)).1) ?_
        refine z_iload dX10_keepSeen_67 rfl ?_
        have b1 := (rd i (by omega) (by omega)).2.2
        first | have b2 := (rd (i + 1) (by omega) (by omega)).2.2 | skip
        refine z_callS4i dX10_keepSeen_69 kX10_isOneWithin lX10_39 (s_one hsn hS1 (by omega) (by omega) rfl) (Nat.le_of_ble_eq_true rfl) (Nat.le_of_ble_eq_true rfl) ⟨Nat.le_of_ble_eq_true rfl, Nat.le_of_ble_eq_true rfl⟩ ?_
        refine z_if_eqB (tgt := 118) dX10_keepSeen_72 (by decide) (fun cc => ?_) (fun cc => ?_)
        · have hkp : ¬ kp (v r) S i := by
            unfold kp
            first | rw [if_pos (by omega)] | rw [if_neg (by omega)]
            exact cc
          refine z_incN dX10_keepSeen_118 rfl rfl ?_
          refine z_goto (tgt := 20) dX10_keepSeen_121 (by decide) ?_
          refine z_fg 8 ?_
          first
            | (have hz := ih _ (by omega) (i + 1) _ rfl (by omega) (KI_n h_1 hkp); rw [kl_n hkp] at hz; exact hz)
            | (have hz := ih _ (by omega) (i + 1) _ rfl (by omega) (KI_y h_1 hkp); rw [kl_y hkp, List.length_append] at hz; exact hz)
        · have hkp : kp (v r) S i := by
            unfold kp
            first | rw [if_pos (by omega)] | rw [if_neg (by omega)]
            exact cc
          refine z_aload_n dX10_keepSeen_75 rfl ?_
          refine z_getR dX10_keepSeen_76 fX10_9 (by first | assumption | exact And.left (by assumption)) rfl ?_
          refine z_iload dX10_keepSeen_79 rfl ?_
          refine z_iload dX10_keepSeen_81 rfl ?_
          refine z_addN dX10_keepSeen_83 ?_
          refine z_aload_n dX10_keepSeen_84 rfl ?_
          refine z_getR dX10_keepSeen_85 fX10_9 (by first | assumption | exact And.left (by assumption)) rfl ?_
          refine z_iload dX10_keepSeen_88 rfl ?_
          refine z_iload dX10_keepSeen_90 rfl ?_
          refine z_addN dX10_keepSeen_92 ?_
          refine z_ialdN dX10_keepSeen_93 (by first | assumption | exact And.left (by assumption)) (by omega) (by decide) ((rd i (by omega) (by omega)).1) ?_
          refine z_iastN dX10_keepSeen_94 (by first | assumption | exact And.left (by assumption)) (by omega) (by decide) ?_
          refine z_aload_n dX10_keepSeen_95 rfl ?_
          refine z_getR dX10_keepSeen_96 fX10_15 (by first | assumption | exact And.left (by assumption)) rfl ?_
          refine z_iload dX10_keepSeen_99 rfl ?_
          refine z_iload dX10_keepSeen_101 rfl ?_
          refine z_addN dX10_keepSeen_103 ?_
          refine z_aload_n dX10_keepSeen_104 rfl ?_
          refine z_getR dX10_keepSeen_105 fX10_15 (by first | assumption | exact And.left (by assumption)) rfl ?_
          refine z_iload dX10_keepSeen_108 rfl ?_
          refine z_iload dX10_keepSeen_110 rfl ?_
          refine z_addN dX10_keepSeen_112 ?_
          refine z_ialdN dX10_keepSeen_113 (by first | assumption | exact And.left (by assumption)) (by omega) (by decide) ((congrFun (zup_a (by omega)) _).trans (rd i (by omega) (by omega)).2.1) ?_
          refine z_iastN dX10_keepSeen_114 (by first | assumption | exact And.left (by assumption)) (by omega) (by decide) ?_
          refine z_incN dX10_keepSeen_115 rfl rfl ?_
          refine z_incN dX10_keepSeen_118 rfl rfl ?_
          refine z_goto (tgt := 20) dX10_keepSeen_121 (by decide) ?_
          refine z_fg 8 ?_
          first
            | (have hz := ih _ (by omega) (i + 1) _ rfl (by omega) (KI_n h_1 hkp); rw [kl_n hkp] at hz; exact hz)
            | (have hz := ih _ (by omega) (i + 1) _ rfl (by omega) (KI_y h_1 hkp); rw [kl_y hkp, List.length_append] at hz; exact hz)

theorem KI_0 {V : zV} {a r : Nat} {l : List (Nat × Option Nat)} {S : List Nat} : KI V V a r l S 0 := ⟨fun _ _ _ => rfl, fun _ _ _ => rfl, fun j hj => absurd hj (by simp [kl])⟩

set_option maxHeartbeats 4000000 in
set_option maxRecDepth 100000 in
theorem s_keepSeen {D : zD} {z0 nx : Nat} {L : zL} {V : zV} {a b r n : Nat} {v : Vs} {S : List Nat} (hs : sVe L a) (h : VE V a v) (hr : r < 48) (hsn : L b = some (.inl (0, 7))) (hS : SN V b S) (hb : b < a ∨ a + 4 ≤ b) (hn : n = S.length) (hk1 : 1 ≤ (kl (kp (v r) S) (v r).length).length) : Sp D z0 2 0 0 mX10_keepSeen [.ref a, .int (nI r), .ref b, .int (nI n)] L V nx (zq (some (.int (nI ((v r).length - (kl (kp (v r) S) (v r).length).length)))) L nx (fun V' => zEq V V' a (a + 4) ∧ VE V' a (fun q => if q = r then kv (v r) S else v q))) := by
  subst hn
  have hs0 := hs
  obtain ⟨h1, h2, h3, h4⟩ := hs
  have g1 := (h r hr).1
  refine Sp.of 5 (by decide) rfl rfl (Nat.le_of_ble_eq_true rfl) ?_
  refine z_iload_n dX10_keepSeen_0 rfl ?_
  refine z_bipush (v := nI 8) dX10_keepSeen_1 rfl ?_
  refine z_mulN dX10_keepSeen_3 ?_
  refine z_istore dX10_keepSeen_4 (Nat.le_of_ble_eq_true rfl) rfl ?_
  refine z_aload_n dX10_keepSeen_6 rfl ?_
  refine z_getR dX10_keepSeen_7 fX10_18 (by first | assumption | exact And.left (by assumption)) rfl ?_
  refine z_iload_n dX10_keepSeen_10 rfl ?_
  refine z_ialdN dX10_keepSeen_11 (by first | assumption | exact And.left (by assumption)) (by omega) (by decide) (by first | assumption | exact zup_s _ _ _ _ | rfl) ?_
  refine z_istore dX10_keepSeen_12 (Nat.le_of_ble_eq_true rfl) rfl ?_
  refine z_iconst (v := nI 0) dX10_keepSeen_14 rfl ?_
  refine z_istore dX10_keepSeen_15 (Nat.le_of_ble_eq_true rfl) rfl ?_
  refine z_iconst (v := nI 0) dX10_keepSeen_17 rfl ?_
  refine z_istore dX10_keepSeen_18 (Nat.le_of_ble_eq_true rfl) rfl ?_
  exact lp_keep hs0 h hr hsn hS hb hk1 _ 0 V rfl (by omega) KI_0

