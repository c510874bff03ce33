/-! the reference: sweep -/
theorem kl_getD {p : Nat → Prop} {n a : Nat} (ha : a < (kl p n).length) : (kl p n).getD a 0 < n := (kl_mem.mp (mem_getD ha)).1
theorem MB_row {f g : Nat → Int32} {s : St} {r : Nat} {l : List (Nat × Option Nat)} (h : MB f s) (hr : r < 48) (hl : MVr g r l) (e : ∀ j, j < 5343 → j ≠ 1920 + r → ¬ (40 * r ≤ j ∧ j < 40 * r + 40) → g j = f j) : MB g (s.1, (fun q => if q = r then l else s.2.1 q), s.2.2) := by
  obtain ⟨⟨h1, h2, h3, h4⟩, h5, h6, h7⟩ := h
  refine ⟨⟨by rw [e _ (by omega) (by omega) (by omega)]; exact h1, by rw [e _ (by omega) (by omega) (by omega)]; exact h2, by rw [e _ (by omega) (by omega) (by omega)]; exact h3, h4⟩, fun q hq => ?_, fun t ht => (h6 t ht).cg (fun j _ _ => e j (by omega) (by omega) (by omega)), fun i hi => (h7 i hi).cg (fun j _ _ => e j (by omega) (by omega) (by omega))⟩
  show MVr g q (if q = r then l else s.2.1 q)
  by_cases c : q = r
  · subst c
    rw [if_pos rfl]
    exact hl
  · rw [if_neg c]
    exact (h5 q hq).cg hq (e _ (by omega) (by omega) (by omega)) (fun j j1 j2 => e j (by omega) (by omega) (by omega))
theorem MVr_kept {f g : Nat → Int32} {r : Nat} {l : List (Nat × Option Nat)} {S : List Nat} (h : MVr f r l) (h1 : 1 ≤ (kl (kp l S) l.length).length) (hn : g (1920 + r) = nI (kl (kp l S) l.length).length) (hc : ∀ a, a < (kl (kp l S) l.length).length → ∀ c, c < 5 → g (40 * r + 5 * a + c) = f (40 * r + 5 * (kl (kp l S) l.length).getD a 0 + c)) : MVr g r (kv l S) := by
  obtain ⟨v1, v2, v3, v4⟩ := h
  have hle := kl_le (kp l S) l.length
  have hlen : (kv l S).length = (kl (kp l S) l.length).length := by unfold kv; simp
  refine ⟨by rw [hlen]; exact hn, by omega, by omega, fun k hk => ?_⟩
  have hk2 : k < (kl (kp l S) l.length).length := by omega
  have e : vk (kv l S) k = vk l ((kl (kp l S) l.length).getD k 0) := by
    unfold kv
    conv => lhs; unfold vk
    rw [List.getD_eq_getElem?_getD, List.getElem?_map, List.getD_eq_getElem?_getD, List.getElem?_eq_getElem hk2]
    rfl
  obtain ⟨a1, a2, a3⟩ := v4 _ (kl_getD hk2)
  rw [e]
  exact ⟨by have := hc k hk2 0 (by omega); rw [show 40 * r + 5 * k = 40 * r + 5 * k + 0 by omega, this]; exact a1, a2, a3.mv (fun j hj => by have := hc k hk2 (1 + j) (by omega); rw [show 40 * r + 5 * k + 1 + j = 40 * r + 5 * k + (1 + j) by omega, this]; congr 1; omega)⟩

set_option maxHeartbeats 4000000 in
set_option maxRecDepth 100000 in
theorem lp_swA {D : zD} {z0 nx : Nat} {L : zL} {V : zV} {m r c : Nat} {s : St} {S : List Nat} (hm : sM L m) (hB : MB (V (m + 1)) s) (hr : r < 48) (hsw : ∀ k, k < (s.2.1 r).length → (msn s (s.2.1 r) k ↔ kp (s.2.1 r) S k)) {P : zP} (K : ∀ V2, zEq V V2 (m + 5) (m + 6) → (∀ q, q < (s.2.1 r).length → V2 (m + 5) q = zb (kp (s.2.1 r) S q)) → Z D z0 5 0 0 mX12_sweep 0 0 66 [some (.ref m), some (.int (nI c)), some (.int (nI r)), some (.int (nI (s.2.1 r).length)), none, none] [] L V2 nx P) : ∀ (fu : Nat) (k : Nat) (V1 : zV), (s.2.1 r).length - k = fu → k ≤ (s.2.1 r).length → zEq V V1 (m + 5) (m + 6) → (∀ q, q < k → V1 (m + 5) q = zb (kp (s.2.1 r) S q)) → Z D z0 5 0 0 mX12_sweep 0 0 33 [some (.ref m), some (.int (nI c)), some (.int (nI r)), some (.int (nI (s.2.1 r).length)), some (.int (nI k)), none] [] L V1 nx (P) := by
  intro fu
  induction fu using Nat.strongRecOn with
  | ind fu ih =>
    intro k V1 h_fu h_0 h_1 h_2
    have hm0 := hm
    obtain ⟨a0, a1, a2, a3, a4, a5, a6, a7, a8, a9, a10, a11, a12, a13, a14, a15⟩ := hm
    have hA : V1 (m + 1) = V (m + 1) := h_1 (m + 1) (by omega)
    have hB1 : MB (V1 (m + 1)) s := by rw [hA]; exact hB
    have hv8 := (hB.2.1 r hr).2.2.1
    refine z_iload dX12_sweep_33 rfl ?_
    refine z_iload_n dX12_sweep_35 rfl ?_
    refine z_icmp_geN (tgt := 66) dX12_sweep_36 (by decide) (by omega) (by omega) (fun c_36 => ?_) (fun c_36 => ?_)
    · refine z_fg 4 ?_
      exact K V1 h_1 (fun q hq => h_2 q (by omega))
    · refine z_aload_n dX12_sweep_39 rfl ?_
      refine z_getR dX12_sweep_40 fX12_28 (by first | assumption | exact And.left (by assumption)) rfl ?_
      refine z_iload dX12_sweep_43 rfl ?_
      refine z_aload_n dX12_sweep_45 rfl ?_
      refine z_iload_n dX12_sweep_46 rfl ?_
      refine z_bipush (v := nI 40) dX12_sweep_47 rfl ?_
      refine z_iload_n dX12_sweep_49 rfl ?_
      refine z_mulN dX12_sweep_50 ?_
      refine z_iconst (v := nI 5) dX12_sweep_51 rfl ?_
      refine z_iload dX12_sweep_52 rfl ?_
      refine z_mulN dX12_sweep_54 ?_
      refine z_addN dX12_sweep_55 ?_
      refine z_callV2i dX12_sweep_56 kX12_isSeen lX12_207 (by first | assumption | exact And.left (by assumption)) rfl (s_isSeen hm0 hB1 hr (by omega)) (Nat.le_of_ble_eq_true rfl) (Nat.le_of_ble_eq_true rfl) ⟨Nat.le_of_ble_eq_true rfl, Nat.le_of_ble_eq_true rfl⟩ ?_
      rw [zb_iff (hsw k (by omega))]
      refine z_zastN dX12_sweep_59 (by first | assumption | exact And.left (by assumption)) (by omega) (by decide) (by first | exact Or.inl rfl | exact Or.inr rfl | exact zb_01 _ | assumption) ?_
      refine z_incN dX12_sweep_60 rfl rfl ?_
      refine z_goto (tgt := 33) dX12_sweep_63 (by decide) ?_
      refine ih _ (by omega) (k + 1) _ rfl (by omega) (h_1.up (by omega) (by omega)) (fun q hq => ?_)
      by_cases e : q = k
      · rw [e, zup_s]
      · rw [zup_k e]
        exact h_2 q (by omega)

set_option maxHeartbeats 4000000 in
set_option maxRecDepth 100000 in
theorem lp_swB {D : zD} {z0 nx : Nat} {L : zL} {V : zV} {m r c n : Nat} {l : List (Nat × Option Nat)} {S : List Nat} (hm : sM L m) (hr : r < 48) (hn : n ≤ 8) (hst : ∀ q, q < n → V (m + 5) q = zb (kp l S q)) {P : zP} (K : ∀ V2, zEq V V2 (m + 1) (m + 2) → (∀ a, a < (kl (kp l S) n).length → ∀ c, c < 5 → V2 (m + 1) (40 * r + 5 * a + c) = V (m + 1) (40 * r + 5 * (kl (kp l S) n).getD a 0 + c)) → (∀ x, ¬ (40 * r ≤ x ∧ x < 40 * r + 5 * n) → V2 (m + 1) x = V (m + 1) x) → Z D z0 5 0 0 mX12_sweep 0 0 130 [some (.ref m), some (.int (nI c)), some (.int (nI r)), some (.int (nI n)), some (.int (nI (kl (kp l S) n).length)), none] [] L V2 nx P) : ∀ (fu : Nat) (k : Nat) (V1 : zV), n - k = fu → k ≤ n → zEq V V1 (m + 1) (m + 2) → (∀ a, a < (kl (kp l S) k).length → ∀ c, c < 5 → V1 (m + 1) (40 * r + 5 * a + c) = V (m + 1) (40 * r + 5 * (kl (kp l S) k).getD a 0 + c)) → (∀ x, ¬ (40 * r ≤ x ∧ x < 40 * r + 5 * (kl (kp l S) k).length) → V1 (m + 1) x = V (m + 1) x) → Z D z0 5 0 0 mX12_sweep 0 0 72 [some (.ref m), some (.int (nI c)), some (.int (nI r)), some (.int (nI n)), some (.int (nI (kl (kp l S) k).length)), some (.int (nI k))] [] L V1 nx (P) := by
  intro fu
  induction fu using Nat.strongRecOn with
  | ind fu ih =>
    intro k V1 h_fu h_0 h_1 h_2 h_3
    have hm0 := hm
    obtain ⟨a0, a1, a2, a3, a4, a5, a6, a7, a8, a9, a10, a11, a12, a13, a14, a15⟩ := hm
    have hle := kl_le (kp l S) k
    refine z_iload dX12_sweep_72 rfl ?_
    refine z_iload_n dX12_sweep_74 rfl ?_
    refine z_icmp_geN (tgt := 130) dX12_sweep_75 (by decide) (by omega) (by omega) (fun c_75 => ?_) (fun c_75 => ?_)
    · have ek : k = n := by omega
      subst ek
      refine z_fg 5 ?_
      exact K V1 h_1 h_2 (fun x hx => h_3 x (by omega))
    · refine z_aload_n dX12_sweep_78 rfl ?_
      refine z_getR dX12_sweep_79 fX12_28 (by first | assumption | exact And.left (by assumption)) rfl ?_
      refine z_iload dX12_sweep_82 rfl ?_
      refine z_zaldN dX12_sweep_84 (by first | assumption | exact And.left (by assumption)) (by omega) (by decide) ((congrFun (h_1 (m + 5) (by omega)) k).trans (hst k (by omega))) ?_
      refine z_if_neB (tgt := 91) dX12_sweep_85 (by decide) (fun c_85 => ?_) (fun c_85 => ?_)
      · have eN := kl_y (p := kp l S) (n := k) c_85
        refine z_aload_n dX12_sweep_91 rfl ?_
        refine z_getR dX12_sweep_92 fX12_13 (by first | assumption | exact And.left (by assumption)) rfl ?_
        refine z_bipush (v := nI 40) dX12_sweep_95 rfl ?_
        refine z_iload_n dX12_sweep_97 rfl ?_
        refine z_mulN dX12_sweep_98 ?_
        refine z_iconst (v := nI 5) dX12_sweep_99 rfl ?_
        refine z_iload dX12_sweep_100 rfl ?_
        refine z_mulN dX12_sweep_102 ?_
        refine z_addN dX12_sweep_103 ?_
        refine z_aload_n dX12_sweep_104 rfl ?_
        refine z_getR dX12_sweep_105 fX12_13 (by first | assumption | exact And.left (by assumption)) rfl ?_
        refine z_bipush (v := nI 40) dX12_sweep_108 rfl ?_
        refine z_iload_n dX12_sweep_110 rfl ?_
        refine z_mulN dX12_sweep_111 ?_
        refine z_iconst (v := nI 5) dX12_sweep_112 rfl ?_
        refine z_iload dX12_sweep_113 rfl ?_
        refine z_mulN dX12_sweep_115 ?_
        refine z_addN dX12_sweep_116 ?_
        refine z_iconst (v := nI 5) dX12_sweep_117 rfl ?_
        refine z_callS5w dX12_sweep_118 kX12_copies lX12_76 (s_cp a1 a1 (by omega) (by omega) (by omega) (Or.inr (Or.inl (by omega)))) (Nat.le_of_ble_eq_true rfl) (Nat.le_of_ble_eq_true rfl) ⟨Nat.le_of_ble_eq_true rfl, Nat.le_of_ble_eq_true rfl⟩ ?_
        intro V2 hV2
        subst hV2
        refine z_incN dX12_sweep_121 rfl rfl ?_
        refine z_incN dX12_sweep_124 rfl rfl ?_
        refine z_goto (tgt := 72) dX12_sweep_127 (by decide) ?_
        first
          | (have hz := ih _ (by omega) (k + 1) V1 rfl (by omega) h_1 (by rw [eN]; exact h_2) (by rw [eN]; exact h_3)
             rw [eN] at hz
             exact hz)
          | (have hln : (kl (kp l S) (k + 1)).length = (kl (kp l S) k).length + 1 := by rw [eN]; simp
             rw [← hln]
             refine ih _ (by omega) (k + 1) _ rfl (by omega) (fun q hq => by rw [cp_a (by omega)]; exact h_1 q hq) (fun a ha c0 hc0 => ?_) (fun x hx => ?_)
             · rw [hln] at ha
               rw [eN, getD_snocN _ _ _ ha]
               unfold cpz
               rw [zset_s]
               by_cases e : a < (kl (kp l S) k).length
               · rw [if_pos e, if_neg (by omega)]
                 exact h_2 a e c0 hc0
               · rw [if_neg e, if_pos (by omega)]
                 rw [show 40 * r + 5 * k + (40 * r + 5 * a + c0 - (40 * r + 5 * (kl (kp l S) k).length)) = 40 * r + 5 * k + c0 by omega]
                 exact h_3 _ (by omega)
             · rw [hln] at hx
               unfold cpz
               rw [zset_s, if_neg (by omega)]
               exact h_3 x (by omega))
      · have eN := kl_n (p := kp l S) (n := k) c_85
        refine z_goto (tgt := 124) dX12_sweep_88 (by decide) ?_
        refine z_incN dX12_sweep_124 rfl rfl ?_
        refine z_goto (tgt := 72) dX12_sweep_127 (by decide) ?_
        first
          | (have hz := ih _ (by omega) (k + 1) V1 rfl (by omega) h_1 (by rw [eN]; exact h_2) (by rw [eN]; exact h_3)
             rw [eN] at hz
             exact hz)
          | (have hln : (kl (kp l S) (k + 1)).length = (kl (kp l S) k).length + 1 := by rw [eN]; simp
             rw [← hln]
             refine ih _ (by omega) (k + 1) _ rfl (by omega) (fun q hq => by rw [cp_a (by omega)]; exact h_1 q hq) (fun a ha c0 hc0 => ?_) (fun x hx => ?_)
             · rw [hln] at ha
               rw [eN, getD_snocN _ _ _ ha]
               unfold cpz
               rw [zset_s]
               by_cases e : a < (kl (kp l S) k).length
               · rw [if_pos e, if_neg (by omega)]
                 exact h_2 a e c0 hc0
               · rw [if_neg e, if_pos (by omega)]
                 rw [show 40 * r + 5 * k + (40 * r + 5 * a + c0 - (40 * r + 5 * (kl (kp l S) k).length)) = 40 * r + 5 * k + c0 by omega]
                 exact h_3 _ (by omega)
             · rw [hln] at hx
               unfold cpz
               rw [zset_s, if_neg (by omega)]
               exact h_3 x (by omega))

