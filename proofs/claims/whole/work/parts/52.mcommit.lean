/-! the reference: a commit -/
theorem AT.mv {f g : Nat → Int32} {p q : Nat} {v : Option Nat} (h : AT f p v) (e : ∀ j, j < 4 → g (q + 1 + j) = f (p + 1 + j)) : AT g q v := by
  cases v with
  | none => exact (e 0 (by omega)).trans h
  | some x =>
    obtain ⟨h1, h2, h3⟩ := h
    refine ⟨(e 0 (by omega)).trans h1, h2, fun j hj => ?_⟩
    have := e (j + 1) (by omega)
    rw [show q + 2 + j = q + 1 + (j + 1) by omega, this, show p + 1 + (j + 1) = p + 2 + j by omega]
    exact h3 j hj
theorem vk_snoc {l : List (Nat × Option Nat)} {j : Nat} {x : Nat × Option Nat} (hj : j < l.length + 1) : vk (l ++ [x]) j = if j < l.length then vk l j else x := by
  unfold vk
  simp only [List.getD_eq_getElem?_getD]
  split
  · rename_i q; rw [List.getElem?_append_left q]
  · rename_i q; rw [List.getElem?_append_right (by omega), show j - l.length = 0 by omega] <;> rfl
theorem MB_app {f g : Nat → Int32} {s : St} {r sq : Nat} {x : Option Nat} (h : MB f s) (hr : r < 48) (hl : (s.2.1 r).length < 8) (hsq : sq < 1000000) (hn : g (1920 + r) = nI ((s.2.1 r).length + 1)) (h0 : g (40 * r + 5 * (s.2.1 r).length) = nI sq) (ha : AT g (40 * r + 5 * (s.2.1 r).length) x) (e : ∀ j, j < 5343 → j ≠ 1920 + r → ¬ (40 * r + 5 * (s.2.1 r).length ≤ j ∧ j < 40 * r + 5 * (s.2.1 r).length + 5) → g j = f j) : MB g (s.1, vapp s.2.1 r sq x, s.2.2) := by
  obtain ⟨⟨h1, h2, h3, h4⟩, h5, h6, h7⟩ := h
  refine ⟨⟨by rw [e _ (by omega) (by omega) (by omega)]; exact h1, by rw [e _ (by omega) (by omega) (by omega)]; exact h2, by rw [e _ (by omega) (by omega) (by omega)]; exact h3, h4⟩, fun q hq => ?_, fun t ht => (h6 t ht).cg (fun j _ _ => e j (by omega) (by omega) (by omega)), fun i hi => (h7 i hi).cg (fun j _ _ => e j (by omega) (by omega) (by omega))⟩
  show MVr g q (if q = r then s.2.1 r ++ [(sq, x)] else s.2.1 q)
  by_cases c : q = r
  · subst c
    rw [if_pos rfl]
    obtain ⟨v1, v2, v3, v4⟩ := h5 q hq
    refine ⟨by simp; exact hn, by simp, by simp; omega, fun k hk => ?_⟩
    have hk2 : k < (s.2.1 q).length + 1 := by simpa using hk
    rw [vk_snoc hk2]
    by_cases c2 : k < (s.2.1 q).length
    · rw [if_pos c2]
      obtain ⟨k1, k2, k3⟩ := v4 k c2
      exact ⟨by rw [e _ (by omega) (by omega) (by omega)]; exact k1, k2, k3.cg (fun j j1 j2 => e j (by omega) (by omega) (by omega))⟩
    · rw [if_neg c2, show k = (s.2.1 q).length by omega]
      exact ⟨h0, hsq, ha⟩
  · rw [if_neg c]
    exact (h5 q hq).cg hq (e _ (by omega) (by omega) (by omega)) (fun j j1 j2 => e j (by omega) (by omega) (by omega))
theorem MB_seq {f g : Nat → Int32} {s : St} {sq : Nat} (h : MB f s) (hs : sq < 900000) (h0 : g 5340 = nI sq) (e : ∀ j, j < 5343 → j ≠ 5340 → g j = f j) : MB g ((sq, s.1.2), s.2) := by
  obtain ⟨⟨h1, h2, h3, h4, h40⟩, h5, h6, h7⟩ := h
  exact ⟨⟨h0, by rw [e _ (by omega) (by omega)]; exact h2, by rw [e _ (by omega) (by omega)]; exact h3, hs, h40⟩, fun r hr => (h5 r hr).cg hr (e _ (by omega) (by omega)) (fun j _ _ => e j (by omega) (by omega)), fun t ht => (h6 t ht).cg (fun j _ _ => e j (by omega) (by omega)), fun i hi => (h7 i hi).cg (fun j _ _ => e j (by omega) (by omega))⟩
noncomputable def cmS (s : St) (w : Nat → Option (Option Nat)) (sq r : Nat) : St := ((sq, s.1.2), vset s.2.1 w sq r, s.2.2.1, fun i => xFol s.2.1 w (s.2.2.2 i) r)
theorem cmS_n {s : St} {w : Nat → Option (Option Nat)} {sq r : Nat} (h : w r = none) : cmS s w sq (r + 1) = cmS s w sq r := by
  have e1 : ∀ x, xFol s.2.1 w x (r + 1) = xFol s.2.1 w x r := fun x => by
    show xRowF s.2.1 w r (xFol s.2.1 w x r) = _
    unfold xRowF
    rw [h]
  unfold cmS
  rw [vset_n (v := s.2.1) (w := w) (sq := sq) (i := r) (fun q => q h)]
  simp only [e1]
theorem cmS_y {s : St} {w : Nat → Option (Option Nat)} {sq r : Nat} {u : Option Nat} (h : w r = some u) : cmS s w sq (r + 1) = ((sq, s.1.2), vapp (vset s.2.1 w sq r) r sq u, s.2.2.1, fun i => xChg (lst s.2.1 r).2 u r (xFol s.2.1 w (s.2.2.2 i) r)) := by
  have e1 : ∀ x, xFol s.2.1 w x (r + 1) = xChg (lst s.2.1 r).2 u r (xFol s.2.1 w x r) := fun x => by
    show xRowF s.2.1 w r (xFol s.2.1 w x r) = _
    unfold xRowF
    rw [h]
    rfl
  unfold cmS
  rw [vset_y h]
  simp only [e1]
theorem oX.ix {V V' : zV} {m i : Nat} {s : St} {x : Ix} (h : oX V V' m i) (hi : i < 2) (hB : MB (V (m + 1)) s) (hx : MX (V' (m + 1)) (2140 + 1600 * i) x) : MB (V' (m + 1)) (setX s i x) := MB_ix hB hi (fun j _ j2 => h.2 j (by omega)) (fun j j1 _ => h.2 j (by omega)) hx

set_option maxHeartbeats 4000000 in
set_option maxRecDepth 100000 in
theorem lp_cms {D : zD} {z0 nx : Nat} {L : zL} {V : zV} {m t : Nat} {s : St} (hm : sM L m) (hB : MB (V (m + 1)) s) (ht : t < 4) (hf : ∀ r, r < 48 → (s.2.2.1 t).2.2 r ≠ none → (s.2.1 r).length < 8) (hcap : ∀ i, i < 2 → ∀ r, r < 48 → ∀ u, (s.2.2.1 t).2.2 r = some u → (xFol s.2.1 (s.2.2.1 t).2.2 (s.2.2.2 i) r).1.1 = 4 → ∀ c, eo (xFol s.2.1 (s.2.2.1 t).2.2 (s.2.2.2 i) r).2.1 u r = some c → ¬ eo (xFol s.2.1 (s.2.2.1 t).2.2 (s.2.2.2 i) r).2.1 (lst s.2.1 r).2 r = eo (xFol s.2.1 (s.2.2.1 t).2.2 (s.2.2.2 i) r).2.1 u r → cap c (xKO (eo (xFol s.2.1 (s.2.2.1 t).2.2 (s.2.2.2 i) r).2.1 (lst s.2.1 r).2 r) False (xFol s.2.1 (s.2.2.1 t).2.2 (s.2.2.2 i) r)).2.2.1) : ∀ (fu : Nat) (r : Nat) (V1 : zV), 48 - r = fu → r ≤ 48 → oA V V1 m → MB (V1 (m + 1)) (cmS s (s.2.2.1 t).2.2 (s.1.1 + 1) r) → Z D z0 8 0 0 mX12_commits 0 0 14 [some (.ref m), some (.int (nI t)), some (.int (nI r)), none, none, none, none] [] L V1 nx (zq none L nx (fun V' => oA V V' m ∧ MB (V' (m + 1)) (cmS s (s.2.2.1 t).2.2 (s.1.1 + 1) 48))) := by
  intro fu
  induction fu using Nat.strongRecOn with
  | ind fu ih =>
    intro r V1 h_fu h_0 h_1 h_2
    have hm0 := hm
    obtain ⟨a0, a1, a2, a3, a4, a5, a6, a7, a8, a9, a10, a11, a12, a13, a14, a15⟩ := hm
    have hB1 := h_2
    obtain ⟨x1, x2, x3, ws, xw⟩ := hB1.2.2.1 t ht
    have xw0 : MTw (V1 (m + 1)) (1968 + 43 * t) ws (s.2.2.1 t) := xw
    have w2 := xw0.2.1
    have g5 : V1 (m + 1) 5340 = nI (s.1.1 + 1) := hB1.1.1
    have hsq : s.1.1 + 1 < 900000 := hB1.1.2.2.2.1
    refine z_iload_n dX12_commits_14 rfl ?_
    refine z_bipush (v := nI 48) dX12_commits_15 rfl ?_
    refine z_icmp_geN (tgt := 128) dX12_commits_17 (by decide) (by omega) (by omega) (fun c_17 => ?_) (fun c_17 => ?_)
    · refine z_return dX12_commits_128 (Nat.le_of_ble_eq_true rfl) (Nat.le_of_ble_eq_true rfl) rfl ?_
      have e48 : r = 48 := by omega
      subst e48
      exact ⟨rfl, rfl, rfl, h_1, h_2⟩
    · have hv0 : MVr (V1 (m + 1)) r (s.2.1 r) := by
        have z := hB1.2.1 r (by omega)
        rw [show (cmS s (s.2.2.1 t).2.2 (s.1.1 + 1) r).2.1 r = s.2.1 r from vset_i _ _ _ _] at z
        exact z
      obtain ⟨v1, v2, v3, v4⟩ := hv0
      refine z_aload_n dX12_commits_20 rfl ?_
      refine z_iload_n dX12_commits_21 rfl ?_
      refine z_iload_n dX12_commits_22 rfl ?_
      refine z_callV2i dX12_commits_23 kX12_writeAt lX12_98 (by first | assumption | exact And.left (by assumption)) rfl (s_mWr hm0 ht (by omega) xw0) (Nat.le_of_ble_eq_true rfl) (Nat.le_of_ble_eq_true rfl) ⟨Nat.le_of_ble_eq_true rfl, Nat.le_of_ble_eq_true rfl⟩ ?_
      refine z_istore_n dX12_commits_26 (Nat.le_of_ble_eq_true rfl) rfl ?_
      refine z_iload_n dX12_commits_27 rfl ?_
      refine z_iconst (v := (-1)) dX12_commits_28 rfl ?_
      refine z_icmp_ne (tgt := 35) dX12_commits_29 (by decide) (fun c_29 => ?_) (fun c_29 => ?_)
      · have hw : wpl ws r < ws.length := Classical.byContradiction (fun z => c_29 (if_neg z))
        have hwn := (wpl_nn xw0 (r := r) (by omega)).mp hw
        obtain ⟨q1, q2, q3⟩ := wpl_y xw0 hw
        have hl8 := hf r (by omega) hwn
        rw [if_pos hw]
        generalize hu : (wk ws (wpl ws r)).2 = u at q1 q2
        have eC := cmS_y (s := s) (sq := s.1.1 + 1) q1
        obtain ⟨o1, o2, o3⟩ := v4 ((s.2.1 r).length - 1) (by omega)
        have o4 : AT (V1 (m + 1)) (40 * r + 5 * ((s.2.1 r).length - 1)) (lst s.2.1 r).2 := o3
        refine z_aload_n dX12_commits_35 rfl ?_
        refine z_iload_n dX12_commits_36 rfl ?_
        refine z_callV1i dX12_commits_37 kX12_latest lX12_171 (by first | assumption | exact And.left (by assumption)) rfl (s_mLatest hm0 (by omega) ⟨v1, v2, v3, v4⟩) (Nat.le_of_ble_eq_true rfl) (Nat.le_of_ble_eq_true rfl) ⟨Nat.le_of_ble_eq_true rfl, Nat.le_of_ble_eq_true rfl⟩ ?_
        refine z_istore dX12_commits_40 (Nat.le_of_ble_eq_true rfl) rfl ?_
        refine z_iload dX12_commits_42 rfl ?_
        refine z_iconst (v := nI 5) dX12_commits_44 rfl ?_
        refine z_addN dX12_commits_45 ?_
        refine z_istore dX12_commits_46 (Nat.le_of_ble_eq_true rfl) rfl ?_
        refine z_aload_n dX12_commits_48 rfl ?_
        refine z_getR dX12_commits_49 fX12_13 (by first | assumption | exact And.left (by assumption)) rfl ?_
        refine z_sipush (v := nI 1920) dX12_commits_52 rfl ?_
        refine z_iload_n dX12_commits_55 rfl ?_
        refine z_addN dX12_commits_56 ?_
        refine z_dup2 dX12_commits_57 rfl rfl ?_
        refine z_ialdN dX12_commits_58 (by first | assumption | exact And.left (by assumption)) (by omega) (by decide) v1 ?_
        refine z_iconst (v := nI 1) dX12_commits_59 rfl ?_
        refine z_addN dX12_commits_60 ?_
        refine z_iastN dX12_commits_61 (by first | assumption | exact And.left (by assumption)) (by omega) (by decide) ?_
        refine z_aload_n dX12_commits_62 rfl ?_
        refine z_getR dX12_commits_63 fX12_13 (by first | assumption | exact And.left (by assumption)) rfl ?_
        refine z_iload dX12_commits_66 rfl ?_
        refine z_aload_n dX12_commits_68 rfl ?_
        refine z_getR dX12_commits_69 fX12_13 (by first | assumption | exact And.left (by assumption)) rfl ?_
        refine z_sipush (v := nI 5340) dX12_commits_72 rfl ?_
        refine z_ialdN dX12_commits_75 (by first | assumption | exact And.left (by assumption)) (by omega) (by decide) ((zup_k (by omega)).trans g5) ?_
        refine z_iastN dX12_commits_76 (by first | assumption | exact And.left (by assumption)) (by omega) (by decide) ?_
        refine z_aload_n dX12_commits_77 rfl ?_
        refine z_getR dX12_commits_78 fX12_13 (by first | assumption | exact And.left (by assumption)) rfl ?_
        refine z_iload_n dX12_commits_81 rfl ?_
        refine z_iconst (v := nI 1) dX12_commits_82 rfl ?_
        refine z_addN dX12_commits_83 ?_
        refine z_aload_n dX12_commits_84 rfl ?_
        refine z_getR dX12_commits_85 fX12_13 (by first | assumption | exact And.left (by assumption)) rfl ?_
        refine z_iload dX12_commits_88 rfl ?_
        refine z_iconst (v := nI 1) dX12_commits_90 rfl ?_
        refine z_addN dX12_commits_91 ?_
        refine z_iconst (v := nI 4) dX12_commits_92 rfl ?_
        refine z_callS5w dX12_commits_93 kX12_copies lX12_76 (s_cp a1 a1 (by omega) (by omega) (by omega) (Or.inr (by omega))) (Nat.le_of_ble_eq_true rfl) (Nat.le_of_ble_eq_true rfl) ⟨Nat.le_of_ble_eq_true rfl, Nat.le_of_ble_eq_true rfl⟩ ?_
        intro V2 hV2
        subst hV2
        have hoA : oA V (cpz (zup (zup V1 (m + 1) (1920 + r) (nI ((s.2.1 r).length + 1))) (m + 1) (40 * r + 5 * ((s.2.1 r).length - 1) + 5) (nI (s.1.1 + 1))) (m + 1) (m + 1) (1968 + 43 * t + 3 + 5 * wpl ws r + 1) (40 * r + 5 * ((s.2.1 r).length - 1) + 5 + 1) 4) m := ((h_1.up (by omega)).up (by omega)).cp (by omega)
        have hE : ∀ j, j < 5343 → j ≠ 1920 + r → ¬ (40 * r + 5 * (s.2.1 r).length ≤ j ∧ j < 40 * r + 5 * (s.2.1 r).length + 5) → cpz (zup (zup V1 (m + 1) (1920 + r) (nI ((s.2.1 r).length + 1))) (m + 1) (40 * r + 5 * ((s.2.1 r).length - 1) + 5) (nI (s.1.1 + 1))) (m + 1) (m + 1) (1968 + 43 * t + 3 + 5 * wpl ws r + 1) (40 * r + 5 * ((s.2.1 r).length - 1) + 5 + 1) 4 (m + 1) j = V1 (m + 1) j := fun j j1 j2 j3 => by
          unfold cpz
          rw [zset_s, if_neg (by omega), zup_k (by omega), zup_k (by omega)]
        have hN1 : cpz (zup (zup V1 (m + 1) (1920 + r) (nI ((s.2.1 r).length + 1))) (m + 1) (40 * r + 5 * ((s.2.1 r).length - 1) + 5) (nI (s.1.1 + 1))) (m + 1) (m + 1) (1968 + 43 * t + 3 + 5 * wpl ws r + 1) (40 * r + 5 * ((s.2.1 r).length - 1) + 5 + 1) 4 (m + 1) (1920 + r) = nI ((s.2.1 r).length + 1) := by
          unfold cpz
          rw [zset_s, if_neg (by omega), zup_k (by omega), zup_s]
        have hN2 : cpz (zup (zup V1 (m + 1) (1920 + r) (nI ((s.2.1 r).length + 1))) (m + 1) (40 * r + 5 * ((s.2.1 r).length - 1) + 5) (nI (s.1.1 + 1))) (m + 1) (m + 1) (1968 + 43 * t + 3 + 5 * wpl ws r + 1) (40 * r + 5 * ((s.2.1 r).length - 1) + 5 + 1) 4 (m + 1) (40 * r + 5 * ((s.2.1 r).length - 1) + 5) = nI (s.1.1 + 1) := by
          unfold cpz
          rw [zset_s, if_neg (by omega), zup_s]
        have hN3 : AT (cpz (zup (zup V1 (m + 1) (1920 + r) (nI ((s.2.1 r).length + 1))) (m + 1) (40 * r + 5 * ((s.2.1 r).length - 1) + 5) (nI (s.1.1 + 1))) (m + 1) (m + 1) (1968 + 43 * t + 3 + 5 * wpl ws r + 1) (40 * r + 5 * ((s.2.1 r).length - 1) + 5 + 1) 4 (m + 1)) (40 * r + 5 * ((s.2.1 r).length - 1) + 5) u := q2.mv (fun j hj => by
          unfold cpz
          rw [zset_s, if_pos (by omega), zup_k (by omega), zup_k (by omega)]
          congr 1
          omega)
        generalize cpz (zup (zup V1 (m + 1) (1920 + r) (nI ((s.2.1 r).length + 1))) (m + 1) (40 * r + 5 * ((s.2.1 r).length - 1) + 5) (nI (s.1.1 + 1))) (m + 1) (m + 1) (1968 + 43 * t + 3 + 5 * wpl ws r + 1) (40 * r + 5 * ((s.2.1 r).length - 1) + 5 + 1) 4 = V2 at hoA hE hN1 hN2 hN3 ⊢
        have eN : 40 * r + 5 * ((s.2.1 r).length - 1) + 5 = 40 * r + 5 * (s.2.1 r).length := by omega
        have hB2 : MB (V2 (m + 1)) ((s.1.1 + 1, s.1.2), vapp (vset s.2.1 (s.2.2.1 t).2.2 (s.1.1 + 1) r) r (s.1.1 + 1) u, s.2.2.1, fun i => xFol s.2.1 (s.2.2.1 t).2.2 (s.2.2.2 i) r) := by
          have z := MB_app (g := V2 (m + 1)) (r := r) (sq := s.1.1 + 1) (x := u) hB1 (by omega)
          rw [show (cmS s (s.2.2.1 t).2.2 (s.1.1 + 1) r).2.1 r = s.2.1 r from vset_i _ _ _ _] at z
          exact z hl8 (by omega) hN1 (by rw [← eN]; exact hN2) (by rw [← eN]; exact hN3) hE
        have o5 : AT (V2 (m + 1)) (40 * r + 5 * ((s.2.1 r).length - 1)) (lst s.2.1 r).2 := o4.cg (fun j j1 j2 => hE j (by omega) (by omega) (by omega))
        refine z_iconst (v := nI 0) dX12_commits_96 rfl ?_
        refine z_istore dX12_commits_97 (Nat.le_of_ble_eq_true rfl) rfl ?_
        refine z_iload dX12_commits_99 rfl ?_
        refine z_iconst (v := nI 2) dX12_commits_101 rfl ?_
        refine z_icmp_geN (tgt := 122) dX12_commits_102 (by decide) (by omega) (by omega) (fun c_102 => ?_) (fun c_102 => ?_)
        · exact absurd c_102 (by omega)
        · refine z_aload_n dX12_commits_105 rfl ?_
          refine z_iload dX12_commits_106 rfl ?_
          refine z_iload_n dX12_commits_108 rfl ?_
          refine z_iload dX12_commits_109 rfl ?_
          refine z_iload dX12_commits_111 rfl ?_
          refine z_callV4w dX12_commits_113 kX12_changes lX12_201 (by first | assumption | exact And.left (by assumption)) rfl (s_chg (i := 0) hm0 (by decide) (by omega) (hB2.2.2.2 0 (by decide)) (by omega) o5 (by omega) hN3 (fun z c q5 q6 => hcap 0 (by decide) r (by omega) u q1 z c q5 q6)) (Nat.le_of_ble_eq_true rfl) (Nat.le_of_ble_eq_true rfl) ⟨Nat.le_of_ble_eq_true rfl, Nat.le_of_ble_eq_true rfl⟩ ?_
          intro V3 hV3
          refine z_incN dX12_commits_116 rfl rfl ?_
          refine z_goto (tgt := 99) dX12_commits_119 (by decide) ?_
          refine z_iload dX12_commits_99 rfl ?_
          refine z_iconst (v := nI 2) dX12_commits_101 rfl ?_
          refine z_icmp_geN (tgt := 122) dX12_commits_102 (by decide) (by omega) (by omega) (fun c_102 => ?_) (fun c_102 => ?_)
          · exact absurd c_102 (by omega)
          · refine z_aload_n dX12_commits_105 rfl ?_
            refine z_iload dX12_commits_106 rfl ?_
            refine z_iload_n dX12_commits_108 rfl ?_
            refine z_iload dX12_commits_109 rfl ?_
            refine z_iload dX12_commits_111 rfl ?_
            refine z_callV4w dX12_commits_113 kX12_changes lX12_201 (by first | assumption | exact And.left (by assumption)) rfl (s_chg (i := 1) (x := xFol s.2.1 (s.2.2.1 t).2.2 (s.2.2.2 1) r) hm0 (by decide) (by omega) ((hB2.2.2.2 1 (by decide)).cg (fun j j1 j2 => hV3.1.2 j (by omega))) (by omega) (hV3.1.at (by omega) o5) (by omega) (hV3.1.at (by omega) hN3) (fun z c q5 q6 => hcap 1 (by decide) r (by omega) u q1 z c q5 q6)) (Nat.le_of_ble_eq_true rfl) (Nat.le_of_ble_eq_true rfl) ⟨Nat.le_of_ble_eq_true rfl, Nat.le_of_ble_eq_true rfl⟩ ?_
            intro V4 hV4
            refine z_incN dX12_commits_116 rfl rfl ?_
            refine z_goto (tgt := 99) dX12_commits_119 (by decide) ?_
            refine z_iload dX12_commits_99 rfl ?_
            refine z_iconst (v := nI 2) dX12_commits_101 rfl ?_
            refine z_icmp_geN (tgt := 122) dX12_commits_102 (by decide) (by omega) (by omega) (fun c_102 => ?_) (fun c_102 => ?_)
            · refine z_incN dX12_commits_122 rfl rfl ?_
              refine z_goto (tgt := 14) dX12_commits_125 (by decide) ?_
              refine z_fg 3 ?_
              refine z_fg 4 ?_
              refine z_fg 5 ?_
              refine z_fg 6 ?_
              first
                | exact ih _ (by omega) (r + 1) V1 rfl (by omega) h_1 (by rw [eC]; exact h_2)
                | exact ih _ (by omega) (r + 1) V4 rfl (by omega) ((hoA.trans (oX.a hV3.1 (by decide))).trans (oX.a hV4.1 (by decide))) (by
                    rw [eC]
                    refine (hV4.1.ix (by decide) (hV3.1.ix (by decide) hB2 hV3.2) hV4.2).st rfl (fun _ _ => rfl) (fun _ _ => rfl) (fun i hi => ?_)
                    rcases (show i = 0 ∨ i = 1 by omega) with rfl | rfl <;> rfl)
            · exact absurd c_102 (by omega)
      · have hw : ¬ wpl ws r < ws.length := fun z => by rw [if_pos z] at c_29; exact nI_ne_m1 (by omega) c_29
        have hwn : (s.2.2.1 t).2.2 r = none := wpl_n xw0 (by omega) hw
        have eC := cmS_n (s := s) (sq := s.1.1 + 1) hwn
        refine z_goto (tgt := 122) dX12_commits_32 (by decide) ?_
        refine z_incN dX12_commits_122 rfl rfl ?_
        refine z_goto (tgt := 14) dX12_commits_125 (by decide) ?_
        refine z_fg 3 ?_
        refine z_fg 4 ?_
        refine z_fg 5 ?_
        refine z_fg 6 ?_
        first
          | exact ih _ (by omega) (r + 1) V1 rfl (by omega) h_1 (by rw [eC]; exact h_2)
          | exact ih _ (by omega) (r + 1) V4 rfl (by omega) ((hoA.trans (oX.a hV3.1 (by decide))).trans (oX.a hV4.1 (by decide))) (by
              rw [eC]
              refine (hV4.1.ix (by decide) (hV3.1.ix (by decide) hB2 hV3.2) hV4.2).st rfl (fun _ _ => rfl) (fun _ _ => rfl) (fun i hi => ?_)
              rcases (show i = 0 ∨ i = 1 by omega) with rfl | rfl <;> rfl)

set_option maxHeartbeats 4000000 in
set_option maxRecDepth 100000 in
theorem s_mCommits {D : zD} {z0 nx : Nat} {L : zL} {V : zV} {m t : Nat} {s : St} (hm : sM L m) (hB : MB (V (m + 1)) s) (ht : t < 4) (hf : ∀ r, r < 48 → (s.2.2.1 t).2.2 r ≠ none → (s.2.1 r).length < 8) (hcap : ∀ i, i < 2 → ∀ r, r < 48 → ∀ u, (s.2.2.1 t).2.2 r = some u → (xFol s.2.1 (s.2.2.1 t).2.2 (s.2.2.2 i) r).1.1 = 4 → ∀ c, eo (xFol s.2.1 (s.2.2.1 t).2.2 (s.2.2.2 i) r).2.1 u r = some c → ¬ eo (xFol s.2.1 (s.2.2.1 t).2.2 (s.2.2.2 i) r).2.1 (lst s.2.1 r).2 r = eo (xFol s.2.1 (s.2.2.1 t).2.2 (s.2.2.2 i) r).2.1 u r → cap c (xKO (eo (xFol s.2.1 (s.2.2.1 t).2.2 (s.2.2.2 i) r).2.1 (lst s.2.1 r).2 r) False (xFol s.2.1 (s.2.2.1 t).2.2 (s.2.2.2 i) r)).2.2.1) (hq : s.1.1 + 1 < 900000) : Sp D z0 8 0 0 mX12_commits [.ref m, .int (nI t)] L V nx (zq none L nx (fun V' => oA V V' m ∧ MB (V' (m + 1)) (cmS s (s.2.2.1 t).2.2 (s.1.1 + 1) 48))) := by
  have hm0 := hm
  obtain ⟨a0, a1, a2, a3, a4, a5, a6, a7, a8, a9, a10, a11, a12, a13, a14, a15⟩ := hm
  have g5 := hB.1.1
  refine Sp.of 5 (by decide) rfl rfl (Nat.le_of_ble_eq_true rfl) ?_
  refine z_aload_n dX12_commits_0 rfl ?_
  refine z_getR dX12_commits_1 fX12_13 (by first | assumption | exact And.left (by assumption)) rfl ?_
  refine z_sipush (v := nI 5340) dX12_commits_4 rfl ?_
  refine z_dup2 dX12_commits_7 rfl rfl ?_
  refine z_ialdN dX12_commits_8 (by first | assumption | exact And.left (by assumption)) (by omega) (by decide) g5 ?_
  refine z_iconst (v := nI 1) dX12_commits_9 rfl ?_
  refine z_addN dX12_commits_10 ?_
  refine z_iastN dX12_commits_11 (by first | assumption | exact And.left (by assumption)) (by omega) (by decide) ?_
  refine z_iconst (v := nI 0) dX12_commits_12 rfl ?_
  refine z_istore_n dX12_commits_13 (Nat.le_of_ble_eq_true rfl) rfl ?_
  refine lp_cms hm0 hB ht hf hcap _ 0 _ rfl (by omega) (oA.rf.up (by omega)) ?_
  have z := MB_seq (g := zup V (m + 1) 5340 (nI (s.1.1 + 1)) (m + 1)) hB hq (zup_s _ _ _ _) (fun j j1 j2 => zup_k (by omega))
  exact z.st rfl (fun r hr => congrFun (vset_0 s.2.1 (s.2.2.1 t).2.2 (s.1.1 + 1)) r) (fun _ _ => rfl) (fun _ _ => rfl)

