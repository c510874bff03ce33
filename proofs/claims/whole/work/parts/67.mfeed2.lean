/-! the reference: feed -/
def fx (x1 x2 x3 x4 x5 : Int32) (j : Nat) : Int32 := if j < 4 then x1 else if j < 8 then x2 else if j < 12 then x3 else if j < 16 then x4 else x5
noncomputable def fb (x1 x2 x3 x4 x5 : Int32) (j : Nat) : Nat := byn (fx x1 x2 x3 x4 x5 j) (nI (24 - 8 * (j % 4)))
theorem fb_ok {x1 x2 x3 x4 x5 : Int32} {b : List Nat} {j : Nat} (hj : j < 20) : bt (((((b ++ bts x1 4) ++ bts x2 4) ++ bts x3 4) ++ bts x4 4) ++ bts x5 4) (b.length + j) = fb x1 x2 x3 x4 x5 j := by
  have e : ((((b ++ bts x1 4) ++ bts x2 4) ++ bts x3 4) ++ bts x4 4) ++ bts x5 4 = b ++ (bts x1 4 ++ bts x2 4 ++ bts x3 4 ++ bts x4 4 ++ bts x5 4) := by simp
  unfold bt
  rw [e, List.getD_eq_getElem?_getD, List.getElem?_append_right (by omega), show b.length + j - b.length = j by omega]
  rcases (show j = 0 ∨ j = 1 ∨ j = 2 ∨ j = 3 ∨ j = 4 ∨ j = 5 ∨ j = 6 ∨ j = 7 ∨ j = 8 ∨ j = 9 ∨ j = 10 ∨ j = 11 ∨ j = 12 ∨ j = 13 ∨ j = 14 ∨ j = 15 ∨ j = 16 ∨ j = 17 ∨ j = 18 ∨ j = 19 by omega) with rfl | rfl | rfl | rfl | rfl | rfl | rfl | rfl | rfl | rfl | rfl | rfl | rfl | rfl | rfl | rfl | rfl | rfl | rfl | rfl <;> rfl
theorem bt_old {b c : List Nat} {k : Nat} (h : k < b.length) : bt (b ++ c) k = bt b k := by
  unfold bt
  rw [List.getD_eq_getElem?_getD, List.getD_eq_getElem?_getD, List.getElem?_append_left h]

set_option maxHeartbeats 4000000 in
set_option maxRecDepth 100000 in
theorem lp_feed {D : zD} {z0 nx : Nat} {L : zL} {V : zV} {m : Nat} {b : List Nat} {x1 x2 x3 x4 x5 : Int32} (hm : sM L m) (hb : b.length + 20 ≤ 100) : ∀ (fu : Nat) (j : Nat) (V1 : zV), 20 - j = fu → j ≤ 20 → (∀ q, q ≠ m → q ≠ m + 6 → V1 q = V q) → (∀ k, k ≠ 9 → V1 m k = V m k) → V1 m 9 = nI (b.length + j) → (∀ k, k < b.length → V1 (m + 6) k = V (m + 6) k) → (∀ i, i < j → V1 (m + 6) (b.length + i) = sgn (fb x1 x2 x3 x4 x5 i)) → Z D z0 2 0 0 mX12_feed 0 0 23 [some (.ref m), some (.int x1), some (.int x2), some (.int x3), some (.int x4), some (.int x5), some (.int (nI j)), none] [] L V1 nx (zq (some (.int (nI (b.length + 20)))) L nx (fun V' => (∀ q, q ≠ m → q ≠ m + 6 → V' q = V q) ∧ (∀ k, k ≠ 9 → V' m k = V m k) ∧ V' m 9 = nI (b.length + 20) ∧ (∀ k, k < b.length → V' (m + 6) k = V (m + 6) k) ∧ ∀ i, i < 20 → V' (m + 6) (b.length + i) = sgn (fb x1 x2 x3 x4 x5 i))) := by
  intro fu
  induction fu using Nat.strongRecOn with
  | ind fu ih =>
    intro j V1 h_fu h_0 h_1 h_2 h_3 h_4 h_5
    have hm0 := hm
    obtain ⟨a0, a1, a2, a3, a4, a5, a6, a7, a8, a9, a10, a11, a12, a13, a14, a15⟩ := hm
    refine z_iload dX12_feed_23 rfl ?_
    refine z_bipush (v := nI 20) dX12_feed_25 rfl ?_
    refine z_icmp_geN (tgt := 117) dX12_feed_27 (by decide) (by omega) (by omega) (fun c_27 => ?_) (fun c_27 => ?_)
    · refine z_aload_n dX12_feed_117 rfl ?_
      refine z_getIe dX12_feed_118 fX12_210 (by first | assumption | exact And.left (by assumption)) rfl h_3 ?_
      refine z_ireturn dX12_feed_121 (Nat.le_of_ble_eq_true rfl) (Nat.le_of_ble_eq_true rfl) rfl ?_
      have e20 : j = 20 := by omega
      subst e20
      exact ⟨rfl, rfl, rfl, h_1, h_2, h_3, h_4, h_5⟩
    · refine z_iload dX12_feed_30 rfl ?_
      refine z_iconst (v := nI 4) dX12_feed_32 rfl ?_
      refine z_icmp_geN (tgt := 40) dX12_feed_33 (by decide) (by omega) (by omega) (fun c_33 => ?_) (fun c_33 => ?_)
      · refine z_iload dX12_feed_40 rfl ?_
        refine z_bipush (v := nI 8) dX12_feed_42 rfl ?_
        refine z_icmp_geN (tgt := 51) dX12_feed_44 (by decide) (by omega) (by omega) (fun c_44 => ?_) (fun c_44 => ?_)
        · refine z_iload dX12_feed_51 rfl ?_
          refine z_bipush (v := nI 12) dX12_feed_53 rfl ?_
          refine z_icmp_geN (tgt := 62) dX12_feed_55 (by decide) (by omega) (by omega) (fun c_55 => ?_) (fun c_55 => ?_)
          · refine z_iload dX12_feed_62 rfl ?_
            refine z_bipush (v := nI 16) dX12_feed_64 rfl ?_
            refine z_icmp_geN (tgt := 74) dX12_feed_66 (by decide) (by omega) (by omega) (fun c_66 => ?_) (fun c_66 => ?_)
            · have eF : fx x1 x2 x3 x4 x5 j = x5 := by unfold fx; rw [if_neg (by omega), if_neg (by omega), if_neg (by omega), if_neg (by omega)]
              refine z_iload dX12_feed_74 rfl ?_
              refine z_istore dX12_feed_76 (Nat.le_of_ble_eq_true rfl) rfl ?_
              refine z_aload_n dX12_feed_78 rfl ?_
              refine z_getR dX12_feed_79 fX12_31 (by first | assumption | exact And.left (by assumption)) rfl ?_
              refine z_aload_n dX12_feed_82 rfl ?_
              refine z_getIe dX12_feed_83 fX12_210 (by first | assumption | exact And.left (by assumption)) rfl h_3 ?_
              refine z_iload dX12_feed_86 rfl ?_
              refine z_bipush (v := nI 24) dX12_feed_88 rfl ?_
              refine z_bipush (v := nI 8) dX12_feed_90 rfl ?_
              refine z_iload dX12_feed_92 rfl ?_
              refine z_iconst (v := nI 4) dX12_feed_94 rfl ?_
              refine z_remN dX12_feed_95 (by omega) (by omega) (by omega) ?_
              refine z_mulN dX12_feed_96 ?_
              refine z_subN dX12_feed_97 (by omega) ?_
              refine z_ishr dX12_feed_98 ?_
              refine z_i2b dX12_feed_99 ?_
              
              refine z_bastN dX12_feed_100 (by first | assumption | exact And.left (by assumption)) (by omega) (by decide) ?_
              refine z_aload_n dX12_feed_101 rfl ?_
              refine z_dup dX12_feed_102 rfl ?_
              refine z_getIe dX12_feed_103 fX12_210 (by first | assumption | exact And.left (by assumption)) rfl ((congrFun (zup_a (by omega)) 9).trans h_3) ?_
              refine z_iconst (v := nI 1) dX12_feed_106 rfl ?_
              refine z_addN dX12_feed_107 ?_
              refine z_putI dX12_feed_108 fX12_210 (by first | assumption | exact And.left (by assumption)) rfl ?_
              refine z_incN dX12_feed_111 rfl rfl ?_
              refine z_goto (tgt := 23) dX12_feed_114 (by decide) ?_
              refine z_fg 7 ?_
              refine ih _ (by omega) (j + 1) _ rfl (by omega) (fun q q1 q2 => by rw [zup_a q1, zup_a q2]; exact h_1 q q1 q2) (fun k hk => by rw [zup_k hk, zup_a (by omega)]; exact h_2 k hk) (by rw [zup_s] <;> rfl) (fun k hk => by rw [zup_a (by omega), zup_k (by omega)]; exact h_4 k hk) (fun i hi => ?_)
              by_cases e : i = j
              · rw [e, zup_a (by omega), zup_s, byte_ok (k := 24 - 8 * (j % 4)) (by omega), fb, eF]
              · rw [zup_a (by omega), zup_k (by omega)]
                exact h_5 i (by omega)
            · have eF : fx x1 x2 x3 x4 x5 j = x4 := by unfold fx; rw [if_neg (by omega), if_neg (by omega), if_neg (by omega), if_pos (by omega)]
              refine z_iload dX12_feed_69 rfl ?_
              refine z_goto (tgt := 76) dX12_feed_71 (by decide) ?_
              refine z_istore dX12_feed_76 (Nat.le_of_ble_eq_true rfl) rfl ?_
              refine z_aload_n dX12_feed_78 rfl ?_
              refine z_getR dX12_feed_79 fX12_31 (by first | assumption | exact And.left (by assumption)) rfl ?_
              refine z_aload_n dX12_feed_82 rfl ?_
              refine z_getIe dX12_feed_83 fX12_210 (by first | assumption | exact And.left (by assumption)) rfl h_3 ?_
              refine z_iload dX12_feed_86 rfl ?_
              refine z_bipush (v := nI 24) dX12_feed_88 rfl ?_
              refine z_bipush (v := nI 8) dX12_feed_90 rfl ?_
              refine z_iload dX12_feed_92 rfl ?_
              refine z_iconst (v := nI 4) dX12_feed_94 rfl ?_
              refine z_remN dX12_feed_95 (by omega) (by omega) (by omega) ?_
              refine z_mulN dX12_feed_96 ?_
              refine z_subN dX12_feed_97 (by omega) ?_
              refine z_ishr dX12_feed_98 ?_
              refine z_i2b dX12_feed_99 ?_
              
              refine z_bastN dX12_feed_100 (by first | assumption | exact And.left (by assumption)) (by omega) (by decide) ?_
              refine z_aload_n dX12_feed_101 rfl ?_
              refine z_dup dX12_feed_102 rfl ?_
              refine z_getIe dX12_feed_103 fX12_210 (by first | assumption | exact And.left (by assumption)) rfl ((congrFun (zup_a (by omega)) 9).trans h_3) ?_
              refine z_iconst (v := nI 1) dX12_feed_106 rfl ?_
              refine z_addN dX12_feed_107 ?_
              refine z_putI dX12_feed_108 fX12_210 (by first | assumption | exact And.left (by assumption)) rfl ?_
              refine z_incN dX12_feed_111 rfl rfl ?_
              refine z_goto (tgt := 23) dX12_feed_114 (by decide) ?_
              refine z_fg 7 ?_
              refine ih _ (by omega) (j + 1) _ rfl (by omega) (fun q q1 q2 => by rw [zup_a q1, zup_a q2]; exact h_1 q q1 q2) (fun k hk => by rw [zup_k hk, zup_a (by omega)]; exact h_2 k hk) (by rw [zup_s] <;> rfl) (fun k hk => by rw [zup_a (by omega), zup_k (by omega)]; exact h_4 k hk) (fun i hi => ?_)
              by_cases e : i = j
              · rw [e, zup_a (by omega), zup_s, byte_ok (k := 24 - 8 * (j % 4)) (by omega), fb, eF]
              · rw [zup_a (by omega), zup_k (by omega)]
                exact h_5 i (by omega)
          · have eF : fx x1 x2 x3 x4 x5 j = x3 := by unfold fx; rw [if_neg (by omega), if_neg (by omega), if_pos (by omega)]
            refine z_iload_n dX12_feed_58 rfl ?_
            refine z_goto (tgt := 76) dX12_feed_59 (by decide) ?_
            refine z_istore dX12_feed_76 (Nat.le_of_ble_eq_true rfl) rfl ?_
            refine z_aload_n dX12_feed_78 rfl ?_
            refine z_getR dX12_feed_79 fX12_31 (by first | assumption | exact And.left (by assumption)) rfl ?_
            refine z_aload_n dX12_feed_82 rfl ?_
            refine z_getIe dX12_feed_83 fX12_210 (by first | assumption | exact And.left (by assumption)) rfl h_3 ?_
            refine z_iload dX12_feed_86 rfl ?_
            refine z_bipush (v := nI 24) dX12_feed_88 rfl ?_
            refine z_bipush (v := nI 8) dX12_feed_90 rfl ?_
            refine z_iload dX12_feed_92 rfl ?_
            refine z_iconst (v := nI 4) dX12_feed_94 rfl ?_
            refine z_remN dX12_feed_95 (by omega) (by omega) (by omega) ?_
            refine z_mulN dX12_feed_96 ?_
            refine z_subN dX12_feed_97 (by omega) ?_
            refine z_ishr dX12_feed_98 ?_
            refine z_i2b dX12_feed_99 ?_
            
            refine z_bastN dX12_feed_100 (by first | assumption | exact And.left (by assumption)) (by omega) (by decide) ?_
            refine z_aload_n dX12_feed_101 rfl ?_
            refine z_dup dX12_feed_102 rfl ?_
            refine z_getIe dX12_feed_103 fX12_210 (by first | assumption | exact And.left (by assumption)) rfl ((congrFun (zup_a (by omega)) 9).trans h_3) ?_
            refine z_iconst (v := nI 1) dX12_feed_106 rfl ?_
            refine z_addN dX12_feed_107 ?_
            refine z_putI dX12_feed_108 fX12_210 (by first | assumption | exact And.left (by assumption)) rfl ?_
            refine z_incN dX12_feed_111 rfl rfl ?_
            refine z_goto (tgt := 23) dX12_feed_114 (by decide) ?_
            refine z_fg 7 ?_
            refine ih _ (by omega) (j + 1) _ rfl (by omega) (fun q q1 q2 => by rw [zup_a q1, zup_a q2]; exact h_1 q q1 q2) (fun k hk => by rw [zup_k hk, zup_a (by omega)]; exact h_2 k hk) (by rw [zup_s] <;> rfl) (fun k hk => by rw [zup_a (by omega), zup_k (by omega)]; exact h_4 k hk) (fun i hi => ?_)
            by_cases e : i = j
            · rw [e, zup_a (by omega), zup_s, byte_ok (k := 24 - 8 * (j % 4)) (by omega), fb, eF]
            · rw [zup_a (by omega), zup_k (by omega)]
              exact h_5 i (by omega)
        · have eF : fx x1 x2 x3 x4 x5 j = x2 := by unfold fx; rw [if_neg (by omega), if_pos (by omega)]
          refine z_iload_n dX12_feed_47 rfl ?_
          refine z_goto (tgt := 76) dX12_feed_48 (by decide) ?_
          refine z_istore dX12_feed_76 (Nat.le_of_ble_eq_true rfl) rfl ?_
          refine z_aload_n dX12_feed_78 rfl ?_
          refine z_getR dX12_feed_79 fX12_31 (by first | assumption | exact And.left (by assumption)) rfl ?_
          refine z_aload_n dX12_feed_82 rfl ?_
          refine z_getIe dX12_feed_83 fX12_210 (by first | assumption | exact And.left (by assumption)) rfl h_3 ?_
          refine z_iload dX12_feed_86 rfl ?_
          refine z_bipush (v := nI 24) dX12_feed_88 rfl ?_
          refine z_bipush (v := nI 8) dX12_feed_90 rfl ?_
          refine z_iload dX12_feed_92 rfl ?_
          refine z_iconst (v := nI 4) dX12_feed_94 rfl ?_
          refine z_remN dX12_feed_95 (by omega) (by omega) (by omega) ?_
          refine z_mulN dX12_feed_96 ?_
          refine z_subN dX12_feed_97 (by omega) ?_
          refine z_ishr dX12_feed_98 ?_
          refine z_i2b dX12_feed_99 ?_
          
          refine z_bastN dX12_feed_100 (by first | assumption | exact And.left (by assumption)) (by omega) (by decide) ?_
          refine z_aload_n dX12_feed_101 rfl ?_
          refine z_dup dX12_feed_102 rfl ?_
          refine z_getIe dX12_feed_103 fX12_210 (by first | assumption | exact And.left (by assumption)) rfl ((congrFun (zup_a (by omega)) 9).trans h_3) ?_
          refine z_iconst (v := nI 1) dX12_feed_106 rfl ?_
          refine z_addN dX12_feed_107 ?_
          refine z_putI dX12_feed_108 fX12_210 (by first | assumption | exact And.left (by assumption)) rfl ?_
          refine z_incN dX12_feed_111 rfl rfl ?_
          refine z_goto (tgt := 23) dX12_feed_114 (by decide) ?_
          refine z_fg 7 ?_
          refine ih _ (by omega) (j + 1) _ rfl (by omega) (fun q q1 q2 => by rw [zup_a q1, zup_a q2]; exact h_1 q q1 q2) (fun k hk => by rw [zup_k hk, zup_a (by omega)]; exact h_2 k hk) (by rw [zup_s] <;> rfl) (fun k hk => by rw [zup_a (by omega), zup_k (by omega)]; exact h_4 k hk) (fun i hi => ?_)
          by_cases e : i = j
          · rw [e, zup_a (by omega), zup_s, byte_ok (k := 24 - 8 * (j % 4)) (by omega), fb, eF]
          · rw [zup_a (by omega), zup_k (by omega)]
            exact h_5 i (by omega)
      · have eF : fx x1 x2 x3 x4 x5 j = x1 := by unfold fx; rw [if_pos (by omega)]
        refine z_iload_n dX12_feed_36 rfl ?_
        refine z_goto (tgt := 76) dX12_feed_37 (by decide) ?_
        refine z_istore dX12_feed_76 (Nat.le_of_ble_eq_true rfl) rfl ?_
        refine z_aload_n dX12_feed_78 rfl ?_
        refine z_getR dX12_feed_79 fX12_31 (by first | assumption | exact And.left (by assumption)) rfl ?_
        refine z_aload_n dX12_feed_82 rfl ?_
        refine z_getIe dX12_feed_83 fX12_210 (by first | assumption | exact And.left (by assumption)) rfl h_3 ?_
        refine z_iload dX12_feed_86 rfl ?_
        refine z_bipush (v := nI 24) dX12_feed_88 rfl ?_
        refine z_bipush (v := nI 8) dX12_feed_90 rfl ?_
        refine z_iload dX12_feed_92 rfl ?_
        refine z_iconst (v := nI 4) dX12_feed_94 rfl ?_
        refine z_remN dX12_feed_95 (by omega) (by omega) (by omega) ?_
        refine z_mulN dX12_feed_96 ?_
        refine z_subN dX12_feed_97 (by omega) ?_
        refine z_ishr dX12_feed_98 ?_
        refine z_i2b dX12_feed_99 ?_
        
        refine z_bastN dX12_feed_100 (by first | assumption | exact And.left (by assumption)) (by omega) (by decide) ?_
        refine z_aload_n dX12_feed_101 rfl ?_
        refine z_dup dX12_feed_102 rfl ?_
        refine z_getIe dX12_feed_103 fX12_210 (by first | assumption | exact And.left (by assumption)) rfl ((congrFun (zup_a (by omega)) 9).trans h_3) ?_
        refine z_iconst (v := nI 1) dX12_feed_106 rfl ?_
        refine z_addN dX12_feed_107 ?_
        refine z_putI dX12_feed_108 fX12_210 (by first | assumption | exact And.left (by assumption)) rfl ?_
        refine z_incN dX12_feed_111 rfl rfl ?_
        refine z_goto (tgt := 23) dX12_feed_114 (by decide) ?_
        refine z_fg 7 ?_
        refine ih _ (by omega) (j + 1) _ rfl (by omega) (fun q q1 q2 => by rw [zup_a q1, zup_a q2]; exact h_1 q q1 q2) (fun k hk => by rw [zup_k hk, zup_a (by omega)]; exact h_2 k hk) (by rw [zup_s] <;> rfl) (fun k hk => by rw [zup_a (by omega), zup_k (by omega)]; exact h_4 k hk) (fun i hi => ?_)
        by_cases e : i = j
        · rw [e, zup_a (by omega), zup_s, byte_ok (k := 24 - 8 * (j % 4)) (by omega), fb, eF]
        · rw [zup_a (by omega), zup_k (by omega)]
          exact h_5 i (by omega)

theorem MW_tp {V V' : zV} {m k : Nat} {w : Wo} {b : List Nat} {p : Int32} (h : MW V m w) (e1 : ∀ q, q ≠ m → q ≠ m + 6 → V' q = V q) (e2 : ∀ j, j ≠ 9 → j ≠ 12 → j ≠ 13 → V' m j = V m j) (hp : MP V' m b k p) : MW V' m (setTp w b k p) := by
  obtain ⟨h1, h2, h3, h4, h5, h6, h7⟩ := h
  refine ⟨by rw [e1 (m + 1) (by omega) (by omega)]; exact h1, ⟨h2.1, by rw [e2 3 (by decide) (by decide) (by decide)]; exact h2.2.1, fun q hq => by rw [e1 (m + 2) (by omega) (by omega)]; exact h2.2.2 q hq⟩, fun i hi => ⟨by rw [e1 (m + 3) (by omega) (by omega)]; exact (h3 i hi).1, fun s hs => by rw [e1 (m + 1) (by omega) (by omega)]; exact (h3 i hi).2 s hs⟩, hp, ⟨by rw [e2 6 (by decide) (by decide) (by decide)]; exact h5.1, h5.2⟩, ?_, fun q hq => by rw [e1 (m + 8) (by omega) (by omega)]; exact h7 q hq⟩
  show MqO _ m w.2.2.2.2.2
  cases hq : w.2.2.2.2.2 with
  | none =>
    rw [hq] at h6
    show V' m 24 = -1
    rw [e2 24 (by decide) (by decide) (by decide)]
    exact h6
  | some q =>
    rw [hq] at h6
    obtain ⟨q1, q2, q3, q4, q5, q6⟩ := h6
    exact ⟨by rw [e2 24 (by decide) (by decide) (by decide)]; exact q1, q2, fun k hk => by rw [e1 (m + 9) (by omega) (by omega)]; exact q3 k hk, by rw [e2 25 (by decide) (by decide) (by decide)]; exact q4, q5, fun k hk => by rw [e1 (m + 10) (by omega) (by omega)]; exact q6 k hk⟩

set_option maxHeartbeats 4000000 in
set_option maxRecDepth 100000 in
theorem m_feed {D : zD} {z0 nx : Nat} {L : zL} {V : zV} {m : Nat} {w : Wo} (hm : sM L m) (h : MW V m w) {x1 x2 x3 x4 x5 : Int32} : Sp D z0 2 0 0 mX12_feed [.ref m, .int x1, .int x2, .int x3, .int x4, .int x5] L V nx (zq (some (.int (o_feed x1 x2 x3 x4 x5 w).1)) L nx (fun V' => zEq V V' m (m + 16) ∧ MW V' m (o_feed x1 x2 x3 x4 x5 w).2)) := by
  have hm0 := hm
  have h0 := h
  obtain ⟨a0, a1, a2, a3, a4, a5, a6, a7, a8, a9, a10, a11, a12, a13, a14, a15⟩ := hm
  refine Sp.of 2 (by decide) rfl rfl (Nat.le_of_ble_eq_true rfl) ?_
  refine z_aload_n dX12_feed_0 rfl ?_
  refine z_iconst (v := nI 0) dX12_feed_1 rfl ?_
  refine z_putI dX12_feed_2 fX12_1 (by first | assumption | exact And.left (by assumption)) rfl ?_
  have h9 := MW_thr (x := nI 0) h0
  have e0 : zEq V (zup V m 0 (nI 0)) m (m + 16) := zEq.rf.up (by omega) (by omega)
  generalize zup V m 0 (nI 0) = V1 at h9 e0 ⊢
  clear h0 h
  have h0 := h9
  obtain ⟨k1, k2, k3, k4, k5, k6, k7⟩ := h9
  obtain ⟨t1, t2, t3, t4, t5, t6⟩ := k4
  refine z_aload_n dX12_feed_5 rfl ?_
  refine z_getIe dX12_feed_6 fX12_210 (by first | assumption | exact And.left (by assumption)) rfl t1 ?_
  refine z_bipush (v := nI 20) dX12_feed_9 rfl ?_
  refine z_addN dX12_feed_11 ?_
  refine z_bipush (v := nI 100) dX12_feed_12 rfl ?_
  refine z_icmp_leN (tgt := 20) dX12_feed_14 (by decide) (by omega) (by omega) (fun c_14 => ?_) (fun c_14 => ?_)
  · refine z_iconst (v := nI 0) dX12_feed_20 rfl ?_
    refine z_istore dX12_feed_21 (Nat.le_of_ble_eq_true rfl) rfl ?_
    have h80 : ¬ 80 < (tpb w).length := by unfold tpb; omega
    have hR : o_feed x1 x2 x3 x4 x5 w = (nI ((tpb w).length + 20), setTp w (((((tpb w) ++ bts x1 4) ++ bts x2 4) ++ bts x3 4) ++ bts x4 4 ++ bts x5 4) w.2.2.2.1.2.1 w.2.2.2.1.2.2) := if_neg h80
    rw [hR]
    refine Z.mono (lp_feed (D := D) (z0 := z0) (nx := nx) (V := V1) (b := w.2.2.2.1.1) hm0 (by omega) _ 0 V1 rfl (by omega) (fun _ _ _ => rfl) (fun _ _ => rfl) t1 (fun _ _ => rfl) (fun i hi => absurd hi (by omega))) ?_
    intro r2 L2 V9 n9 h9
    obtain ⟨g1, g2, g3, g4, g5, g6, g7, g8⟩ := h9
    have hln : (((((tpb w) ++ bts x1 4) ++ bts x2 4) ++ bts x3 4) ++ bts x4 4 ++ bts x5 4).length = w.2.2.2.1.1.length + 20 := by unfold tpb; simp [bts_len]
    refine ⟨g1, g2, g3, e0.trans (fun q hq => g4 q (by omega) (by omega)), MW_tp h0 g4 (fun j j1 _ _ => g5 j j1) ⟨by rw [hln]; exact g6, by rw [g5 12 (by decide)]; exact t2, by rw [g5 13 (by decide)]; exact t3, by omega, t5, fun j hj => ?_⟩⟩
    rw [hln] at hj
    by_cases c : j < w.2.2.2.1.1.length
    · rw [g7 j c]
      have e := bt_old (c := bts x1 4 ++ bts x2 4 ++ bts x3 4 ++ bts x4 4 ++ bts x5 4) c
      have e2 : ((((tpb w) ++ bts x1 4) ++ bts x2 4) ++ bts x3 4) ++ bts x4 4 ++ bts x5 4 = w.2.2.2.1.1 ++ (bts x1 4 ++ bts x2 4 ++ bts x3 4 ++ bts x4 4 ++ bts x5 4) := by unfold tpb; simp
      rw [e2, e]
      exact t6 j c
    · have e := fb_ok (x1 := x1) (x2 := x2) (x3 := x3) (x4 := x4) (x5 := x5) (b := w.2.2.2.1.1) (j := j - w.2.2.2.1.1.length) (by omega)
      rw [show w.2.2.2.1.1.length + (j - w.2.2.2.1.1.length) = j by omega] at e
      have g9 := g8 (j - w.2.2.2.1.1.length) (by omega)
      rw [show w.2.2.2.1.1.length + (j - w.2.2.2.1.1.length) = j by omega] at g9
      unfold tpb
      rw [e]
      exact ⟨g9, (byn_ok _ _).1⟩
  · refine z_bipush (v := (-4)) dX12_feed_17 rfl ?_
    refine z_ireturn dX12_feed_19 (Nat.le_of_ble_eq_true rfl) (Nat.le_of_ble_eq_true rfl) rfl ?_
    rw [show o_feed x1 x2 x3 x4 x5 w = (-4, w) from if_pos (show 80 < (tpb w).length by unfold tpb; omega)]
    exact ⟨rfl, rfl, rfl, e0, h0⟩

