/-! the reference: entries by a key -/
def pby (op r c : Nat) : Prop := if op = 0 then c / 64 < r else c / 64 = r
noncomputable def nby (op : Nat) (w : Wo) (i x y z : Int32) : Nat := cn (fun k => pby op (kyr w i x y z) ((xof w (tn i)).2.2.1.getD k 0)) (xof w (tn i)).2.2.1.length
/-- asked parts: the three of a row -/
def ASK (V : zV) (m p : Nat) : Prop := ∀ j, j < 3 → V (m + 14) j = nI (pt p j)
def oK (V V' : zV) (m : Nat) : Prop := ∀ q, q ≠ m + 4 → q ≠ m + 14 → V' q = V q
theorem oK.a {V V' : zV} {m : Nat} (h : oK V V' m) : oA V V' m := ⟨fun q _ h2 _ _ _ h6 _ => h q h2 h6, fun j _ => by rw [h (m + 1) (by omega) (by omega)]⟩

set_option maxHeartbeats 4000000 in
set_option maxRecDepth 100000 in
theorem lp_byC {D : zD} {z0 nx : Nat} {L : zL} {V : zV} {m i op p : Nat} {d : Df} (hm : sM L m) (hi : i < 2) (hd : MXd (V (m + 1)) (2140 + 1600 * i) d) (hb : Dfb d) (hp : p < 1000000) {l : List Nat} {y1 y2 y3 : Int32} (hop : op < 2) (he : MXe (V (m + 1)) (2140 + 1600 * i) d l) (hl : l.length ≤ 48) (hv : ∀ c ∈ l, RV d (c / 64)) (hk : KR V m d p) (hrp : RV d p) : ∀ (fu : Nat) (j : Nat) (c : Nat), l.length - j = fu → j ≤ l.length → c = cn (fun k => pby op p (l.getD k 0)) j → Z D z0 4 0 0 mX12_entriesBy 0 0 115 [some (.ref m), some (.int (nI i)), some (.int y1), some (.int y2), some (.int y3), some (.int (nI op)), some (.int (nI c)), some (.int (nI j)), none] [] L V nx (zi (nI (cn (fun k => pby op p (l.getD k 0)) l.length)) L V nx) := by
  intro fu
  induction fu using Nat.strongRecOn with
  | ind fu ih =>
    intro j c h_fu h_0 h_1
    have hm0 := hm
    obtain ⟨a0, a1, a2, a3, a4, a5, a6, a7, a8, a9, a10, a11, a12, a13, a14, a15⟩ := hm
    have he0 := he
    obtain ⟨e1, e2⟩ := he
    have hle := cn_le (fun k => pby op p (l.getD k 0)) j
    refine z_iload dX12_entriesBy_115 rfl ?_
    refine z_aload_n dX12_entriesBy_117 rfl ?_
    refine z_iload_n dX12_entriesBy_118 rfl ?_
    refine z_bipush (v := nI 13) dX12_entriesBy_119 rfl ?_
    refine z_callV2i dX12_entriesBy_121 kX12_ofIndex lX12_104 (by first | assumption | exact And.left (by assumption)) rfl (s_ofIx hm0 hi (by omega) e1) (Nat.le_of_ble_eq_true rfl) (Nat.le_of_ble_eq_true rfl) ⟨Nat.le_of_ble_eq_true rfl, Nat.le_of_ble_eq_true rfl⟩ ?_
    refine z_icmp_geN (tgt := 180) dX12_entriesBy_124 (by decide) (by omega) (by omega) (fun c_124 => ?_) (fun c_124 => ?_)
    · refine z_iload dX12_entriesBy_180 rfl ?_
      refine z_ireturn dX12_entriesBy_182 (Nat.le_of_ble_eq_true rfl) (Nat.le_of_ble_eq_true rfl) rfl ?_
      have ej : j = l.length := by omega
      subst ej
      exact zi_r (by rw [h_1])
    · obtain ⟨k1, k2⟩ := e2 j (by omega)
      have hvj := hv _ (mem_getD (l := l) (k := j) (by omega))
      have hcv := cK_rv hb hvj hrp
      obtain ⟨c1, c2, c3⟩ := cK_3 hvj.1 hrp.1
      refine z_aload_n dX12_entriesBy_127 rfl ?_
      refine z_iload_n dX12_entriesBy_128 rfl ?_
      refine z_aload_n dX12_entriesBy_129 rfl ?_
      refine z_iload_n dX12_entriesBy_130 rfl ?_
      refine z_iload dX12_entriesBy_131 rfl ?_
      refine z_callV2i dX12_entriesBy_133 kX12_entryAt lX12_118 (by first | assumption | exact And.left (by assumption)) rfl (s_entAt hi (by omega)) (Nat.le_of_ble_eq_true rfl) (Nat.le_of_ble_eq_true rfl) ⟨Nat.le_of_ble_eq_true rfl, Nat.le_of_ble_eq_true rfl⟩ ?_
      refine z_iconst (v := nI 1) dX12_entriesBy_136 rfl ?_
      refine z_addN dX12_entriesBy_137 ?_
      refine z_callV2i dX12_entriesBy_138 kX12_comparesKey lX12_121 (by first | assumption | exact And.left (by assumption)) rfl (s_ck hm0 hi hd hb (by omega) hk k2 hrp.1 hvj.1) (Nat.le_of_ble_eq_true rfl) (Nat.le_of_ble_eq_true rfl) ⟨Nat.le_of_ble_eq_true rfl, Nat.le_of_ble_eq_true rfl⟩ ?_
      rw [hcv]
      refine z_istore dX12_entriesBy_141 (Nat.le_of_ble_eq_true rfl) rfl ?_
      refine z_iload dX12_entriesBy_143 rfl ?_
      refine z_iload dX12_entriesBy_145 rfl ?_
      refine z_if_neN (tgt := 155) dX12_entriesBy_147 (by decide) (by omega) (fun c_147 => ?_) (fun c_147 => ?_)
      · have ho1 : op = 1 := by omega
        refine z_iload dX12_entriesBy_155 rfl ?_
        refine z_iconst (v := nI 1) dX12_entriesBy_157 rfl ?_
        refine z_icmp_neN (tgt := 170) dX12_entriesBy_158 (by decide) (by omega) (by omega) (fun c_158 => ?_) (fun c_158 => ?_)
        · have hN : ¬ pby op p (l.getD j 0) := by first | exact hN | (exfalso; omega)
          refine z_iconst (v := nI 0) dX12_entriesBy_170 rfl ?_
          refine z_addN dX12_entriesBy_171 ?_
          refine z_istore dX12_entriesBy_172 (Nat.le_of_ble_eq_true rfl) rfl ?_
          refine z_incN dX12_entriesBy_174 rfl rfl ?_
          refine z_goto (tgt := 115) dX12_entriesBy_177 (by decide) ?_
          refine z_fg 8 ?_
          first
            | exact ih _ (by omega) (j + 1) _ rfl (by omega) (by rw [cn_y (p := fun k => pby op p (l.getD k 0)) hY]; omega)
            | exact ih _ (by omega) (j + 1) _ rfl (by omega) (by rw [cn_n (p := fun k => pby op p (l.getD k 0)) hN]; omega)
        · refine z_iload dX12_entriesBy_161 rfl ?_
          refine z_if_ne (tgt := 170) dX12_entriesBy_163 (by decide) (fun c_163 => ?_) (fun c_163 => ?_)
          · have hN : ¬ pby op p (l.getD j 0) := by unfold pby; rw [if_neg (by omega)]; exact fun q => c_163 (c2.mpr q)
            refine z_iconst (v := nI 0) dX12_entriesBy_170 rfl ?_
            refine z_addN dX12_entriesBy_171 ?_
            refine z_istore dX12_entriesBy_172 (Nat.le_of_ble_eq_true rfl) rfl ?_
            refine z_incN dX12_entriesBy_174 rfl rfl ?_
            refine z_goto (tgt := 115) dX12_entriesBy_177 (by decide) ?_
            refine z_fg 8 ?_
            first
              | exact ih _ (by omega) (j + 1) _ rfl (by omega) (by rw [cn_y (p := fun k => pby op p (l.getD k 0)) hY]; omega)
              | exact ih _ (by omega) (j + 1) _ rfl (by omega) (by rw [cn_n (p := fun k => pby op p (l.getD k 0)) hN]; omega)
          · have hY : pby op p (l.getD j 0) := by unfold pby; rw [if_neg (by omega)]; exact c2.mp c_163
            refine z_iconst (v := nI 1) dX12_entriesBy_166 rfl ?_
            refine z_goto (tgt := 171) dX12_entriesBy_167 (by decide) ?_
            refine z_addN dX12_entriesBy_171 ?_
            refine z_istore dX12_entriesBy_172 (Nat.le_of_ble_eq_true rfl) rfl ?_
            refine z_incN dX12_entriesBy_174 rfl rfl ?_
            refine z_goto (tgt := 115) dX12_entriesBy_177 (by decide) ?_
            refine z_fg 8 ?_
            first
              | exact ih _ (by omega) (j + 1) _ rfl (by omega) (by rw [cn_y (p := fun k => pby op p (l.getD k 0)) hY]; omega)
              | exact ih _ (by omega) (j + 1) _ rfl (by omega) (by rw [cn_n (p := fun k => pby op p (l.getD k 0)) hN]; omega)
      · have ho0 : op = 0 := by omega
        refine z_iload dX12_entriesBy_150 rfl ?_
        refine z_if_lt (tgt := 166) dX12_entriesBy_152 (by decide) (fun c_152 => ?_) (fun c_152 => ?_)
        · have hY : pby op p (l.getD j 0) := by unfold pby; rw [if_pos ho0]; exact c1.mp c_152
          refine z_iconst (v := nI 1) dX12_entriesBy_166 rfl ?_
          refine z_goto (tgt := 171) dX12_entriesBy_167 (by decide) ?_
          refine z_addN dX12_entriesBy_171 ?_
          refine z_istore dX12_entriesBy_172 (Nat.le_of_ble_eq_true rfl) rfl ?_
          refine z_incN dX12_entriesBy_174 rfl rfl ?_
          refine z_goto (tgt := 115) dX12_entriesBy_177 (by decide) ?_
          refine z_fg 8 ?_
          first
            | exact ih _ (by omega) (j + 1) _ rfl (by omega) (by rw [cn_y (p := fun k => pby op p (l.getD k 0)) hY]; omega)
            | exact ih _ (by omega) (j + 1) _ rfl (by omega) (by rw [cn_n (p := fun k => pby op p (l.getD k 0)) hN]; omega)
        · have hN : ¬ pby op p (l.getD j 0) := by unfold pby; rw [if_pos ho0]; exact fun q => c_152 (c1.mpr q)
          refine z_iload dX12_entriesBy_155 rfl ?_
          refine z_iconst (v := nI 1) dX12_entriesBy_157 rfl ?_
          refine z_icmp_neN (tgt := 170) dX12_entriesBy_158 (by decide) (by omega) (by omega) (fun c_158 => ?_) (fun c_158 => ?_)
          · have hN : ¬ pby op p (l.getD j 0) := by first | exact hN | (exfalso; omega)
            refine z_iconst (v := nI 0) dX12_entriesBy_170 rfl ?_
            refine z_addN dX12_entriesBy_171 ?_
            refine z_istore dX12_entriesBy_172 (Nat.le_of_ble_eq_true rfl) rfl ?_
            refine z_incN dX12_entriesBy_174 rfl rfl ?_
            refine z_goto (tgt := 115) dX12_entriesBy_177 (by decide) ?_
            refine z_fg 8 ?_
            first
              | exact ih _ (by omega) (j + 1) _ rfl (by omega) (by rw [cn_y (p := fun k => pby op p (l.getD k 0)) hY]; omega)
              | exact ih _ (by omega) (j + 1) _ rfl (by omega) (by rw [cn_n (p := fun k => pby op p (l.getD k 0)) hN]; omega)
          · refine z_iload dX12_entriesBy_161 rfl ?_
            refine z_if_ne (tgt := 170) dX12_entriesBy_163 (by decide) (fun c_163 => ?_) (fun c_163 => ?_)
            · have hN : ¬ pby op p (l.getD j 0) := by unfold pby; rw [if_neg (by omega)]; exact fun q => c_163 (c2.mpr q)
              refine z_iconst (v := nI 0) dX12_entriesBy_170 rfl ?_
              refine z_addN dX12_entriesBy_171 ?_
              refine z_istore dX12_entriesBy_172 (Nat.le_of_ble_eq_true rfl) rfl ?_
              refine z_incN dX12_entriesBy_174 rfl rfl ?_
              refine z_goto (tgt := 115) dX12_entriesBy_177 (by decide) ?_
              refine z_fg 8 ?_
              first
                | exact ih _ (by omega) (j + 1) _ rfl (by omega) (by rw [cn_y (p := fun k => pby op p (l.getD k 0)) hY]; omega)
                | exact ih _ (by omega) (j + 1) _ rfl (by omega) (by rw [cn_n (p := fun k => pby op p (l.getD k 0)) hN]; omega)
            · have hY : pby op p (l.getD j 0) := by unfold pby; rw [if_neg (by omega)]; exact c2.mp c_163
              refine z_iconst (v := nI 1) dX12_entriesBy_166 rfl ?_
              refine z_goto (tgt := 171) dX12_entriesBy_167 (by decide) ?_
              refine z_addN dX12_entriesBy_171 ?_
              refine z_istore dX12_entriesBy_172 (Nat.le_of_ble_eq_true rfl) rfl ?_
              refine z_incN dX12_entriesBy_174 rfl rfl ?_
              refine z_goto (tgt := 115) dX12_entriesBy_177 (by decide) ?_
              refine z_fg 8 ?_
              first
                | exact ih _ (by omega) (j + 1) _ rfl (by omega) (by rw [cn_y (p := fun k => pby op p (l.getD k 0)) hY]; omega)
                | exact ih _ (by omega) (j + 1) _ rfl (by omega) (by rw [cn_n (p := fun k => pby op p (l.getD k 0)) hN]; omega)

set_option maxHeartbeats 4000000 in
set_option maxRecDepth 100000 in
theorem lp_byK {D : zD} {z0 nx : Nat} {L : zL} {V : zV} {m i op p : Nat} {d : Df} (hm : sM L m) (hi : i < 2) (hd : MXd (V (m + 1)) (2140 + 1600 * i) d) (hb : Dfb d) (hp : p < 1000000) {l : List Nat} {y1 y2 y3 : Int32} (hop : op < 2) (he : MXe (V (m + 1)) (2140 + 1600 * i) d l) (hl : l.length ≤ 48) (hv : ∀ c ∈ l, RV d (c / 64)) : ∀ (fu : Nat) (j : Nat) (V1 : zV), 3 - j = fu → j ≤ d.1.length → oK V V1 m → ASK V1 m p → (∀ k, k < j → V1 (m + 4) k = nI (kr d (rk d.1 p 3) k)) → Z D z0 4 0 0 mX12_entriesBy 0 0 73 [some (.ref m), some (.int (nI i)), some (.int y1), some (.int y2), some (.int y3), some (.int (nI op)), some (.int (nI j)), none, none] [] L V1 nx (zq (some (.int (nI (cn (fun k => pby op (rk d.1 p 3) (l.getD k 0)) l.length)))) L nx (fun V' => oK V V' m)) := by
  intro fu
  induction fu using Nat.strongRecOn with
  | ind fu ih =>
    intro j V1 h_fu h_0 h_1 h_2 h_3
    have hm0 := hm
    obtain ⟨a0, a1, a2, a3, a4, a5, a6, a7, a8, a9, a10, a11, a12, a13, a14, a15⟩ := hm
    have hA : V1 (m + 1) = V (m + 1) := h_1 (m + 1) (by omega) (by omega)
    have hd1 : MXd (V1 (m + 1)) (2140 + 1600 * i) d := by rw [hA]; exact hd
    have hb1 := hb.1
    have he1 : MXe (V1 (m + 1)) (2140 + 1600 * i) d l := by rw [hA]; exact he
    refine z_iload dX12_entriesBy_73 rfl ?_
    refine z_aload_n dX12_entriesBy_75 rfl ?_
    refine z_iload_n dX12_entriesBy_76 rfl ?_
    refine z_iconst (v := nI 5) dX12_entriesBy_77 rfl ?_
    refine z_callV2i dX12_entriesBy_78 kX12_ofIndex lX12_104 (by first | assumption | exact And.left (by assumption)) rfl (s_ofIx hm0 hi (by omega) hd1.2.1) (Nat.le_of_ble_eq_true rfl) (Nat.le_of_ble_eq_true rfl) ⟨Nat.le_of_ble_eq_true rfl, Nat.le_of_ble_eq_true rfl⟩ ?_
    refine z_icmp_geN (tgt := 109) dX12_entriesBy_81 (by decide) (by omega) (by omega) (fun c_81 => ?_) (fun c_81 => ?_)
    · refine z_iconst (v := nI 0) dX12_entriesBy_109 rfl ?_
      refine z_istore dX12_entriesBy_110 (Nat.le_of_ble_eq_true rfl) rfl ?_
      refine z_iconst (v := nI 0) dX12_entriesBy_112 rfl ?_
      refine z_istore dX12_entriesBy_113 (Nat.le_of_ble_eq_true rfl) rfl ?_
      refine Z.mono (lp_byC (D := D) (z0 := z0) (nx := nx) (p := rk d.1 p 3) hm0 hi hd1 hb (RV_rk (d := d) hp).1 hop he1 hl hv (fun k hk => h_3 k (by omega)) (RV_rk hp) _ 0 0 rfl (by omega) rfl) ?_
      intro r2 L2 V9 n9 h9
      obtain ⟨g1, g2, g3, g4⟩ := h9
      rw [g3]
      exact ⟨g1, g2, g4, h_1⟩
    · have hc3 := hb.2.1 j c_81
      have hav := h_2 (d.1.getD j (0, false)).1 hc3
      refine z_aload_n dX12_entriesBy_84 rfl ?_
      refine z_getR dX12_entriesBy_85 fX12_25 (by first | assumption | exact And.left (by assumption)) rfl ?_
      refine z_iload dX12_entriesBy_88 rfl ?_
      refine z_aload_n dX12_entriesBy_90 rfl ?_
      refine z_getR dX12_entriesBy_91 fX12_62 (by first | assumption | exact And.left (by assumption)) rfl ?_
      refine z_aload_n dX12_entriesBy_94 rfl ?_
      refine z_iload_n dX12_entriesBy_95 rfl ?_
      refine z_iload dX12_entriesBy_96 rfl ?_
      refine z_callV2i dX12_entriesBy_98 kX12_columnOf lX12_111 (by first | assumption | exact And.left (by assumption)) rfl (s_mCol hm0 hi hd1 hb c_81) (Nat.le_of_ble_eq_true rfl) (Nat.le_of_ble_eq_true rfl) ⟨Nat.le_of_ble_eq_true rfl, Nat.le_of_ble_eq_true rfl⟩ ?_
      refine z_ialdN dX12_entriesBy_101 (by first | assumption | exact And.left (by assumption)) (by omega) (by decide) hav ?_
      refine z_iastN dX12_entriesBy_102 (by first | assumption | exact And.left (by assumption)) (by omega) (by decide) ?_
      refine z_incN dX12_entriesBy_103 rfl rfl ?_
      refine z_goto (tgt := 73) dX12_entriesBy_106 (by decide) ?_
      refine ih _ (by omega) (j + 1) _ rfl (by omega) (fun q q1 q2 => by rw [zup_a q1]; exact h_1 q q1 q2) (fun q hq => by rw [zup_a (by omega)]; exact h_2 q hq) (fun k hk => ?_)
      by_cases e : k = j
      · rw [e, zup_s, kr_rk hb hp c_81]
      · rw [zup_k e]
        exact h_3 k (by omega)

set_option maxHeartbeats 4000000 in
set_option maxRecDepth 100000 in
theorem s_by {D : zD} {z0 nx : Nat} {L : zL} {V : zV} {m op : Nat} {w : Wo} {i x y z : Int32} (hm : sM L m) (hop : op < 2) (hB : MB (V (m + 1)) w.1) : Sp D z0 4 0 0 mX12_entriesBy [.ref m, .int i, .int x, .int y, .int z, .int (nI op)] L V nx (fun r2 L2 V2 n2 => r2 = some (.int (cif (rfk i x y z w = 0) (nI (nby op w i x y z)) (rfk i x y z w))) ∧ L2 = L ∧ n2 = nx ∧ oK V V2 m) := by
  have hm0 := hm
  obtain ⟨a0, a1, a2, a3, a4, a5, a6, a7, a8, a9, a10, a11, a12, a13, a14, a15⟩ := hm
  refine Sp.of 3 (by decide) rfl rfl (Nat.le_of_ble_eq_true rfl) ?_
  refine z_iload_n dX12_entriesBy_0 rfl ?_
  refine z_callS1i dX12_entriesBy_1 kX12_isIndex lX12_346 s_mIx (Nat.le_of_ble_eq_true rfl) (Nat.le_of_ble_eq_true rfl) ⟨Nat.le_of_ble_eq_true rfl, Nat.le_of_ble_eq_true rfl⟩ ?_
  refine z_if_neB (tgt := 10) dX12_entriesBy_4 (by decide) (fun c_4 => ?_) (fun c_4 => ?_)
  · refine z_iload_n dX12_entriesBy_10 rfl ?_
    refine z_callS1i dX12_entriesBy_11 kX12_isValue lX12_158 s_mVal (Nat.le_of_ble_eq_true rfl) (Nat.le_of_ble_eq_true rfl) ⟨Nat.le_of_ble_eq_true rfl, Nat.le_of_ble_eq_true rfl⟩ ?_
    refine z_if_eqB (tgt := 32) dX12_entriesBy_14 (by decide) (fun c_14 => ?_) (fun c_14 => ?_)
    · refine z_bipush (v := (-3)) dX12_entriesBy_32 rfl ?_
      refine z_ireturn dX12_entriesBy_34 (Nat.le_of_ble_eq_true rfl) (Nat.le_of_ble_eq_true rfl) rfl ?_
      exact ⟨by rw [show rfk i x y z w = -3 from (cif_y c_4).trans (cif_n (fun q => by first | exact c_14 q.1 | exact c_21 q.2.1 | exact c_29 q.2.2)), cif_n (by decide)], rfl, rfl, fun _ _ _ => rfl⟩
    · refine z_iload_n dX12_entriesBy_17 rfl ?_
      refine z_callS1i dX12_entriesBy_18 kX12_isValue lX12_158 s_mVal (Nat.le_of_ble_eq_true rfl) (Nat.le_of_ble_eq_true rfl) ⟨Nat.le_of_ble_eq_true rfl, Nat.le_of_ble_eq_true rfl⟩ ?_
      refine z_if_eqB (tgt := 32) dX12_entriesBy_21 (by decide) (fun c_21 => ?_) (fun c_21 => ?_)
      · refine z_bipush (v := (-3)) dX12_entriesBy_32 rfl ?_
        refine z_ireturn dX12_entriesBy_34 (Nat.le_of_ble_eq_true rfl) (Nat.le_of_ble_eq_true rfl) rfl ?_
        exact ⟨by rw [show rfk i x y z w = -3 from (cif_y c_4).trans (cif_n (fun q => by first | exact c_14 q.1 | exact c_21 q.2.1 | exact c_29 q.2.2)), cif_n (by decide)], rfl, rfl, fun _ _ _ => rfl⟩
      · refine z_iload dX12_entriesBy_24 rfl ?_
        refine z_callS1i dX12_entriesBy_26 kX12_isValue lX12_158 s_mVal (Nat.le_of_ble_eq_true rfl) (Nat.le_of_ble_eq_true rfl) ⟨Nat.le_of_ble_eq_true rfl, Nat.le_of_ble_eq_true rfl⟩ ?_
        refine z_if_neB (tgt := 35) dX12_entriesBy_29 (by decide) (fun c_29 => ?_) (fun c_29 => ?_)
        · obtain ⟨k, hk, rfl⟩ := c_4
          obtain ⟨x0, hx0, rfl⟩ := c_14
          obtain ⟨y0, hy0, rfl⟩ := c_21
          obtain ⟨z1, hz1, rfl⟩ := c_29
          have hT := tn_k (k := k) (by omega)
          obtain ⟨X1, X2, X3, X4, X5, x6⟩ := hB.2.2.2 k hk
          have n1 := X1.1
          have hs6 := x6.1
          have hb := x6.2.2.2.2.2.1
          have xb := x6.2.2.2.2.2.2
          refine z_aload_n dX12_entriesBy_35 rfl ?_
          refine z_iload_n dX12_entriesBy_36 rfl ?_
          refine z_iconst (v := nI 0) dX12_entriesBy_37 rfl ?_
          refine z_callV2i dX12_entriesBy_38 kX12_ofIndex lX12_104 (by first | assumption | exact And.left (by assumption)) rfl (s_ofIx hm0 hk (by omega) n1) (Nat.le_of_ble_eq_true rfl) (Nat.le_of_ble_eq_true rfl) ⟨Nat.le_of_ble_eq_true rfl, Nat.le_of_ble_eq_true rfl⟩ ?_
          refine z_iconst (v := nI 4) dX12_entriesBy_41 rfl ?_
          refine z_icmp_eqN (tgt := 48) dX12_entriesBy_42 (by decide) (by omega) (by omega) (fun c_42 => ?_) (fun c_42 => ?_)
          · refine z_aload_n dX12_entriesBy_48 rfl ?_
            refine z_getR dX12_entriesBy_49 fX12_62 (by first | assumption | exact And.left (by assumption)) rfl ?_
            refine z_iconst (v := nI 0) dX12_entriesBy_52 rfl ?_
            refine z_iload_n dX12_entriesBy_53 rfl ?_
            refine z_iastN dX12_entriesBy_54 (by first | assumption | exact And.left (by assumption)) (by omega) (by decide) ?_
            refine z_aload_n dX12_entriesBy_55 rfl ?_
            refine z_getR dX12_entriesBy_56 fX12_62 (by first | assumption | exact And.left (by assumption)) rfl ?_
            refine z_iconst (v := nI 1) dX12_entriesBy_59 rfl ?_
            refine z_iload_n dX12_entriesBy_60 rfl ?_
            refine z_iastN dX12_entriesBy_61 (by first | assumption | exact And.left (by assumption)) (by omega) (by decide) ?_
            refine z_aload_n dX12_entriesBy_62 rfl ?_
            refine z_getR dX12_entriesBy_63 fX12_62 (by first | assumption | exact And.left (by assumption)) rfl ?_
            refine z_iconst (v := nI 2) dX12_entriesBy_66 rfl ?_
            refine z_iload dX12_entriesBy_67 rfl ?_
            refine z_iastN dX12_entriesBy_69 (by first | assumption | exact And.left (by assumption)) (by omega) (by decide) ?_
            refine z_iconst (v := nI 0) dX12_entriesBy_70 rfl ?_
            refine z_istore dX12_entriesBy_71 (Nat.le_of_ble_eq_true rfl) rfl ?_
            have hR : rfk (nI k) (nI x0) (nI y0) (nI z1) w = 0 := by unfold rfk; rw [cif_y (rng_k hk), cif_y ⟨rng_k hx0, rng_k hy0, rng_k hz1⟩, hT, if_pos (show (xof w k).1.1 = 4 from c_42)]
            have hE : kyr w (nI k) (nI x0) (nI y0) (nI z1) = rk (w.1.2.2.2 k).2.1.1 ((x0 * 100 + y0) * 100 + z1) 3 := by unfold kyr; rw [hT, tn_k (k := x0) (by omega), tn_k (k := y0) (by omega), tn_k (k := z1) (by omega)] <;> rfl
            have hN : nby op w (nI k) (nI x0) (nI y0) (nI z1) = cn (fun q => pby op (rk (w.1.2.2.2 k).2.1.1 ((x0 * 100 + y0) * 100 + z1) 3) ((w.1.2.2.2 k).2.2.1.getD q 0)) (w.1.2.2.2 k).2.2.1.length := by unfold nby; rw [hE, hT] <;> rfl
            obtain ⟨p1, p2, p3⟩ := pt_cat hx0 hy0 hz1
            refine Z.mono (lp_byK (D := D) (z0 := z0) (nx := nx) (V := V) (p := (x0 * 100 + y0) * 100 + z1) hm0 hk X2 hb (by omega) hop X3 xb.1 xb.2.2.2.2.1 _ 0 _ rfl (by omega) (fun q q1 q2 => by rw [zup_a q2, zup_a q2, zup_a q2]) (fun j hj => ?_) (fun k hk => absurd hk (by omega))) ?_
            · rcases (show j = 0 ∨ j = 1 ∨ j = 2 by omega) with rfl | rfl | rfl
              · rw [zup_k (by decide), zup_k (by decide), zup_s, p1]
              · rw [zup_k (by decide), zup_s, p2]
              · rw [zup_s, p3]
            · intro r2 L2 V9 n9 h9
              obtain ⟨g1, g2, g3, g4⟩ := h9
              rw [cif_y hR, hN]
              exact ⟨g1, g2, g3, g4⟩
          · refine z_bipush (v := (-5)) dX12_entriesBy_45 rfl ?_
            refine z_ireturn dX12_entriesBy_47 (Nat.le_of_ble_eq_true rfl) (Nat.le_of_ble_eq_true rfl) rfl ?_
            exact ⟨by rw [show rfk (nI k) (nI x0) (nI y0) (nI z1) w = -5 from by unfold rfk; rw [cif_y (rng_k hk), cif_y ⟨rng_k hx0, rng_k hy0, rng_k hz1⟩, hT, if_neg (show ¬ (xof w k).1.1 = 4 from c_42)], cif_n (by decide)], rfl, rfl, fun _ _ _ => rfl⟩
        · refine z_bipush (v := (-3)) dX12_entriesBy_32 rfl ?_
          refine z_ireturn dX12_entriesBy_34 (Nat.le_of_ble_eq_true rfl) (Nat.le_of_ble_eq_true rfl) rfl ?_
          exact ⟨by rw [show rfk i x y z w = -3 from (cif_y c_4).trans (cif_n (fun q => by first | exact c_14 q.1 | exact c_21 q.2.1 | exact c_29 q.2.2)), cif_n (by decide)], rfl, rfl, fun _ _ _ => rfl⟩
  · refine z_bipush (v := (-2)) dX12_entriesBy_7 rfl ?_
    refine z_ireturn dX12_entriesBy_9 (Nat.le_of_ble_eq_true rfl) (Nat.le_of_ble_eq_true rfl) rfl ?_
    exact ⟨by rw [show rfk i x y z w = -2 from cif_n c_4, cif_n (by decide)], rfl, rfl, fun _ _ _ => rfl⟩

