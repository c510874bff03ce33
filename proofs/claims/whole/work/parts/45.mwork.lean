/-! the reference, on: the units of a build -/
theorem MXn_row {f g : Nat → Int32} {b : Nat} {n : Nat × Nat × Nat × Nat × Nat} (h : MXn f b n) (h1 : n.1 = 1) (e : ∀ j, j ≠ b + 1 → b ≤ j → j < b + 13 → g j = f j) (h0 : g (b + 1) = nI (n.2.2.1 + 1)) : MXn g b (n.1, n.2.1, n.2.2.1 + 1, n.2.2.2) := by
  obtain ⟨k1, k2, k3, k4, k5⟩ := h
  exact ⟨by rw [e _ (by omega) (by omega) (by omega)]; exact k1, by rw [h0]; exact (if_pos h1).symm, by rw [e _ (by omega) (by omega) (by omega)]; exact k3, by rw [e _ (by omega) (by omega) (by omega)]; exact k4, by rw [e _ (by omega) (by omega) (by omega)]; exact k5⟩
theorem s_doesM {D : zD} {z0 nx : Nat} {L : zL} {V : zV} {m i p r ad : Nat} {d : Df} {l : List Nat} (hm : sM L m) (hi : i < 2) (hr : r < 48) (hd : MXd (V (m + 1)) (2140 + 1600 * i) d) (hb : Dfb d) (he : MXe (V (m + 1)) (2140 + 1600 * i) d l) (hl : l.length ≤ 48) (hv : ∀ c ∈ l, RV d (c / 64)) (hk : KR V m d p) (hp : RV d p) (had : ad < 2) (hcap : ad = 1 → cap (p * 64 + r) l) : Sp D z0 5 0 0 mX12_does [.ref m, .int (nI i), .int (nI ad), .int (nI r)] L V nx (zq none L nx (fun V' => oE V V' m (2140 + 1600 * i) ∧ MXe (V' (m + 1)) (2140 + 1600 * i) d (if ad = 1 then inc (p * 64 + r) l else exc (p * 64 + r) l))) := by
  rcases (show ad = 0 ∨ ad = 1 by omega) with rfl | rfl
  · exact s_does0 hm hi hr hd hb he hl hv hk hp
  · exact s_does1 hm hi hr hd hb he hl hv hk hp (fun _ => hcap rfl)
/-- the first of the log for now is gone -/
theorem MX_pop {f g : Nat → Int32} {b it : Nat} {x : Ix} {t : List Nat} (h : MX f b x) (ht : x.2.2.2.1 = it :: t) (hn : g (b + 14) = nI t.length) (h1 : ∀ j, j < 5 * t.length → g (b + 400 + j) = f (b + 405 + j)) (e : ∀ j, j ≠ b + 14 → ¬ (b + 400 ≤ j ∧ j < b + 1000) → g j = f j) : MX g b (x.1, x.2.1, x.2.2.1, t, x.2.2.2.2) := by
  obtain ⟨k1, k2, k3, k4, k5, k6⟩ := h
  have hd := k6.2.2.2.2.2.1.1
  have hb2 := k6.2.2.2.2.2.2
  obtain ⟨i1, i2, i3, i4, i5, i6, i7, i8, i9, i10, i11⟩ := k6
  have hlen : x.2.2.2.1.length = t.length + 1 := by rw [ht] <;> rfl
  refine ⟨k1.cg (fun j _ _ => e j (by omega) (by omega)), k2.cg (fun j _ _ => e j (by omega) (by omega)), k3.cg2 hd hb2.1 (e _ (by omega) (by omega)) (fun j _ _ => e j (by omega) (by omega)), ⟨hn, fun k hk => ?_⟩, k5.cg hd hb2.2.2.1 (e _ (by omega) (by omega)) (fun j _ _ => e j (by omega) (by omega)), i1, i2, i3, i4, i5, i6, i7, by show t.length ≤ 120; omega, i9, ⟨i10.1, fun c hc => i10.2.1 c (by rw [ht]; exact List.mem_cons_of_mem _ hc), i10.2.2⟩, ⟨i11.1, fun c hc => i11.2.1 c (by rw [ht]; exact List.mem_cons_of_mem _ hc), i11.2.2⟩⟩
  have hk2 : k < t.length := hk
  obtain ⟨j1, j2, j3⟩ := k4.2 (k + 1) (by omega)
  have eg : x.2.2.2.1.getD (k + 1) 0 = t.getD k 0 := by rw [ht] <;> rfl
  rw [eg] at j1 j2 j3
  refine ⟨?_, ?_, fun j hj => ?_⟩
  · have := h1 (5 * k) (by omega)
    rw [this, show b + 405 + 5 * k = b + 400 + 5 * (k + 1) by omega]
    exact j1
  · have := h1 (5 * k + 1) (by omega)
    rw [show b + 400 + 5 * k + 1 = b + 400 + (5 * k + 1) by omega, this, show b + 405 + (5 * k + 1) = b + 400 + 5 * (k + 1) + 1 by omega]
    exact j2
  · have hj3 : j < 3 := Nat.lt_of_lt_of_le hj hd
    have := h1 (5 * k + 2 + j) (by omega)
    rw [show b + 400 + 5 * k + 2 + j = b + 400 + (5 * k + 2 + j) by omega, this, show b + 405 + (5 * k + 2 + j) = b + 400 + 5 * (k + 1) + 2 + j by omega]
    exact j3 j hj
theorem KR_cp {V : zV} {m p r : Nat} {d : Df} (h : MK (V (m + 1)) p d r) (hd : d.1.length ≤ 3) : KR (cpz V (m + 1) (m + 4) p 0 3) m d r := fun j hj => by
  unfold cpz
  rw [zset_s, if_pos (by omega), show p + (j - 0) = p + j by omega]
  exact h j hj
theorem cp_1 {V : zV} {m a f t n : Nat} : cpz V a (m + 4) f t n (m + 1) = V (m + 1) := by
  unfold cpz
  rw [zset_a (by omega)]

set_option maxHeartbeats 4000000 in
set_option maxRecDepth 100000 in
theorem s_firstN {D : zD} {z0 nx : Nat} {L : zL} {V : zV} {m i : Nat} {x : Ix} (hm : sM L m) (hi : i < 2) (hx : MX (V (m + 1)) (2140 + 1600 * i) x) (hn0 : x.2.2.2.1 = []) : Sp D z0 6 0 0 mX12_doesFirst [.ref m, .int (nI i)] L V nx (zq (some (.int (nI 0))) L nx (fun V' => oX V V' m i ∧ MX (V' (m + 1)) (2140 + 1600 * i) (x))) := by
  have hm0 := hm
  obtain ⟨a0, a1, a2, a3, a4, a5, a6, a7, a8, a9, a10, a11, a12, a13, a14, a15⟩ := hm
  have hx0 := hx
  obtain ⟨x1, x2, x3, x4, x5, x6⟩ := hx
  have hb := x6.2.2.2.2.2.1
  have hdl := hb.1
  have xb := x6.2.2.2.2.2.2
  refine Sp.of 2 (by decide) rfl rfl (Nat.le_of_ble_eq_true rfl) ?_
  refine z_aload_n dX12_doesFirst_0 rfl ?_
  refine z_iload_n dX12_doesFirst_1 rfl ?_
  refine z_bipush (v := nI 14) dX12_doesFirst_2 rfl ?_
  have hln := xb.2.1
  refine z_callV2i dX12_doesFirst_4 kX12_ofIndex lX12_104 (by first | assumption | exact And.left (by assumption)) rfl (s_ofIx hm0 hi (by omega) x4.1) (Nat.le_of_ble_eq_true rfl) (Nat.le_of_ble_eq_true rfl) ⟨Nat.le_of_ble_eq_true rfl, Nat.le_of_ble_eq_true rfl⟩ ?_
  refine z_istore_n dX12_doesFirst_7 (Nat.le_of_ble_eq_true rfl) rfl ?_
  refine z_iload_n dX12_doesFirst_8 rfl ?_
  refine z_if_neN (tgt := 14) dX12_doesFirst_9 (by decide) (by omega) (fun c_9 => ?_) (fun c_9 => ?_)
  · exact absurd (by rw [hn0] <;> rfl) c_9
  · refine z_iconst (v := nI 0) dX12_doesFirst_12 rfl ?_
    refine z_zreturn dX12_doesFirst_13 (Nat.le_of_ble_eq_true rfl) (Nat.le_of_ble_eq_true rfl) rfl (by first | exact Or.inl rfl | exact Or.inr rfl | exact zb_01 _ | assumption) ?_
    exact ⟨rfl, rfl, rfl, oX.rf, hx0⟩

set_option maxHeartbeats 4000000 in
set_option maxRecDepth 100000 in
theorem s_firstC {D : zD} {z0 nx : Nat} {L : zL} {V : zV} {m i : Nat} {x : Ix} (hm : sM L m) (hi : i < 2) (hx : MX (V (m + 1)) (2140 + 1600 * i) x) {it : Nat} {t : List Nat} (hn0 : x.2.2.2.1 = it :: t) (hcf : it % 2 = 1 → cap (it / 2) x.2.2.1) (hrw : it / 2 % 64 < 48) : Sp D z0 6 0 0 mX12_doesFirst [.ref m, .int (nI i)] L V nx (zq (some (.int (nI 1))) L nx (fun V' => oX V V' m i ∧ MX (V' (m + 1)) (2140 + 1600 * i) (xFirst x it t))) := by
  have hm0 := hm
  obtain ⟨a0, a1, a2, a3, a4, a5, a6, a7, a8, a9, a10, a11, a12, a13, a14, a15⟩ := hm
  have hx0 := hx
  obtain ⟨x1, x2, x3, x4, x5, x6⟩ := hx
  have hb := x6.2.2.2.2.2.1
  have hdl := hb.1
  have xb := x6.2.2.2.2.2.2
  refine Sp.of 2 (by decide) rfl rfl (Nat.le_of_ble_eq_true rfl) ?_
  refine z_aload_n dX12_doesFirst_0 rfl ?_
  refine z_iload_n dX12_doesFirst_1 rfl ?_
  refine z_bipush (v := nI 14) dX12_doesFirst_2 rfl ?_
  have hln := xb.2.1
  refine z_callV2i dX12_doesFirst_4 kX12_ofIndex lX12_104 (by first | assumption | exact And.left (by assumption)) rfl (s_ofIx hm0 hi (by omega) x4.1) (Nat.le_of_ble_eq_true rfl) (Nat.le_of_ble_eq_true rfl) ⟨Nat.le_of_ble_eq_true rfl, Nat.le_of_ble_eq_true rfl⟩ ?_
  refine z_istore_n dX12_doesFirst_7 (Nat.le_of_ble_eq_true rfl) rfl ?_
  refine z_iload_n dX12_doesFirst_8 rfl ?_
  refine z_if_neN (tgt := 14) dX12_doesFirst_9 (by decide) (by omega) (fun c_9 => ?_) (fun c_9 => ?_)
  · have hlen : x.2.2.2.1.length = t.length + 1 := by rw [hn0] <;> rfl
    obtain ⟨j1, j2, j3⟩ := x4.2 0 (by omega)
    have eg : x.2.2.2.1.getD 0 0 = it := by rw [hn0] <;> rfl
    rw [eg] at j1 j2 j3
    have hrv := xb.2.2.2.2.2.1 it (by rw [hn0]; exact List.mem_cons_self)
    refine z_sipush (v := nI 2140) dX12_doesFirst_14 rfl ?_
    refine z_sipush (v := nI 1600) dX12_doesFirst_17 rfl ?_
    refine z_iload_n dX12_doesFirst_20 rfl ?_
    refine z_mulN dX12_doesFirst_21 ?_
    refine z_addN dX12_doesFirst_22 ?_
    refine z_sipush (v := nI 400) dX12_doesFirst_23 rfl ?_
    refine z_addN dX12_doesFirst_26 ?_
    refine z_istore_n dX12_doesFirst_27 (Nat.le_of_ble_eq_true rfl) rfl ?_
    refine z_aload_n dX12_doesFirst_28 rfl ?_
    refine z_getR dX12_doesFirst_29 fX12_13 (by first | assumption | exact And.left (by assumption)) rfl ?_
    refine z_iload_n dX12_doesFirst_32 rfl ?_
    refine z_iconst (v := nI 2) dX12_doesFirst_33 rfl ?_
    refine z_addN dX12_doesFirst_34 ?_
    refine z_aload_n dX12_doesFirst_35 rfl ?_
    refine z_getR dX12_doesFirst_36 fX12_25 (by first | assumption | exact And.left (by assumption)) rfl ?_
    refine z_iconst (v := nI 0) dX12_doesFirst_39 rfl ?_
    refine z_iconst (v := nI 3) dX12_doesFirst_40 rfl ?_
    refine z_callS5w dX12_doesFirst_41 kX12_copies lX12_76 (s_cp a1 a4 (by omega) (by omega) (by omega) (Or.inl (by omega))) (Nat.le_of_ble_eq_true rfl) (Nat.le_of_ble_eq_true rfl) ⟨Nat.le_of_ble_eq_true rfl, Nat.le_of_ble_eq_true rfl⟩ ?_
    intro V1 hV1
    have hk1 : KR V1 m x.2.1 (it / 2 / 64) := by rw [hV1]; exact KR_cp j3 hdl
    have hA : V1 (m + 1) = V (m + 1) := by rw [hV1, cp_1]
    have o1 : oX V V1 m i := by rw [hV1]; exact oX.rf.ck
    have hx1 : MX (V1 (m + 1)) (2140 + 1600 * i) x := by rw [hA]; exact hx0
    have g1 : V1 (m + 1) (2140 + 1600 * i + 400) = nI (it % 2) := by rw [hA]; exact j1
    have g2 : V1 (m + 1) (2140 + 1600 * i + 400 + 1) = nI (it / 2 % 64) := by rw [hA]; exact j2
    clear hV1
    refine z_aload_n dX12_doesFirst_44 rfl ?_
    refine z_iload_n dX12_doesFirst_45 rfl ?_
    refine z_aload_n dX12_doesFirst_46 rfl ?_
    refine z_getR dX12_doesFirst_47 fX12_13 (by first | assumption | exact And.left (by assumption)) rfl ?_
    refine z_iload_n dX12_doesFirst_50 rfl ?_
    refine z_ialdN dX12_doesFirst_51 (by first | assumption | exact And.left (by assumption)) (by omega) (by decide) g1 ?_
    refine z_aload_n dX12_doesFirst_52 rfl ?_
    refine z_getR dX12_doesFirst_53 fX12_13 (by first | assumption | exact And.left (by assumption)) rfl ?_
    refine z_iload_n dX12_doesFirst_56 rfl ?_
    refine z_iconst (v := nI 1) dX12_doesFirst_57 rfl ?_
    refine z_addN dX12_doesFirst_58 ?_
    refine z_ialdN dX12_doesFirst_59 (by first | assumption | exact And.left (by assumption)) (by omega) (by decide) g2 ?_
    refine z_callV3w dX12_doesFirst_60 kX12_does lX12_130 (by first | assumption | exact And.left (by assumption)) rfl (s_doesM (ad := it % 2) hm0 hi hrw hx1.2.1 hb hx1.2.2.1 xb.1 xb.2.2.2.2.1 hk1 hrv (by omega) (fun z => by rw [show it / 2 / 64 * 64 + it / 2 % 64 = it / 2 by omega]; exact hcf z)) (Nat.le_of_ble_eq_true rfl) (Nat.le_of_ble_eq_true rfl) ⟨Nat.le_of_ble_eq_true rfl, Nat.le_of_ble_eq_true rfl⟩ ?_
    intro V2 hV2
    obtain ⟨e2, t2⟩ := hV2
    rw [show it / 2 / 64 * 64 + it / 2 % 64 = it / 2 by omega] at t2
    have hc2 : ∀ c ∈ (if it % 2 = 1 then inc (it / 2) x.2.2.1 else exc (it / 2) x.2.2.1), c < 64000000 ∧ RV x.2.1 (c / 64) := by
      intro c hc
      split at hc
      · rcases inc_mem hc with q | q
        · rw [q]
          exact ⟨by have := hrv.1; omega, hrv⟩
        · exact ⟨xb.2.2.2.1.1 c q, xb.2.2.2.2.1 c q⟩
      · exact ⟨xb.2.2.2.1.1 c (exc_mem hc), xb.2.2.2.2.1 c (exc_mem hc)⟩
    have hl2 : (if it % 2 = 1 then inc (it / 2) x.2.2.1 else exc (it / 2) x.2.2.1).length ≤ 48 := by
      split
      · exact inc_len xb.1
      · exact Nat.le_trans exc_len xb.1
    have hx2 := MX_e hx1 t2 hl2 hc2 e2.2
    refine z_aload_n dX12_doesFirst_63 rfl ?_
    refine z_getR dX12_doesFirst_64 fX12_13 (by first | assumption | exact And.left (by assumption)) rfl ?_
    refine z_iload_n dX12_doesFirst_67 rfl ?_
    refine z_iconst (v := nI 5) dX12_doesFirst_68 rfl ?_
    refine z_addN dX12_doesFirst_69 ?_
    refine z_aload_n dX12_doesFirst_70 rfl ?_
    refine z_getR dX12_doesFirst_71 fX12_13 (by first | assumption | exact And.left (by assumption)) rfl ?_
    refine z_iload_n dX12_doesFirst_74 rfl ?_
    refine z_iconst (v := nI 5) dX12_doesFirst_75 rfl ?_
    refine z_iload_n dX12_doesFirst_76 rfl ?_
    refine z_iconst (v := nI 1) dX12_doesFirst_77 rfl ?_
    refine z_subN dX12_doesFirst_78 (by omega) ?_
    refine z_mulN dX12_doesFirst_79 ?_
    refine z_callS5w dX12_doesFirst_80 kX12_copies lX12_76 (s_cp a1 a1 (by omega) (by omega) (by omega) (Or.inr (Or.inl (by omega)))) (Nat.le_of_ble_eq_true rfl) (Nat.le_of_ble_eq_true rfl) ⟨Nat.le_of_ble_eq_true rfl, Nat.le_of_ble_eq_true rfl⟩ ?_
    intro V3 hV3
    subst hV3
    refine z_aload_n dX12_doesFirst_83 rfl ?_
    refine z_iload_n dX12_doesFirst_84 rfl ?_
    refine z_bipush (v := nI 14) dX12_doesFirst_85 rfl ?_
    refine z_iload_n dX12_doesFirst_87 rfl ?_
    refine z_iconst (v := nI 1) dX12_doesFirst_88 rfl ?_
    refine z_subN dX12_doesFirst_89 (by omega) ?_
    refine z_callV3w dX12_doesFirst_90 kX12_laysIndex lX12_80 (by first | assumption | exact And.left (by assumption)) rfl (s_lays hm0 (by omega) (by omega)) (Nat.le_of_ble_eq_true rfl) (Nat.le_of_ble_eq_true rfl) ⟨Nat.le_of_ble_eq_true rfl, Nat.le_of_ble_eq_true rfl⟩ ?_
    intro V4 hV4
    subst hV4
    refine z_iconst (v := nI 1) dX12_doesFirst_93 rfl ?_
    refine z_zreturn dX12_doesFirst_94 (Nat.le_of_ble_eq_true rfl) (Nat.le_of_ble_eq_true rfl) rfl (by first | exact Or.inl rfl | exact Or.inr rfl | exact zb_01 _ | assumption) ?_
    have e9 : xFirst x it t = (x.1, x.2.1, (if it % 2 = 1 then inc (it / 2) x.2.2.1 else exc (it / 2) x.2.2.1), t, x.2.2.2.2) := by
      show (x.1, x.2.1, (xDo (it / 2) (it % 2 = 1) x).2.2.1, t, x.2.2.2.2) = _
      by_cases z : it % 2 = 1
      · rw [if_pos z, xDo, if_pos z]
      · rw [if_neg z, xDo, if_neg z]
    rw [e9]
    refine ⟨rfl, rfl, rfl, ((o1.trans e2.x).cp (by omega)).up (by omega), ?_⟩
    refine MX_pop hx2 hn0 ?_ (fun j hj => ?_) (fun j q1 q2 => ?_)
    · rw [zup_s, show x.2.2.2.1.length - 1 = t.length by omega]
    · rw [zup_k (by omega)]
      unfold cpz
      rw [zset_s, if_pos (by omega)]
      congr 1
      omega
    · rw [zup_k (by omega)]
      unfold cpz
      rw [zset_s, if_neg (by omega)]
  · exact absurd c_9 (by rw [hn0]; simp)

set_option maxHeartbeats 4000000 in
set_option maxRecDepth 100000 in
theorem lp_scan41 {D : zD} {z0 nx : Nat} {L : zL} {V : zV} {m i p : Nat} {y : Ix} (hm : sM L m) (hi : i < 2) (hy : MX (V (m + 1)) (2140 + 1600 * i) y) (h1 : y.1.1 = 1) (hn : y.1.2.2.1 < 48) (hrd : y.1.2.2.2.1 = 0) : Z D z0 6 0 0 mX12_scans 0 0 41 [some (.ref m), some (.int (nI i)), some (.int (nI y.1.2.2.1)), some (.int (nI p))] [] L V nx (zq none L nx (fun V' => oX V V' m i ∧ MX (V' (m + 1)) (2140 + 1600 * i) (if 48 ≤ y.1.2.2.1 + 1 then xGo (xRow1 y) else xRow1 y))) := by
  have hm0 := hm
  have hy0 := hy
  obtain ⟨y1, y2, y3, y4, y5, y6⟩ := hy
  have xb := y6.2.2.2.2.2.2
  have hn48 := y6.2.2.1
  refine z_aload_n dX12_scans_41 rfl ?_
  refine z_iload_n dX12_scans_42 rfl ?_
  refine z_iconst (v := nI 1) dX12_scans_43 rfl ?_
  refine z_iload_n dX12_scans_44 rfl ?_
  refine z_iconst (v := nI 1) dX12_scans_45 rfl ?_
  refine z_addN dX12_scans_46 ?_
  refine z_callV3w dX12_scans_47 kX12_laysIndex lX12_80 (by first | assumption | exact And.left (by assumption)) rfl (s_lays hm0 (by omega) (by omega)) (Nat.le_of_ble_eq_true rfl) (Nat.le_of_ble_eq_true rfl) ⟨Nat.le_of_ble_eq_true rfl, Nat.le_of_ble_eq_true rfl⟩ ?_
  intro V1 hV1
  subst hV1
  have hr1 : MX ((zup V (m + 1) (2140 + 1600 * i + 1) (nI (y.1.2.2.1 + 1))) (m + 1)) (2140 + 1600 * i) (xRow1 y) := MX_n (n := (y.1.1, y.1.2.1, y.1.2.2.1 + 1, y.1.2.2.2)) hy0 (MXn_row y1 h1 (fun j j1 j2 j3 => zup_k (by omega)) (zup_s _ _ _ _)) ⟨y6.1, y6.2.1, by show y.1.2.2.1 + 1 ≤ 48; omega, y6.2.2.2.1, y6.2.2.2.2.1⟩ (fun j j1 j2 j3 => zup_k (by omega))
  refine z_iload_n dX12_scans_50 rfl ?_
  refine z_iconst (v := nI 1) dX12_scans_51 rfl ?_
  refine z_addN dX12_scans_52 ?_
  refine z_bipush (v := nI 48) dX12_scans_53 rfl ?_
  refine z_icmp_geN (tgt := 59) dX12_scans_55 (by decide) (by omega) (by omega) (fun c_55 => ?_) (fun c_55 => ?_)
  · refine z_aload_n dX12_scans_59 rfl ?_
    refine z_iload_n dX12_scans_60 rfl ?_
    refine z_iconst (v := nI 0) dX12_scans_61 rfl ?_
    refine z_iconst (v := nI 2) dX12_scans_62 rfl ?_
    refine z_callV3w dX12_scans_63 kX12_laysIndex lX12_80 (by first | assumption | exact And.left (by assumption)) rfl (s_lays hm0 (by omega) (by omega)) (Nat.le_of_ble_eq_true rfl) (Nat.le_of_ble_eq_true rfl) ⟨Nat.le_of_ble_eq_true rfl, Nat.le_of_ble_eq_true rfl⟩ ?_
    intro V2 hV2
    subst hV2
    refine z_aload_n dX12_scans_66 rfl ?_
    refine z_iload_n dX12_scans_67 rfl ?_
    refine z_iconst (v := nI 1) dX12_scans_68 rfl ?_
    refine z_iconst (v := (-1)) dX12_scans_69 rfl ?_
    refine z_callV3w dX12_scans_70 kX12_laysIndex lX12_80 (by first | assumption | exact And.left (by assumption)) rfl (s_lays hm0 (by omega) (by omega)) (Nat.le_of_ble_eq_true rfl) (Nat.le_of_ble_eq_true rfl) ⟨Nat.le_of_ble_eq_true rfl, Nat.le_of_ble_eq_true rfl⟩ ?_
    intro V3 hV3
    subst hV3
    refine z_aload_n dX12_scans_73 rfl ?_
    refine z_iload_n dX12_scans_74 rfl ?_
    refine z_iconst (v := nI 3) dX12_scans_75 rfl ?_
    refine z_iconst (v := (-1)) dX12_scans_76 rfl ?_
    refine z_callV3w dX12_scans_77 kX12_laysIndex lX12_80 (by first | assumption | exact And.left (by assumption)) rfl (s_lays hm0 (by omega) (by omega)) (Nat.le_of_ble_eq_true rfl) (Nat.le_of_ble_eq_true rfl) ⟨Nat.le_of_ble_eq_true rfl, Nat.le_of_ble_eq_true rfl⟩ ?_
    intro V4 hV4
    subst hV4
    refine z_aload_n dX12_scans_80 rfl ?_
    refine z_iload_n dX12_scans_81 rfl ?_
    refine z_iconst (v := nI 2) dX12_scans_82 rfl ?_
    refine z_iconst (v := nI 1) dX12_scans_83 rfl ?_
    refine z_callV3w dX12_scans_84 kX12_laysIndex lX12_80 (by first | assumption | exact And.left (by assumption)) rfl (s_lays hm0 (by omega) (by omega)) (Nat.le_of_ble_eq_true rfl) (Nat.le_of_ble_eq_true rfl) ⟨Nat.le_of_ble_eq_true rfl, Nat.le_of_ble_eq_true rfl⟩ ?_
    intro V5 hV5
    subst hV5
    have hr2 : MX ((zup (zup (zup (zup (zup V (m + 1) (2140 + 1600 * i + 1) (nI (y.1.2.2.1 + 1))) (m + 1) (2140 + 1600 * i + 0) (nI 2)) (m + 1) (2140 + 1600 * i + 1) (-1)) (m + 1) (2140 + 1600 * i + 3) (-1)) (m + 1) (2140 + 1600 * i + 2) (nI 1)) (m + 1)) (2140 + 1600 * i) ((2, y.1.2.1, y.1.2.2.1 + 1, y.1.2.2.2.1 + 1, y.1.2.2.2.2), y.2) := by
      refine MX_n (x := xRow1 y) hr1 ⟨?_, ?_, ?_, ?_, ?_⟩ ⟨by simp, y6.2.1, by show y.1.2.2.1 + 1 ≤ 48; omega, by show y.1.2.2.2.1 + 1 < 1000000; omega, y6.2.2.2.2.1⟩ (fun j j1 j2 j3 => ?_)
      · repeat (first | rw [zup_s] | rw [zup_k (by omega)])
      · rw [if_neg (show ¬ (2 : Nat) = 1 by decide)]
        repeat (first | rw [zup_s] | rw [zup_k (by omega)])
      · show _ = nI (y.1.2.2.2.1 + 1)
        rw [hrd]
        repeat (first | rw [zup_s] | rw [zup_k (by omega)])
      · rw [if_neg (show ¬ (2 : Nat) = 1 by decide)]
        repeat (first | rw [zup_s] | rw [zup_k (by omega)])
      · rw [zup_k (by omega), zup_k (by omega), zup_k (by omega), zup_k (by omega), zup_k (by omega)]
        exact y1.2.2.2.2
      · rw [zup_k (by omega), zup_k (by omega), zup_k (by omega), zup_k (by omega)]
    refine z_aload_n dX12_scans_87 rfl ?_
    refine z_iload_n dX12_scans_88 rfl ?_
    refine z_callV1w dX12_scans_89 kX12_turnsLogs lX12_352 (by first | assumption | exact And.left (by assumption)) rfl (s_mTurn hm0 hi hr2) (Nat.le_of_ble_eq_true rfl) (Nat.le_of_ble_eq_true rfl) ⟨Nat.le_of_ble_eq_true rfl, Nat.le_of_ble_eq_true rfl⟩ ?_
    intro V6 hV6
    refine z_return dX12_scans_92 (Nat.le_of_ble_eq_true rfl) (Nat.le_of_ble_eq_true rfl) rfl ?_
    rw [if_pos (by omega)]
    exact ⟨rfl, rfl, rfl, (((((oX.rf.up (by omega)).up (by omega)).up (by omega)).up (by omega)).up (by omega)).trans hV6.1, hV6.2⟩
  · refine z_return dX12_scans_58 (Nat.le_of_ble_eq_true rfl) (Nat.le_of_ble_eq_true rfl) rfl ?_
    rw [if_neg (by omega)]
    exact ⟨rfl, rfl, rfl, oX.rf.up (by omega), hr1⟩

set_option maxHeartbeats 4000000 in
set_option maxRecDepth 100000 in
theorem s_scan {D : zD} {z0 nx : Nat} {L : zL} {V : zV} {m i : Nat} {x : Ix} (hm : sM L m) (hi : i < 2) (hx : MX (V (m + 1)) (2140 + 1600 * i) x) {v : Vs} (h1 : x.1.1 = 1) (hv : MVr (V (m + 1)) x.1.2.2.1 (v x.1.2.2.1)) (hf : (vk (v x.1.2.2.1) 0).1 ≤ x.1.2.1) (hn : x.1.2.2.1 < 48) (hrd : x.1.2.2.2.1 = 0) (hcap : ∀ c, eo x.2.1 (vat (v x.1.2.2.1) x.1.2.1) x.1.2.2.1 = some c → cap c x.2.2.1) : Sp D z0 6 0 0 mX12_scans [.ref m, .int (nI i)] L V nx (zq none L nx (fun V' => oX V V' m i ∧ MX (V' (m + 1)) (2140 + 1600 * i) (xScan v x))) := by
  have hm0 := hm
  obtain ⟨a0, a1, a2, a3, a4, a5, a6, a7, a8, a9, a10, a11, a12, a13, a14, a15⟩ := hm
  have hx0 := hx
  obtain ⟨x1, x2, x3, x4, x5, x6⟩ := hx
  have hb := x6.2.2.2.2.2.1
  have hdl := hb.1
  have xb := x6.2.2.2.2.2.2
  obtain ⟨n1, n2, n3, n4, n5⟩ := x1
  rw [if_pos h1] at n2 n4
  have hsq := x6.2.1
  obtain ⟨hv1, hv2, hv3, hv4⟩ := hv
  have hv0 : MVr (V (m + 1)) x.1.2.2.1 (v x.1.2.2.1) := ⟨hv1, hv2, hv3, hv4⟩
  have hvp := vpl_le (v x.1.2.2.1) x.1.2.1 ((v x.1.2.2.1).length - 1)
  have hat := (hv4 (vpl (v x.1.2.2.1) x.1.2.1 ((v x.1.2.2.1).length - 1)) (by omega)).2.2
  rw [← vat_vpl hf hv2] at hat
  refine Sp.of 2 (by decide) rfl rfl (Nat.le_of_ble_eq_true rfl) ?_
  refine z_aload_n dX12_scans_0 rfl ?_
  refine z_iload_n dX12_scans_1 rfl ?_
  refine z_iconst (v := nI 1) dX12_scans_2 rfl ?_
  refine z_callV2i dX12_scans_3 kX12_ofIndex lX12_104 (by first | assumption | exact And.left (by assumption)) rfl (s_ofIx hm0 hi (by omega) n2) (Nat.le_of_ble_eq_true rfl) (Nat.le_of_ble_eq_true rfl) ⟨Nat.le_of_ble_eq_true rfl, Nat.le_of_ble_eq_true rfl⟩ ?_
  refine z_istore_n dX12_scans_6 (Nat.le_of_ble_eq_true rfl) rfl ?_
  refine z_aload_n dX12_scans_7 rfl ?_
  refine z_iload_n dX12_scans_8 rfl ?_
  refine z_aload_n dX12_scans_9 rfl ?_
  refine z_iload_n dX12_scans_10 rfl ?_
  refine z_iconst (v := nI 3) dX12_scans_11 rfl ?_
  refine z_callV2i dX12_scans_12 kX12_ofIndex lX12_104 (by first | assumption | exact And.left (by assumption)) rfl (s_ofIx hm0 hi (by omega) n4) (Nat.le_of_ble_eq_true rfl) (Nat.le_of_ble_eq_true rfl) ⟨Nat.le_of_ble_eq_true rfl, Nat.le_of_ble_eq_true rfl⟩ ?_
  refine z_callV2i dX12_scans_15 kX12_versionAt lX12_101 (by first | assumption | exact And.left (by assumption)) rfl (s_mVer hm0 hn hv0 hsq) (Nat.le_of_ble_eq_true rfl) (Nat.le_of_ble_eq_true rfl) ⟨Nat.le_of_ble_eq_true rfl, Nat.le_of_ble_eq_true rfl⟩ ?_
  refine z_istore_n dX12_scans_18 (Nat.le_of_ble_eq_true rfl) rfl ?_
  refine z_aload_n dX12_scans_19 rfl ?_
  refine z_iload_n dX12_scans_20 rfl ?_
  refine z_iload_n dX12_scans_21 rfl ?_
  refine z_callV2i dX12_scans_22 kX12_isOf lX12_136 (by first | assumption | exact And.left (by assumption)) rfl (s_isOf hm0 hi x2 hb (by omega) hat) (Nat.le_of_ble_eq_true rfl) (Nat.le_of_ble_eq_true rfl) ⟨Nat.le_of_ble_eq_true rfl, Nat.le_of_ble_eq_true rfl⟩ ?_
  refine z_if_eqB (tgt := 41) dX12_scans_25 (by decide) (fun c_25 => ?_) (fun c_25 => ?_)
  · have eE : xInc (eo x.2.1 (vat (v x.1.2.2.1) x.1.2.1) x.1.2.2.1) x = x := by rw [eo_n c_25] <;> rfl
    first
      | (have e9 : xScan v x = (if 48 ≤ x.1.2.2.1 + 1 then xGo (xRow1 x) else xRow1 x) := by unfold xScan; rw [eE]
         rw [e9]
         exact lp_scan41 hm0 hi hx0 h1 hn hrd)
      | (have e9 : xScan v x = (if 48 ≤ x.1.2.2.1 + 1 then xGo (xRow1 (x.1, x.2.1, inc (rk x.2.1.1 q 3 * 64 + x.1.2.2.1) x.2.2.1, x.2.2.2)) else xRow1 (x.1, x.2.1, inc (rk x.2.1.1 q 3 * 64 + x.1.2.2.1) x.2.2.1, x.2.2.2)) := by unfold xScan; rw [eE]
         rw [e9]
         exact (lp_scan41 hm0 hi hx2 h1 hn hrd).mono (fun r2 L2 V3 n2 h3 => ⟨h3.1, h3.2.1, h3.2.2.1, ((oX.ky hV1.1).trans e2.x).trans h3.2.2.2.1, h3.2.2.2.2⟩))
  · obtain ⟨q, hq⟩ := iso_some c_25
    rw [hq] at hat c_25
    have hq2 := hat.2.1
    have ec : (eo x.2.1 (vat (v x.1.2.2.1) x.1.2.1) x.1.2.2.1) = some (rk x.2.1.1 q 3 * 64 + x.1.2.2.1) := by rw [hq]; exact eo_y c_25
    have eE : xInc (eo x.2.1 (vat (v x.1.2.2.1) x.1.2.1) x.1.2.2.1) x = (x.1, x.2.1, inc (rk x.2.1.1 q 3 * 64 + x.1.2.2.1) x.2.2.1, x.2.2.2) := by rw [ec] <;> rfl
    have hcc := hcap _ ec
    refine z_aload_n dX12_scans_28 rfl ?_
    refine z_iload_n dX12_scans_29 rfl ?_
    refine z_iload_n dX12_scans_30 rfl ?_
    refine z_callV2w dX12_scans_31 kX12_laysKey lX12_133 (by first | assumption | exact And.left (by assumption)) rfl (s_lk hm0 hi x2 hb (by omega) hat) (Nat.le_of_ble_eq_true rfl) (Nat.le_of_ble_eq_true rfl) ⟨Nat.le_of_ble_eq_true rfl, Nat.le_of_ble_eq_true rfl⟩ ?_
    intro V1 hV1
    have hA : V1 (m + 1) = V (m + 1) := hV1.1 (m + 1) (by omega)
    have hx1 : MX (V1 (m + 1)) (2140 + 1600 * i) x := by rw [hA]; exact hx0
    refine z_aload_n dX12_scans_34 rfl ?_
    refine z_iload_n dX12_scans_35 rfl ?_
    refine z_iconst (v := nI 1) dX12_scans_36 rfl ?_
    refine z_iload_n dX12_scans_37 rfl ?_
    refine z_callV3w dX12_scans_38 kX12_does lX12_130 (by first | assumption | exact And.left (by assumption)) rfl (s_does1 hm0 hi hn hx1.2.1 hb hx1.2.2.1 xb.1 xb.2.2.2.2.1 hV1.2 (RV_rk hq2) (fun _ => hcc)) (Nat.le_of_ble_eq_true rfl) (Nat.le_of_ble_eq_true rfl) ⟨Nat.le_of_ble_eq_true rfl, Nat.le_of_ble_eq_true rfl⟩ ?_
    intro V2 hV2
    obtain ⟨e2, t2⟩ := hV2
    rw [if_pos rfl] at t2
    have hx2 := MX_e hx1 t2 (inc_len xb.1) (fun c hc => by
      rcases inc_mem hc with q1 | q1
      · rw [q1]
        have hr3 := RV_rk (d := x.2.1) hq2
        exact ⟨by have := hr3.1; omega, by rw [show (rk x.2.1.1 q 3 * 64 + x.1.2.2.1) / 64 = rk x.2.1.1 q 3 by omega]; exact hr3⟩
      · exact ⟨xb.2.2.2.1.1 c q1, xb.2.2.2.2.1 c q1⟩) e2.2
    first
      | (have e9 : xScan v x = (if 48 ≤ x.1.2.2.1 + 1 then xGo (xRow1 x) else xRow1 x) := by unfold xScan; rw [eE]
         rw [e9]
         exact lp_scan41 hm0 hi hx0 h1 hn hrd)
      | (have e9 : xScan v x = (if 48 ≤ x.1.2.2.1 + 1 then xGo (xRow1 (x.1, x.2.1, inc (rk x.2.1.1 q 3 * 64 + x.1.2.2.1) x.2.2.1, x.2.2.2)) else xRow1 (x.1, x.2.1, inc (rk x.2.1.1 q 3 * 64 + x.1.2.2.1) x.2.2.1, x.2.2.2)) := by unfold xScan; rw [eE]
         rw [e9]
         exact (lp_scan41 hm0 hi hx2 h1 hn hrd).mono (fun r2 L2 V3 n2 h3 => ⟨h3.1, h3.2.1, h3.2.2.1, ((oX.ky hV1.1).trans e2.x).trans h3.2.2.2.1, h3.2.2.2.2⟩))

