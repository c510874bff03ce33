/-! the reference, on: alike keys, what a change means to an index, units -/
theorem rk_alike {d : Df} {a b : Nat} (hb : Dfb d) (ha : a < 1000000) (hb2 : b < 1000000) : rk d.1 a 3 = rk d.1 b 3 ↔ ∀ k, k < d.1.length → pt a (d.1.getD k (0, false)).1 = pt b (d.1.getD k (0, false)).1 := by
  constructor
  · intro e k hk
    rw [← kr_rk hb ha hk, ← kr_rk hb hb2 hk, e]
  · intro e
    refine pt_eq (rk_3 d.1 ha).2.2 (rk_3 d.1 hb2).2.2 (fun k hk => ?_)
    rw [pt_rk ha hk, pt_rk hb2 hk]
    unfold rs
    split
    · rename_i q
      rw [e k q]
    · rfl
theorem eo_y {d : Df} {a r : Nat} (h : iso d (some a)) : eo d (some a) r = some (rk d.1 a 3 * 64 + r) := if_neg h
theorem eo_n {d : Df} {v : Option Nat} {r : Nat} (h : ¬ iso d v) : eo d v r = none := Classical.byContradiction (fun q => h (iso_eo.mpr q))
theorem iso_some {d : Df} {v : Option Nat} (h : iso d v) : ∃ a, v = some a := by
  cases v with
  | none => exact h.elim
  | some a => exact ⟨a, rfl⟩
noncomputable def xChg (vo vn : Option Nat) (r : Nat) (y : Ix) : Ix := @ite _ (eo y.2.1 vo r = eo y.2.1 vn r) (Classical.propDecidable _) y (xKO (eo y.2.1 vn r) True (xKO (eo y.2.1 vo r) False y))

set_option maxHeartbeats 4000000 in
set_option maxRecDepth 100000 in
theorem lp_mAlike {D : zD} {z0 nx : Nat} {L : zL} {V : zV} {V1 : zV} {m i p p2 a b : Nat} {d : Df} (hm : sM L m) (hi : i < 2) (hd : MXd (V (m + 1)) (2140 + 1600 * i) d) (hb : Dfb d) (hp : p + 5 ≤ 5343) (hp2 : p2 + 5 ≤ 5343) (ha : AT (V (m + 1)) p (some a)) (hb2 : AT (V (m + 1)) p2 (some b)) (e1 : zEq V V1 (m + 4) (m + 5)) (hk : KR V1 m d (rk d.1 a 3)) : ∀ (fu : Nat) (j : Nat), d.1.length - j = fu → j ≤ d.1.length → (∀ k, k < j → pt a (d.1.getD k (0, false)).1 = pt b (d.1.getD k (0, false)).1) → Z D z0 4 0 0 mX12_areAlike 0 0 9 [some (.ref m), some (.int (nI i)), some (.int (nI p)), some (.int (nI p2)), some (.int (nI j))] [] L V1 nx (zq (some (.int (zb (rk d.1 a 3 = rk d.1 b 3)))) L nx (fun V' => zEq V V' (m + 4) (m + 5))) := by
  intro fu
  induction fu using Nat.strongRecOn with
  | ind fu ih =>
    intro j h_fu h_0 h_1
    have hm0 := hm
    obtain ⟨a0, a1, a2, a3, a4, a5, a6, a7, a8, a9, a10, a11, a12, a13, a14, a15⟩ := hm
    have hA : V1 (m + 1) = V (m + 1) := e1 (m + 1) (by omega)
    have hd1 : MXd (V1 (m + 1)) (2140 + 1600 * i) d := by rw [hA]; exact hd
    have hb0 := hb
    obtain ⟨b1, b2, b3, b4, b5⟩ := hb
    obtain ⟨s1, s2, s3⟩ := ha
    obtain ⟨t1, t2, t3⟩ := hb2
    have hal := rk_alike hb0 s2 t2
    refine z_iload dX12_areAlike_9 rfl ?_
    refine z_aload_n dX12_areAlike_11 rfl ?_
    refine z_iload_n dX12_areAlike_12 rfl ?_
    refine z_iconst (v := nI 5) dX12_areAlike_13 rfl ?_
    refine z_callV2i dX12_areAlike_14 kX12_ofIndex lX12_104 (by first | assumption | exact And.left (by assumption)) rfl (s_ofIx hm0 hi (by omega) hd1.2.1) (Nat.le_of_ble_eq_true rfl) (Nat.le_of_ble_eq_true rfl) ⟨Nat.le_of_ble_eq_true rfl, Nat.le_of_ble_eq_true rfl⟩ ?_
    refine z_icmp_geN (tgt := 54) dX12_areAlike_17 (by decide) (by omega) (by omega) (fun c_17 => ?_) (fun c_17 => ?_)
    · refine z_iconst (v := nI 1) dX12_areAlike_54 rfl ?_
      refine z_zreturn dX12_areAlike_55 (Nat.le_of_ble_eq_true rfl) (Nat.le_of_ble_eq_true rfl) rfl (by first | exact Or.inl rfl | exact Or.inr rfl | exact zb_01 _ | assumption) ?_
      exact ⟨by rw [zb_t (hal.mpr (fun k hk2 => h_1 k (by omega)))] <;> rfl, rfl, rfl, e1⟩
    · have b2j := b2 j c_17
      have tv := t3 (d.1.getD j (0, false)).1 b2j
      have kv := hk j c_17
      rw [kr_rk hb0 s2 c_17] at kv
      have pb1 := pt_lt (d.1.getD j (0, false)).1 t2
      have pb2 := pt_lt (d.1.getD j (0, false)).1 s2
      refine z_aload_n dX12_areAlike_20 rfl ?_
      refine z_getR dX12_areAlike_21 fX12_13 (by first | assumption | exact And.left (by assumption)) rfl ?_
      refine z_iload_n dX12_areAlike_24 rfl ?_
      refine z_iconst (v := nI 2) dX12_areAlike_25 rfl ?_
      refine z_addN dX12_areAlike_26 ?_
      refine z_aload_n dX12_areAlike_27 rfl ?_
      refine z_iload_n dX12_areAlike_28 rfl ?_
      refine z_iload dX12_areAlike_29 rfl ?_
      refine z_callV2i dX12_areAlike_31 kX12_columnOf lX12_111 (by first | assumption | exact And.left (by assumption)) rfl (s_mCol hm0 hi hd1 hb0 c_17) (Nat.le_of_ble_eq_true rfl) (Nat.le_of_ble_eq_true rfl) ⟨Nat.le_of_ble_eq_true rfl, Nat.le_of_ble_eq_true rfl⟩ ?_
      refine z_addN dX12_areAlike_34 ?_
      refine z_ialdN dX12_areAlike_35 (by first | assumption | exact And.left (by assumption)) (by omega) (by decide) ((congrFun hA _).trans tv) ?_
      refine z_aload_n dX12_areAlike_36 rfl ?_
      refine z_getR dX12_areAlike_37 fX12_25 (by first | assumption | exact And.left (by assumption)) rfl ?_
      refine z_iload dX12_areAlike_40 rfl ?_
      refine z_ialdN dX12_areAlike_42 (by first | assumption | exact And.left (by assumption)) (by omega) (by decide) kv ?_
      refine z_icmp_eqN (tgt := 48) dX12_areAlike_43 (by decide) (by omega) (by omega) (fun c_43 => ?_) (fun c_43 => ?_)
      · have hE : pt a (d.1.getD j (0, false)).1 = pt b (d.1.getD j (0, false)).1 := by omega
        refine z_incN dX12_areAlike_48 rfl rfl ?_
        refine z_goto (tgt := 9) dX12_areAlike_51 (by decide) ?_
        refine ih _ (by omega) (j + 1) rfl (by omega) (fun k hk2 => ?_)
        by_cases e : k = j
        · subst e
          exact hE
        · exact h_1 k (by omega)
      · have hF : ¬ rk d.1 a 3 = rk d.1 b 3 := fun z => c_43 ((hal.mp z) j c_17).symm
        refine z_iconst (v := nI 0) dX12_areAlike_46 rfl ?_
        refine z_zreturn dX12_areAlike_47 (Nat.le_of_ble_eq_true rfl) (Nat.le_of_ble_eq_true rfl) rfl (by first | exact Or.inl rfl | exact Or.inr rfl | exact zb_01 _ | assumption) ?_
        exact ⟨by rw [zb_f hF] <;> rfl, rfl, rfl, e1⟩

set_option maxHeartbeats 4000000 in
set_option maxRecDepth 100000 in
theorem s_mAlike {D : zD} {z0 nx : Nat} {L : zL} {V : zV} {m i p p2 a b : Nat} {d : Df} (hm : sM L m) (hi : i < 2) (hd : MXd (V (m + 1)) (2140 + 1600 * i) d) (hb : Dfb d) (hp : p + 5 ≤ 5343) (hp2 : p2 + 5 ≤ 5343) (ha : AT (V (m + 1)) p (some a)) (hb2 : AT (V (m + 1)) p2 (some b)) : Sp D z0 4 0 0 mX12_areAlike [.ref m, .int (nI i), .int (nI p), .int (nI p2)] L V nx (zq (some (.int (zb (rk d.1 a 3 = rk d.1 b 3)))) L nx (fun V' => zEq V V' (m + 4) (m + 5))) := by
  have hm0 := hm
  refine Sp.of 1 (by decide) rfl rfl (Nat.le_of_ble_eq_true rfl) ?_
  refine z_aload_n dX12_areAlike_0 rfl ?_
  refine z_iload_n dX12_areAlike_1 rfl ?_
  refine z_iload_n dX12_areAlike_2 rfl ?_
  refine z_callV2w dX12_areAlike_3 kX12_laysKey lX12_133 (by first | assumption | exact And.left (by assumption)) rfl (s_lk hm0 hi hd hb hp ha) (Nat.le_of_ble_eq_true rfl) (Nat.le_of_ble_eq_true rfl) ⟨Nat.le_of_ble_eq_true rfl, Nat.le_of_ble_eq_true rfl⟩ ?_
  intro V1 hV1
  refine z_iconst (v := nI 0) dX12_areAlike_6 rfl ?_
  refine z_istore dX12_areAlike_7 (Nat.le_of_ble_eq_true rfl) rfl ?_
  exact lp_mAlike hm0 hi hd hb hp hp2 ha hb2 hV1.1 hV1.2 _ 0 rfl (by omega) (fun k hk => absurd hk (by omega))

set_option maxHeartbeats 4000000 in
set_option maxRecDepth 100000 in
theorem lp_chg71 {D : zD} {z0 nx : Nat} {L : zL} {V : zV} {m i r pO pN : Nat} {vn : Option Nat} {x : Ix} (hm : sM L m) (hi : i < 2) (hr : r < 48) (hx : MX (V (m + 1)) (2140 + 1600 * i) x) {was : Int32} (hs : ¬ x.1.1 = 0) (hpN : pN + 5 ≤ 2140) (hN : AT (V (m + 1)) pN vn) (hcap : x.1.1 = 4 → ∀ c, eo x.2.1 vn r = some c → cap c x.2.2.1) : Z D z0 7 0 0 mX12_changes 0 0 71 [some (.ref m), some (.int (nI i)), some (.int (nI r)), some (.int (nI pO)), some (.int (nI pN)), some (.int was), some (.int (zb (iso x.2.1 vn))), none] [] L V nx (zq none L nx (fun V' => oX V V' m i ∧ MX (V' (m + 1)) (2140 + 1600 * i) (xKO (eo x.2.1 vn r) True x))) := by
  have hm0 := hm
  have hx0 := hx
  obtain ⟨x1, x2, x3, x4, x5, x6⟩ := hx
  have hb := x6.2.2.2.2.2.1
  refine z_iload dX12_changes_71 rfl ?_
  refine z_if_eqB (tgt := 92) dX12_changes_73 (by decide) (fun c_73 => ?_) (fun c_73 => ?_)
  · have e9 : xKO (eo x.2.1 vn r) True x = x := by rw [eo_n c_73] <;> rfl
    refine z_return dX12_changes_92 (Nat.le_of_ble_eq_true rfl) (Nat.le_of_ble_eq_true rfl) rfl ?_
    first
      | (rw [e9]; exact ⟨rfl, rfl, rfl, (oX.ky hV1.1).trans hV2.1, hV2.2⟩)
      | (rw [e9]; exact ⟨rfl, rfl, rfl, oX.rf, hx0⟩)
  · obtain ⟨b, rfl⟩ := iso_some c_73
    have e9 : xKO (eo x.2.1 (some b) r) True x = xKeep (rk x.2.1.1 b 3 * 64 + r) True x := by rw [eo_y c_73] <;> rfl
    have hb2 := hN.2.1
    refine z_aload_n dX12_changes_76 rfl ?_
    refine z_iload_n dX12_changes_77 rfl ?_
    refine z_iload dX12_changes_78 rfl ?_
    refine z_callV2w dX12_changes_80 kX12_laysKey lX12_133 (by first | assumption | exact And.left (by assumption)) rfl (s_lk hm0 hi x2 hb (by omega) hN) (Nat.le_of_ble_eq_true rfl) (Nat.le_of_ble_eq_true rfl) ⟨Nat.le_of_ble_eq_true rfl, Nat.le_of_ble_eq_true rfl⟩ ?_
    intro V1 hV1
    have hA : V1 (m + 1) = V (m + 1) := hV1.1 (m + 1) (by omega)
    have hx1 : MX (V1 (m + 1)) (2140 + 1600 * i) x := by rw [hA]; exact hx0
    refine z_aload_n dX12_changes_83 rfl ?_
    refine z_iload_n dX12_changes_84 rfl ?_
    refine z_iconst (v := nI 1) dX12_changes_85 rfl ?_
    refine z_iload_n dX12_changes_86 rfl ?_
    refine z_callV3q dX12_changes_87 kX12_tells lX12_142 (by first | assumption | exact And.left (by assumption)) rfl (s_tell1 hm0 hi hx1 hr hV1.2 (RV_rk hb2) hs (fun z => hcap z _ (eo_y c_73))) (Nat.le_of_ble_eq_true rfl) (Nat.le_of_ble_eq_true rfl) ⟨Nat.le_of_ble_eq_true rfl, Nat.le_of_ble_eq_true rfl⟩ ?_
    intro V2 hV2
    refine z_istore dX12_changes_90 (Nat.le_of_ble_eq_true rfl) rfl ?_
    refine z_return dX12_changes_92 (Nat.le_of_ble_eq_true rfl) (Nat.le_of_ble_eq_true rfl) rfl ?_
    first
      | (rw [e9]; exact ⟨rfl, rfl, rfl, (oX.ky hV1.1).trans hV2.1, hV2.2⟩)
      | (rw [e9]; exact ⟨rfl, rfl, rfl, oX.rf, hx0⟩)

set_option maxHeartbeats 4000000 in
set_option maxRecDepth 100000 in
theorem lp_chg49 {D : zD} {z0 nx : Nat} {L : zL} {V : zV} {m i r pO pN : Nat} {vo vn : Option Nat} {x : Ix} (hm : sM L m) (hi : i < 2) (hr : r < 48) (hx : MX (V (m + 1)) (2140 + 1600 * i) x) (hs : ¬ x.1.1 = 0) (hpO : pO + 5 ≤ 2140) (hO : AT (V (m + 1)) pO vo) (hpN : pN + 5 ≤ 2140) (hN : AT (V (m + 1)) pN vn) (hcap : x.1.1 = 4 → ∀ c, eo x.2.1 vn r = some c → cap c (xKO (eo x.2.1 vo r) False x).2.2.1) : Z D z0 7 0 0 mX12_changes 0 0 49 [some (.ref m), some (.int (nI i)), some (.int (nI r)), some (.int (nI pO)), some (.int (nI pN)), some (.int (zb (iso x.2.1 vo))), some (.int (zb (iso x.2.1 vn))), none] [] L V nx (zq none L nx (fun V' => oX V V' m i ∧ MX (V' (m + 1)) (2140 + 1600 * i) (xKO (eo x.2.1 vn r) True (xKO (eo x.2.1 vo r) False x)))) := by
  have hm0 := hm
  have hx0 := hx
  obtain ⟨x1, x2, x3, x4, x5, x6⟩ := hx
  have hb := x6.2.2.2.2.2.1
  refine z_iload dX12_changes_49 rfl ?_
  refine z_if_eqB (tgt := 71) dX12_changes_51 (by decide) (fun c_51 => ?_) (fun c_51 => ?_)
  · have eA : xKO (eo x.2.1 vo r) False x = x := by rw [eo_n c_51] <;> rfl
    first
      | (have hz := lp_chg71 (D := D) (z0 := z0) (nx := nx) (pO := pO) (was := zb (iso x.2.1 vo)) hm0 hi hr hx0 hs hpN hN (fun z c q => by have := hcap z c q; rw [eA] at this; exact this)
         rw [eA]
         exact hz)
      | (have hz := lp_chg71 (D := D) (z0 := z0) (nx := nx) (pO := pO) (was := zb (iso x.2.1 (some a))) hm0 hi hr hV2.2 c_67 hpN (hV2.1.at hpN (by rw [hA]; exact hN)) (fun z c q => by
           rw [(xKeep_d c_67).2] at z
           rw [(xKeep_d c_67).1] at q
           have := hcap z c q
           rw [eA] at this
           exact this)
         rw [(xKeep_d c_67).1] at hz
         rw [eA]
         exact hz.mono (fun r2 L2 V3 n2 h3 => ⟨h3.1, h3.2.1, h3.2.2.1, ((oX.ky hV1.1).trans hV2.1).trans h3.2.2.2.1, h3.2.2.2.2⟩))
  · obtain ⟨a, rfl⟩ := iso_some c_51
    have eA : xKO (eo x.2.1 (some a) r) False x = xKeep (rk x.2.1.1 a 3 * 64 + r) False x := by rw [eo_y c_51] <;> rfl
    have ha2 := hO.2.1
    refine z_aload_n dX12_changes_54 rfl ?_
    refine z_iload_n dX12_changes_55 rfl ?_
    refine z_iload_n dX12_changes_56 rfl ?_
    refine z_callV2w dX12_changes_57 kX12_laysKey lX12_133 (by first | assumption | exact And.left (by assumption)) rfl (s_lk hm0 hi x2 hb (by omega) hO) (Nat.le_of_ble_eq_true rfl) (Nat.le_of_ble_eq_true rfl) ⟨Nat.le_of_ble_eq_true rfl, Nat.le_of_ble_eq_true rfl⟩ ?_
    intro V1 hV1
    have hA : V1 (m + 1) = V (m + 1) := hV1.1 (m + 1) (by omega)
    have hx1 : MX (V1 (m + 1)) (2140 + 1600 * i) x := by rw [hA]; exact hx0
    refine z_aload_n dX12_changes_60 rfl ?_
    refine z_iload_n dX12_changes_61 rfl ?_
    refine z_iconst (v := nI 0) dX12_changes_62 rfl ?_
    refine z_iload_n dX12_changes_63 rfl ?_
    refine z_callV3q dX12_changes_64 kX12_tells lX12_142 (by first | assumption | exact And.left (by assumption)) rfl (s_tell0 hm0 hi hx1 hr hV1.2 (RV_rk ha2) hs) (Nat.le_of_ble_eq_true rfl) (Nat.le_of_ble_eq_true rfl) ⟨Nat.le_of_ble_eq_true rfl, Nat.le_of_ble_eq_true rfl⟩ ?_
    intro V2 hV2
    refine z_if_neB (tgt := 71) dX12_changes_67 (by decide) (fun c_67 => ?_) (fun c_67 => ?_)
    · first
        | (have hz := lp_chg71 (D := D) (z0 := z0) (nx := nx) (pO := pO) (was := zb (iso x.2.1 vo)) hm0 hi hr hx0 hs hpN hN (fun z c q => by have := hcap z c q; rw [eA] at this; exact this)
           rw [eA]
           exact hz)
        | (have hz := lp_chg71 (D := D) (z0 := z0) (nx := nx) (pO := pO) (was := zb (iso x.2.1 (some a))) hm0 hi hr hV2.2 c_67 hpN (hV2.1.at hpN (by rw [hA]; exact hN)) (fun z c q => by
             rw [(xKeep_d c_67).2] at z
             rw [(xKeep_d c_67).1] at q
             have := hcap z c q
             rw [eA] at this
             exact this)
           rw [(xKeep_d c_67).1] at hz
           rw [eA]
           exact hz.mono (fun r2 L2 V3 n2 h3 => ⟨h3.1, h3.2.1, h3.2.2.1, ((oX.ky hV1.1).trans hV2.1).trans h3.2.2.2.1, h3.2.2.2.2⟩))
    · have c_68 : (xKeep (rk x.2.1.1 a 3 * 64 + r) False x).1.1 = 0 := Classical.byContradiction c_67
      refine z_return dX12_changes_70 (Nat.le_of_ble_eq_true rfl) (Nat.le_of_ble_eq_true rfl) rfl ?_
      have e9 : xKO (eo x.2.1 vn r) True (xKO (eo x.2.1 (some a) r) False x) = xKeep (rk x.2.1.1 a 3 * 64 + r) False x := by rw [eA, xKO_0 c_68]
      rw [e9]
      exact ⟨rfl, rfl, rfl, (oX.ky hV1.1).trans hV2.1, hV2.2⟩

set_option maxHeartbeats 4000000 in
set_option maxRecDepth 100000 in
theorem s_chg {D : zD} {z0 nx : Nat} {L : zL} {V : zV} {m i r pO pN : Nat} {vo vn : Option Nat} {x : Ix} (hm : sM L m) (hi : i < 2) (hr : r < 48) (hx : MX (V (m + 1)) (2140 + 1600 * i) x) (hpO : pO + 5 ≤ 2140) (hO : AT (V (m + 1)) pO vo) (hpN : pN + 5 ≤ 2140) (hN : AT (V (m + 1)) pN vn) (hcap : x.1.1 = 4 → ∀ c, eo x.2.1 vn r = some c → ¬ eo x.2.1 vo r = eo x.2.1 vn r → cap c (xKO (eo x.2.1 vo r) False x).2.2.1) : Sp D z0 7 0 0 mX12_changes [.ref m, .int (nI i), .int (nI r), .int (nI pO), .int (nI pN)] L V nx (zq none L nx (fun V' => oX V V' m i ∧ MX (V' (m + 1)) (2140 + 1600 * i) (xChg vo vn r x))) := by
  have hm0 := hm
  have hx0 := hx
  obtain ⟨x1, x2, x3, x4, x5, x6⟩ := hx
  have hb := x6.2.2.2.2.2.1
  refine Sp.of 3 (by decide) rfl rfl (Nat.le_of_ble_eq_true rfl) ?_
  refine z_aload_n dX12_changes_0 rfl ?_
  refine z_iload_n dX12_changes_1 rfl ?_
  refine z_iconst (v := nI 0) dX12_changes_2 rfl ?_
  refine z_callV2i dX12_changes_3 kX12_ofIndex lX12_104 (by first | assumption | exact And.left (by assumption)) rfl (s_ofIx hm0 hi (by omega) x1.1) (Nat.le_of_ble_eq_true rfl) (Nat.le_of_ble_eq_true rfl) ⟨Nat.le_of_ble_eq_true rfl, Nat.le_of_ble_eq_true rfl⟩ ?_
  have hs6 := x6.1
  refine z_if_neN (tgt := 10) dX12_changes_6 (by decide) (by omega) (fun c_6 => ?_) (fun c_6 => ?_)
  · have hs0 : ¬ x.1.1 = 0 := c_6
    refine z_aload_n dX12_changes_10 rfl ?_
    refine z_iload_n dX12_changes_11 rfl ?_
    refine z_iload_n dX12_changes_12 rfl ?_
    refine z_callV2i dX12_changes_13 kX12_isOf lX12_136 (by first | assumption | exact And.left (by assumption)) rfl (s_isOf hm0 hi x2 hb (by omega) hO) (Nat.le_of_ble_eq_true rfl) (Nat.le_of_ble_eq_true rfl) ⟨Nat.le_of_ble_eq_true rfl, Nat.le_of_ble_eq_true rfl⟩ ?_
    refine z_istore dX12_changes_16 (Nat.le_of_ble_eq_true rfl) rfl ?_
    refine z_aload_n dX12_changes_18 rfl ?_
    refine z_iload_n dX12_changes_19 rfl ?_
    refine z_iload dX12_changes_20 rfl ?_
    refine z_callV2i dX12_changes_22 kX12_isOf lX12_136 (by first | assumption | exact And.left (by assumption)) rfl (s_isOf hm0 hi x2 hb (by omega) hN) (Nat.le_of_ble_eq_true rfl) (Nat.le_of_ble_eq_true rfl) ⟨Nat.le_of_ble_eq_true rfl, Nat.le_of_ble_eq_true rfl⟩ ?_
    refine z_istore dX12_changes_25 (Nat.le_of_ble_eq_true rfl) rfl ?_
    refine z_iload dX12_changes_27 rfl ?_
    refine z_if_eqB (tgt := 49) dX12_changes_29 (by decide) (fun c_29 => ?_) (fun c_29 => ?_)
    · have hne9 : eo x.2.1 vo r = none := eo_n c_29
      first
        | (have hne : ¬ eo x.2.1 (some a) r = eo x.2.1 (some b) r := fun z => by
             rw [eo_y c_29, eo_y c_34] at z
             have := Option.some.inj z
             exact c_45 (by omega)
           have e8 : xChg (some a) (some b) r x = xKO (eo x.2.1 (some b) r) True (xKO (eo x.2.1 (some a) r) False x) := if_neg hne
           rw [e8]
           exact (lp_chg49 hm0 hi hr hx1 hs0 hpO (by rw [hA]; exact hO) hpN (by rw [hA]; exact hN) (fun z c q => hcap z c q hne)).mono (fun r2 L2 V3 n2 h3 => ⟨h3.1, h3.2.1, h3.2.2.1, (oX.ky hV1).trans h3.2.2.2.1, h3.2.2.2.2⟩))
        | (by_cases hne : eo x.2.1 vo r = eo x.2.1 vn r
           · have h1 : eo x.2.1 vo r = none := by first | exact hne9 | exact hne.trans hne9
             have h2 : eo x.2.1 vn r = none := by first | exact hne9 | exact hne.symm.trans hne9
             have e8 : xChg vo vn r x = xKO (eo x.2.1 vn r) True (xKO (eo x.2.1 vo r) False x) := by
               unfold xChg
               rw [if_pos hne, h1, h2] <;> rfl
             rw [e8]
             exact lp_chg49 hm0 hi hr hx0 hs0 hpO hO hpN hN (fun z c q => by rw [h2] at q; cases q)
           · have e8 : xChg vo vn r x = xKO (eo x.2.1 vn r) True (xKO (eo x.2.1 vo r) False x) := if_neg hne
             rw [e8]
             exact lp_chg49 hm0 hi hr hx0 hs0 hpO hO hpN hN (fun z c q => hcap z c q hne))
    · refine z_iload dX12_changes_32 rfl ?_
      refine z_if_eqB (tgt := 49) dX12_changes_34 (by decide) (fun c_34 => ?_) (fun c_34 => ?_)
      · have hne9 : eo x.2.1 vn r = none := eo_n c_34
        first
          | (have hne : ¬ eo x.2.1 (some a) r = eo x.2.1 (some b) r := fun z => by
               rw [eo_y c_29, eo_y c_34] at z
               have := Option.some.inj z
               exact c_45 (by omega)
             have e8 : xChg (some a) (some b) r x = xKO (eo x.2.1 (some b) r) True (xKO (eo x.2.1 (some a) r) False x) := if_neg hne
             rw [e8]
             exact (lp_chg49 hm0 hi hr hx1 hs0 hpO (by rw [hA]; exact hO) hpN (by rw [hA]; exact hN) (fun z c q => hcap z c q hne)).mono (fun r2 L2 V3 n2 h3 => ⟨h3.1, h3.2.1, h3.2.2.1, (oX.ky hV1).trans h3.2.2.2.1, h3.2.2.2.2⟩))
          | (by_cases hne : eo x.2.1 vo r = eo x.2.1 vn r
             · have h1 : eo x.2.1 vo r = none := by first | exact hne9 | exact hne.trans hne9
               have h2 : eo x.2.1 vn r = none := by first | exact hne9 | exact hne.symm.trans hne9
               have e8 : xChg vo vn r x = xKO (eo x.2.1 vn r) True (xKO (eo x.2.1 vo r) False x) := by
                 unfold xChg
                 rw [if_pos hne, h1, h2] <;> rfl
               rw [e8]
               exact lp_chg49 hm0 hi hr hx0 hs0 hpO hO hpN hN (fun z c q => by rw [h2] at q; cases q)
             · have e8 : xChg vo vn r x = xKO (eo x.2.1 vn r) True (xKO (eo x.2.1 vo r) False x) := if_neg hne
               rw [e8]
               exact lp_chg49 hm0 hi hr hx0 hs0 hpO hO hpN hN (fun z c q => hcap z c q hne))
      · obtain ⟨a, rfl⟩ := iso_some c_29
        obtain ⟨b, rfl⟩ := iso_some c_34
        refine z_aload_n dX12_changes_37 rfl ?_
        refine z_iload_n dX12_changes_38 rfl ?_
        refine z_iload_n dX12_changes_39 rfl ?_
        refine z_iload dX12_changes_40 rfl ?_
        refine z_callV3q dX12_changes_42 kX12_areAlike lX12_139 (by first | assumption | exact And.left (by assumption)) rfl (s_mAlike hm0 hi x2 hb (by omega) (by omega) hO hN) (Nat.le_of_ble_eq_true rfl) (Nat.le_of_ble_eq_true rfl) ⟨Nat.le_of_ble_eq_true rfl, Nat.le_of_ble_eq_true rfl⟩ ?_
        intro V1 hV1
        have hA : V1 (m + 1) = V (m + 1) := hV1 (m + 1) (by omega)
        have hx1 : MX (V1 (m + 1)) (2140 + 1600 * i) x := by rw [hA]; exact hx0
        refine z_if_eqB (tgt := 49) dX12_changes_45 (by decide) (fun c_45 => ?_) (fun c_45 => ?_)
        · first
            | (have hne : ¬ eo x.2.1 (some a) r = eo x.2.1 (some b) r := fun z => by
                 rw [eo_y c_29, eo_y c_34] at z
                 have := Option.some.inj z
                 exact c_45 (by omega)
               have e8 : xChg (some a) (some b) r x = xKO (eo x.2.1 (some b) r) True (xKO (eo x.2.1 (some a) r) False x) := if_neg hne
               rw [e8]
               exact (lp_chg49 hm0 hi hr hx1 hs0 hpO (by rw [hA]; exact hO) hpN (by rw [hA]; exact hN) (fun z c q => hcap z c q hne)).mono (fun r2 L2 V3 n2 h3 => ⟨h3.1, h3.2.1, h3.2.2.1, (oX.ky hV1).trans h3.2.2.2.1, h3.2.2.2.2⟩))
            | (by_cases hne : eo x.2.1 vo r = eo x.2.1 vn r
               · have h1 : eo x.2.1 vo r = none := by first | exact hne9 | exact hne.trans hne9
                 have h2 : eo x.2.1 vn r = none := by first | exact hne9 | exact hne.symm.trans hne9
                 have e8 : xChg vo vn r x = xKO (eo x.2.1 vn r) True (xKO (eo x.2.1 vo r) False x) := by
                   unfold xChg
                   rw [if_pos hne, h1, h2] <;> rfl
                 rw [e8]
                 exact lp_chg49 hm0 hi hr hx0 hs0 hpO hO hpN hN (fun z c q => by rw [h2] at q; cases q)
               · have e8 : xChg vo vn r x = xKO (eo x.2.1 vn r) True (xKO (eo x.2.1 vo r) False x) := if_neg hne
                 rw [e8]
                 exact lp_chg49 hm0 hi hr hx0 hs0 hpO hO hpN hN (fun z c q => hcap z c q hne))
        · refine z_return dX12_changes_48 (Nat.le_of_ble_eq_true rfl) (Nat.le_of_ble_eq_true rfl) rfl ?_
          have e9 : xChg (some a) (some b) r x = x := if_pos (by rw [eo_y c_29, eo_y c_34, c_45])
          rw [e9]
          exact ⟨rfl, rfl, rfl, oX.ky hV1, hx1⟩
  · refine z_return dX12_changes_9 (Nat.le_of_ble_eq_true rfl) (Nat.le_of_ble_eq_true rfl) rfl ?_
    have c_9 : x.1.1 = 0 := by omega
    have e9 : xChg vo vn r x = x := by unfold xChg; rw [xKO_0 (x := x) c_9, xKO_0 c_9]; split <;> rfl
    rw [e9]
    exact ⟨rfl, rfl, rfl, oX.rf, hx0⟩

