/-! LateIndex, on: logs, keys, reads, counts; back -/
noncomputable def tbl (w : Wo) (i : Nat) : List Nat := gth (xof w i).2.1 (fun r => (lst w.1.2.1 r).2) 48
noncomputable def o_far (i : Int32) (w : Wo) : Int32 × Wo := cif (rng 2 i) (if (xof w (tn i)).1.1 = 0 then (-5, w) else (nI ((xof w (tn i)).2.2.1.length + (tbl w (tn i)).length - 2 * cn (sh2 (xof w (tn i)).2.2.1 (tbl w (tn i))) (xof w (tn i)).2.2.1.length), w)) (-2, w)
noncomputable def o_alike (i k j : Int32) (w : Wo) : Int32 × Wo := cif (rng 2 i) (cif (k < -1 ∨ j < 0) (-3, w) (if (xof w (tn i)).1.1 = 0 then (-5, w) else (if k = -1 then nI (cn (ot (tbl w (tn i))) (tbl w (tn i)).length) else rt (tbl w (tn i)) (tn k) (tn j), w))) (-2, w)
noncomputable def o_units (i x : Int32) (w : Wo) : Int32 × Wo := cif (rng 2 i) (cif (rng 6 x) (cif (und (xof w (tn i))) (ua (tn x) w.1.1.2.1 w.1.1.2.2 999 1 ((xof w (tn i)).1.1, (xof w (tn i)).1.2.2.1, (xof w (tn i)).1.2.2.2.1, (xof w (tn i)).2.2.2.1.length, (xof w (tn i)).2.2.2.2.length), w) (-5, w)) (-3, w)) (-2, w)
def fre (w : Wo) (r : Nat) : Prop := (lst w.1.2.1 r).2 = none ∧ ¬ ∃ k, k < 4 ∧ (w.1.2.2.1 k).2.2 r ≠ none
noncomputable def o_free (w : Wo) : Int32 × Wo := (if fs (fre w) 48 < 48 then nI (fs (fre w) 48) else -1, w)
noncomputable def o_undo (n : Int32) (w : Wo) : Int32 × Wo := cif (rng (w.2.1.length + 1) n ∧ ¬ n = 0) (nI (w.2.1.length - tn n), (w.2.1.getD (w.2.1.length - tn n) st0, w.2.1.take (w.2.1.length - tn n), w.2.2)) (-3, w)
noncomputable def o_image (i : Int32) (w : Wo) : Int32 × Wo := cif (rng 2 i) (0, (w.1, w.2.1, up1 w.2.2.1 (tn i) (some w.1), w.2.2.2)) (-2, w)
noncomputable def o_restore (i : Int32) (w : Wo) : Int32 × Wo := cif (rng 2 i) (match w.2.2.1 (tn i) with | none => (-6, w) | some s => (0, (s, [], w.2.2))) (-2, w)
noncomputable def cnv (w : Wo) (k : Nat) : Int32 := if k = 0 then nI (rth w) else if k = 1 then nI w.1.1.1 else if k = 2 then bo (fun t => (w.1.2.2.1 t).1 = true) 4 else if k = 3 then nI (sm (fun r => (w.1.2.1 r).length) 48) else if k = 4 then zb (∃ k, k < 2 ∧ (w.1.2.2.2 k).1.1 = 3) else if k = 5 then nI (tpb w).length else if k = 6 then nI w.2.1.length else if k = 7 then nI w.1.1.2.1 else nI w.1.1.2.2
def r10 (b : Nat) (x : Int32) : Prop := ∃ k, k < 4 ∧ x = nI (b + k)
noncomputable def o_count (x : Int32) (w : Wo) : Int32 × Wo := cif (r10 10 x) (nI (nwr (tof w (tn x - 10))), w) (cif (r10 20 x) (if (tof w (tn x - 20)).1 then nI (tof w (tn x - 20)).2.1 else -1, w) (cif (rng 9 x) (cnv w (tn x), w) (-1, w)))
theorem getD_take {l : List St} {n k : Nat} (h : k < n) : (l.take n).getD k st0 = l.getD k st0 := by
  rw [List.getD_eq_getElem?_getD, List.getD_eq_getElem?_getD, List.getElem?_take_of_lt h]

def lga (b h : Nat) : Nat := if h = 0 then b + 8 else b + 10
theorem lgo_lg {V : zV} {b h : Nat} {x : Ix} (hx : IX V b x) (hh : h < 2) : ∃ f, LG V (lga b h) f (lgo x h) := by
  obtain ⟨-, -, -, ⟨f, h4⟩, h5⟩ := hx
  rcases (show h = 0 ∨ h = 1 by omega) with rfl | rfl
  · exact ⟨f, h4⟩
  · exact ⟨0, h5⟩
theorem lgo_s {L : zL} {b h : Nat} (hs : sIx L b) (hh : h < 2) : sLg L (lga b h) := by
  obtain ⟨-, -, -, h4, h5⟩ := hs
  rcases (show h = 0 ∨ h = 1 by omega) with rfl | rfl
  · exact h4
  · exact h5
theorem lgo_c {x : Ix} {h k : Nat} (hc : cdb x) (hk : k < (lgo x h).length) : (lgo x h).getD k 0 < 128000000 := by
  unfold lgo at *
  split
  · rename_i e; rw [if_pos e] at hk; exact hc.2.1 _ (mem_getD hk)
  · rename_i e; rw [if_neg e] at hk; exact hc.2.2 _ (mem_getD hk)

set_option maxHeartbeats 4000000 in
set_option maxRecDepth 100000 in
theorem c_logged {D : zD} {z0 nx : Nat} {L : zL} {V : zV} {a : Nat} {sw : Bool} {w : Wo} (hs : sLI L a sw) (h : LI V a sw w) {i : Int32} {g : Int32} {k : Int32} {x : Int32} (hcd : ∀ i, i < 2 → cdb (xof w i)) : Sp D z0 5 0 0 mX11_logged [.ref a, .int i, .int g, .int k, .int x] L V nx (zq (some (.int (o_logged i g k x w).1)) L nx (fun V' => zEq V V' a (a + 471) ∧ LI V' a sw (o_logged i g k x w).2)) := by
  have hs0 := hs
  have h0 := h
  obtain ⟨l1, l2, l3, l4, l5, l6, l7, l8, l9, l10, l11, l12⟩ := hs
  obtain ⟨k1, k2, k3, k4, k5, k6, k7, k8⟩ := h
  have l20 := l2
  obtain ⟨s1, s2, s3, s4, s5, s6, s7⟩ := l2
  have k10 := k1
  obtain ⟨v1, v2, v3, v4⟩ := k1
  refine Sp.of 3 (by decide) rfl rfl (Nat.le_of_ble_eq_true rfl) ?_
  refine z_iload_n dX11_logged_0 rfl ?_
  refine z_callS1i dX11_logged_1 kX11_isIndex lX11_144 s_isIx (Nat.le_of_ble_eq_true rfl) (Nat.le_of_ble_eq_true rfl) ⟨Nat.le_of_ble_eq_true rfl, Nat.le_of_ble_eq_true rfl⟩ ?_
  refine z_if_eqB (tgt := 27) dX11_logged_4 (by decide) (fun c_4 => ?_) (fun c_4 => ?_)
  · refine z_bipush (v := (-2)) dX11_logged_27 rfl ?_
    refine z_ireturn dX11_logged_29 (Nat.le_of_ble_eq_true rfl) (Nat.le_of_ble_eq_true rfl) rfl ?_
    rw [show o_logged i g k x w = (-2, w) from by unfold o_logged; rw [cif_n (fun q => by first | exact c_4 q.1 | exact rng_n1 (by decide) c_8 q.2.1 | exact rng_gt (by decide) (Int32.not_le.mpr c_13) q.2.1 | exact rng_n1 (by decide) c_18 q.2.2 | exact rng_gt (by decide) c_24 q.2.2)]]
    exact ⟨rfl, rfl, rfl, zEq.rf, h0⟩
  · refine z_iload_n dX11_logged_7 rfl ?_
    refine z_if_lt (tgt := 27) dX11_logged_8 (by decide) (fun c_8 => ?_) (fun c_8 => ?_)
    · refine z_bipush (v := (-2)) dX11_logged_27 rfl ?_
      refine z_ireturn dX11_logged_29 (Nat.le_of_ble_eq_true rfl) (Nat.le_of_ble_eq_true rfl) rfl ?_
      rw [show o_logged i g k x w = (-2, w) from by unfold o_logged; rw [cif_n (fun q => by first | exact c_4 q.1 | exact rng_n1 (by decide) c_8 q.2.1 | exact rng_gt (by decide) (Int32.not_le.mpr c_13) q.2.1 | exact rng_n1 (by decide) c_18 q.2.2 | exact rng_gt (by decide) c_24 q.2.2)]]
      exact ⟨rfl, rfl, rfl, zEq.rf, h0⟩
    · refine z_iload_n dX11_logged_11 rfl ?_
      refine z_iconst (v := nI 1) dX11_logged_12 rfl ?_
      refine z_icmp_gt (tgt := 27) dX11_logged_13 (by decide) (fun c_13 => ?_) (fun c_13 => ?_)
      · refine z_bipush (v := (-2)) dX11_logged_27 rfl ?_
        refine z_ireturn dX11_logged_29 (Nat.le_of_ble_eq_true rfl) (Nat.le_of_ble_eq_true rfl) rfl ?_
        rw [show o_logged i g k x w = (-2, w) from by unfold o_logged; rw [cif_n (fun q => by first | exact c_4 q.1 | exact rng_n1 (by decide) c_8 q.2.1 | exact rng_gt (by decide) (Int32.not_le.mpr c_13) q.2.1 | exact rng_n1 (by decide) c_18 q.2.2 | exact rng_gt (by decide) c_24 q.2.2)]]
        exact ⟨rfl, rfl, rfl, zEq.rf, h0⟩
      · have c_h : rng 2 g := rng_le (n := 1) (by decide) c_8 (Int32.not_lt.mp c_13)
        refine z_iload dX11_logged_16 rfl ?_
        refine z_if_lt (tgt := 27) dX11_logged_18 (by decide) (fun c_18 => ?_) (fun c_18 => ?_)
        · refine z_bipush (v := (-2)) dX11_logged_27 rfl ?_
          refine z_ireturn dX11_logged_29 (Nat.le_of_ble_eq_true rfl) (Nat.le_of_ble_eq_true rfl) rfl ?_
          rw [show o_logged i g k x w = (-2, w) from by unfold o_logged; rw [cif_n (fun q => by first | exact c_4 q.1 | exact rng_n1 (by decide) c_8 q.2.1 | exact rng_gt (by decide) (Int32.not_le.mpr c_13) q.2.1 | exact rng_n1 (by decide) c_18 q.2.2 | exact rng_gt (by decide) c_24 q.2.2)]]
          exact ⟨rfl, rfl, rfl, zEq.rf, h0⟩
        · refine z_iload dX11_logged_21 rfl ?_
          refine z_iconst (v := nI 4) dX11_logged_23 rfl ?_
          refine z_icmp_le (tgt := 30) dX11_logged_24 (by decide) (fun c_24 => ?_) (fun c_24 => ?_)
          · have c_x : rng 5 x := rng_le (n := 4) (by decide) c_18 c_24
            refine z_iload_n dX11_logged_30 rfl ?_
            refine z_if_ge (tgt := 37) dX11_logged_31 (by decide) (fun c_31 => ?_) (fun c_31 => ?_)
            · have hge : ¬ k < 0 := Int32.not_lt.mpr c_31
              have hR : o_logged i g k x w = cif (rng (lgo (xof w (tn i)) (tn g)).length k) (lgv (xof w (tn i)).2.1 ((lgo (xof w (tn i)) (tn g)).getD (tn k) 0) (tn x), w) (-1, w) := by unfold o_logged; rw [cif_y ⟨c_4, c_h, c_x⟩, if_neg hge]
              obtain ⟨hk1, hk2⟩ := nn_k hge
              obtain ⟨i0, hi, rfl⟩ := c_4
              have hT := tn_k (k := i0) (by omega)
              obtain ⟨x0i, hx0, rfl⟩ := c_x
              obtain ⟨h0i, hh0, rfl⟩ := c_h
              rw [hT, tn_k (k := x0i) (by omega), tn_k (k := h0i) (by omega)] at hR
              have q1 := i2_at (a + 1) i0 (by omega)
              have p1 := s7 i0 (by omega)
              have p2 := p1.1
              have x0 := v4 i0 (by omega)
              obtain ⟨⟨⟨x1, x2, x3, x4, x5⟩, x6, x7, x8, x9, x10⟩, xd, xe, xn, xl⟩ := v4 i0 (by omega)
              generalize htk : tn k = kk at *
              subst hk1
              obtain ⟨lf, hlg⟩ := lgo_lg x0 hh0
              have hsl := lgo_s p1 hh0
              have n1 := hlg.2.1
              have n120 := hlg.2.2.1
              refine z_aload_n dX11_logged_37 rfl ?_
              refine z_getR dX11_logged_38 fX11_10 (by first | assumption | exact And.left (by assumption)) rfl ?_
              refine z_getR dX11_logged_41 fX11_147 (by first | assumption | exact And.left (by assumption)) rfl ?_
              refine z_iload_n dX11_logged_44 rfl ?_
              refine z_aaldN dX11_logged_45 (by first | assumption | exact And.left (by assumption)) (fun _ => rfl) (by exact Nat.le_of_ble_eq_true rfl) (by assumption) ?_
              refine z_astore dX11_logged_46 (Nat.le_of_ble_eq_true rfl) rfl ?_
              refine z_iload_n dX11_logged_48 rfl ?_
              refine z_if_neN (tgt := 60) dX11_logged_49 (by decide) (by omega) (fun c_49 => ?_) (fun c_49 => ?_)
              · have eL : lga (a + 1 + 16 + 12 * i0) h0i = a + 1 + 16 + 12 * i0 + 10 := if_neg c_49
                refine z_aload dX11_logged_60 rfl ?_
                refine z_getR dX11_logged_62 fX11_213 (by first | assumption | exact And.left (by assumption)) rfl ?_
                rw [eL] at hlg hsl n1
                have n1b := n1
                obtain ⟨t1, t2⟩ := hsl
                have hsl2 : sLg L _ := ⟨t1, t2⟩
                refine z_astore dX11_logged_65 (Nat.le_of_ble_eq_true rfl) rfl ?_
                refine z_iload_n dX11_logged_67 rfl ?_
                refine z_aload dX11_logged_68 rfl ?_
                refine z_getIe dX11_logged_70 fX11_210 t1 rfl n1b ?_
                refine z_icmp_ltN (tgt := 78) dX11_logged_73 (by decide) (by omega) (by omega) (fun c_73 => ?_) (fun c_73 => ?_)
                · refine z_aload dX11_logged_78 rfl ?_
                  refine z_iload_n dX11_logged_80 rfl ?_
                  refine z_callV1i dX11_logged_81 kX2_itemAt lX11_233 t1 rfl (s_itemAt hsl2 hlg (by omega)) (Nat.le_of_ble_eq_true rfl) (Nat.le_of_ble_eq_true rfl) ⟨Nat.le_of_ble_eq_true rfl, Nat.le_of_ble_eq_true rfl⟩ ?_
                  have hcc := lgo_c (h := h0i) (hcd i0 hi) (k := kk) (by unfold xof; omega)
                  unfold xof at hcc
                  have hRy := cif_y (x := (lgv (xof w i0).2.1 ((lgo (xof w i0) h0i).getD kk 0) x0i, w)) (y := (-1, w)) (show rng (lgo (xof w i0) h0i).length (nI kk) from ⟨kk, by unfold xof; omega, rfl⟩)
                  refine z_istore dX11_logged_84 (Nat.le_of_ble_eq_true rfl) rfl ?_
                  refine z_iload dX11_logged_86 rfl ?_
                  refine z_if_neN (tgt := 105) dX11_logged_88 (by decide) (by omega) (fun c_88 => ?_) (fun c_88 => ?_)
                  · refine z_aload dX11_logged_105 rfl ?_
                    refine z_getR dX11_logged_107 fX11_219 (by first | assumption | exact And.left (by assumption)) rfl ?_
                    refine z_iload dX11_logged_110 rfl ?_
                    refine z_callS1i dX11_logged_112 kX2_codeIn lX11_239 (s_codeIn (by omega)) (Nat.le_of_ble_eq_true rfl) (Nat.le_of_ble_eq_true rfl) ⟨Nat.le_of_ble_eq_true rfl, Nat.le_of_ble_eq_true rfl⟩ ?_
                    refine z_iload dX11_logged_115 rfl ?_
                    refine z_iconst (v := nI 1) dX11_logged_117 rfl ?_
                    refine z_subN dX11_logged_118 (by omega) ?_
                    refine z_callV2i dX11_logged_119 kX1_partOfEntry lX11_230 (And.left p1.2.1) rfl (s_partOfEntry p1.2.1 xd (by omega) (by omega)) (Nat.le_of_ble_eq_true rfl) (Nat.le_of_ble_eq_true rfl) ⟨Nat.le_of_ble_eq_true rfl, Nat.le_of_ble_eq_true rfl⟩ ?_
                    refine z_ireturn dX11_logged_122 (Nat.le_of_ble_eq_true rfl) (Nat.le_of_ble_eq_true rfl) rfl ?_
                    rw [hR, hRy, lgv, if_neg c_88]
                    exact ⟨rfl, rfl, rfl, zEq.rf, h0⟩
                  · refine z_iload dX11_logged_91 rfl ?_
                    refine z_callS1i dX11_logged_93 kX2_isAdd lX11_236 (s_isAdd (by omega)) (Nat.le_of_ble_eq_true rfl) (Nat.le_of_ble_eq_true rfl) ⟨Nat.le_of_ble_eq_true rfl, Nat.le_of_ble_eq_true rfl⟩ ?_
                    refine z_if_eqB (tgt := 103) dX11_logged_96 (by decide) (fun c_96 => ?_) (fun c_96 => ?_)
                    · refine z_iconst (v := nI 0) dX11_logged_103 rfl ?_
                      refine z_ireturn dX11_logged_104 (Nat.le_of_ble_eq_true rfl) (Nat.le_of_ble_eq_true rfl) rfl ?_
                      rw [hR, hRy, lgv, if_pos c_88]
                      first | rw [if_pos (show (lgo (xof w i0) h0i).getD kk 0 % 2 = 1 from c_96)] | rw [if_neg (show ¬ (lgo (xof w i0) h0i).getD kk 0 % 2 = 1 from c_96)]
                      exact ⟨rfl, rfl, rfl, zEq.rf, h0⟩
                    · refine z_iconst (v := nI 1) dX11_logged_99 rfl ?_
                      refine z_goto (tgt := 104) dX11_logged_100 (by decide) ?_
                      refine z_ireturn dX11_logged_104 (Nat.le_of_ble_eq_true rfl) (Nat.le_of_ble_eq_true rfl) rfl ?_
                      rw [hR, hRy, lgv, if_pos c_88]
                      first | rw [if_pos (show (lgo (xof w i0) h0i).getD kk 0 % 2 = 1 from c_96)] | rw [if_neg (show ¬ (lgo (xof w i0) h0i).getD kk 0 % 2 = 1 from c_96)]
                      exact ⟨rfl, rfl, rfl, zEq.rf, h0⟩
                · refine z_iconst (v := (-1)) dX11_logged_76 rfl ?_
                  refine z_ireturn dX11_logged_77 (Nat.le_of_ble_eq_true rfl) (Nat.le_of_ble_eq_true rfl) rfl ?_
                  rw [hR, cif_n (show ¬ rng (lgo (xof w i0) h0i).length (nI kk) from fun q => by obtain ⟨q1, q2, q3⟩ := q; have q4 := nI_inj (by omega) (by unfold xof at q2; omega) q3; unfold xof at q2; omega)]
                  exact ⟨rfl, rfl, rfl, zEq.rf, h0⟩
              · have eL : lga (a + 1 + 16 + 12 * i0) h0i = a + 1 + 16 + 12 * i0 + 8 := if_pos c_49
                refine z_aload dX11_logged_52 rfl ?_
                refine z_getR dX11_logged_54 fX11_206 (by first | assumption | exact And.left (by assumption)) rfl ?_
                refine z_goto (tgt := 65) dX11_logged_57 (by decide) ?_
                rw [eL] at hlg hsl n1
                have n1b := n1
                obtain ⟨t1, t2⟩ := hsl
                have hsl2 : sLg L _ := ⟨t1, t2⟩
                refine z_astore dX11_logged_65 (Nat.le_of_ble_eq_true rfl) rfl ?_
                refine z_iload_n dX11_logged_67 rfl ?_
                refine z_aload dX11_logged_68 rfl ?_
                refine z_getIe dX11_logged_70 fX11_210 t1 rfl n1b ?_
                refine z_icmp_ltN (tgt := 78) dX11_logged_73 (by decide) (by omega) (by omega) (fun c_73 => ?_) (fun c_73 => ?_)
                · refine z_aload dX11_logged_78 rfl ?_
                  refine z_iload_n dX11_logged_80 rfl ?_
                  refine z_callV1i dX11_logged_81 kX2_itemAt lX11_233 t1 rfl (s_itemAt hsl2 hlg (by omega)) (Nat.le_of_ble_eq_true rfl) (Nat.le_of_ble_eq_true rfl) ⟨Nat.le_of_ble_eq_true rfl, Nat.le_of_ble_eq_true rfl⟩ ?_
                  have hcc := lgo_c (h := h0i) (hcd i0 hi) (k := kk) (by unfold xof; omega)
                  unfold xof at hcc
                  have hRy := cif_y (x := (lgv (xof w i0).2.1 ((lgo (xof w i0) h0i).getD kk 0) x0i, w)) (y := (-1, w)) (show rng (lgo (xof w i0) h0i).length (nI kk) from ⟨kk, by unfold xof; omega, rfl⟩)
                  refine z_istore dX11_logged_84 (Nat.le_of_ble_eq_true rfl) rfl ?_
                  refine z_iload dX11_logged_86 rfl ?_
                  refine z_if_neN (tgt := 105) dX11_logged_88 (by decide) (by omega) (fun c_88 => ?_) (fun c_88 => ?_)
                  · refine z_aload dX11_logged_105 rfl ?_
                    refine z_getR dX11_logged_107 fX11_219 (by first | assumption | exact And.left (by assumption)) rfl ?_
                    refine z_iload dX11_logged_110 rfl ?_
                    refine z_callS1i dX11_logged_112 kX2_codeIn lX11_239 (s_codeIn (by omega)) (Nat.le_of_ble_eq_true rfl) (Nat.le_of_ble_eq_true rfl) ⟨Nat.le_of_ble_eq_true rfl, Nat.le_of_ble_eq_true rfl⟩ ?_
                    refine z_iload dX11_logged_115 rfl ?_
                    refine z_iconst (v := nI 1) dX11_logged_117 rfl ?_
                    refine z_subN dX11_logged_118 (by omega) ?_
                    refine z_callV2i dX11_logged_119 kX1_partOfEntry lX11_230 (And.left p1.2.1) rfl (s_partOfEntry p1.2.1 xd (by omega) (by omega)) (Nat.le_of_ble_eq_true rfl) (Nat.le_of_ble_eq_true rfl) ⟨Nat.le_of_ble_eq_true rfl, Nat.le_of_ble_eq_true rfl⟩ ?_
                    refine z_ireturn dX11_logged_122 (Nat.le_of_ble_eq_true rfl) (Nat.le_of_ble_eq_true rfl) rfl ?_
                    rw [hR, hRy, lgv, if_neg c_88]
                    exact ⟨rfl, rfl, rfl, zEq.rf, h0⟩
                  · refine z_iload dX11_logged_91 rfl ?_
                    refine z_callS1i dX11_logged_93 kX2_isAdd lX11_236 (s_isAdd (by omega)) (Nat.le_of_ble_eq_true rfl) (Nat.le_of_ble_eq_true rfl) ⟨Nat.le_of_ble_eq_true rfl, Nat.le_of_ble_eq_true rfl⟩ ?_
                    refine z_if_eqB (tgt := 103) dX11_logged_96 (by decide) (fun c_96 => ?_) (fun c_96 => ?_)
                    · refine z_iconst (v := nI 0) dX11_logged_103 rfl ?_
                      refine z_ireturn dX11_logged_104 (Nat.le_of_ble_eq_true rfl) (Nat.le_of_ble_eq_true rfl) rfl ?_
                      rw [hR, hRy, lgv, if_pos c_88]
                      first | rw [if_pos (show (lgo (xof w i0) h0i).getD kk 0 % 2 = 1 from c_96)] | rw [if_neg (show ¬ (lgo (xof w i0) h0i).getD kk 0 % 2 = 1 from c_96)]
                      exact ⟨rfl, rfl, rfl, zEq.rf, h0⟩
                    · refine z_iconst (v := nI 1) dX11_logged_99 rfl ?_
                      refine z_goto (tgt := 104) dX11_logged_100 (by decide) ?_
                      refine z_ireturn dX11_logged_104 (Nat.le_of_ble_eq_true rfl) (Nat.le_of_ble_eq_true rfl) rfl ?_
                      rw [hR, hRy, lgv, if_pos c_88]
                      first | rw [if_pos (show (lgo (xof w i0) h0i).getD kk 0 % 2 = 1 from c_96)] | rw [if_neg (show ¬ (lgo (xof w i0) h0i).getD kk 0 % 2 = 1 from c_96)]
                      exact ⟨rfl, rfl, rfl, zEq.rf, h0⟩
                · refine z_iconst (v := (-1)) dX11_logged_76 rfl ?_
                  refine z_ireturn dX11_logged_77 (Nat.le_of_ble_eq_true rfl) (Nat.le_of_ble_eq_true rfl) rfl ?_
                  rw [hR, cif_n (show ¬ rng (lgo (xof w i0) h0i).length (nI kk) from fun q => by obtain ⟨q1, q2, q3⟩ := q; have q4 := nI_inj (by omega) (by unfold xof at q2; omega) q3; unfold xof at q2; omega)]
                  exact ⟨rfl, rfl, rfl, zEq.rf, h0⟩
            · have hlt : k < 0 := Int32.not_le.mp c_31
              refine z_bipush (v := (-3)) dX11_logged_34 rfl ?_
              refine z_ireturn dX11_logged_36 (Nat.le_of_ble_eq_true rfl) (Nat.le_of_ble_eq_true rfl) rfl ?_
              rw [show o_logged i g k x w = (-3, w) from by unfold o_logged; rw [cif_y ⟨c_4, c_h, c_x⟩]; rw [if_pos hlt]]
              exact ⟨rfl, rfl, rfl, zEq.rf, h0⟩
          · refine z_bipush (v := (-2)) dX11_logged_27 rfl ?_
            refine z_ireturn dX11_logged_29 (Nat.le_of_ble_eq_true rfl) (Nat.le_of_ble_eq_true rfl) rfl ?_
            rw [show o_logged i g k x w = (-2, w) from by unfold o_logged; rw [cif_n (fun q => by first | exact c_4 q.1 | exact rng_n1 (by decide) c_8 q.2.1 | exact rng_gt (by decide) (Int32.not_le.mpr c_13) q.2.1 | exact rng_n1 (by decide) c_18 q.2.2 | exact rng_gt (by decide) c_24 q.2.2)]]
            exact ⟨rfl, rfl, rfl, zEq.rf, h0⟩

set_option maxHeartbeats 4000000 in
set_option maxRecDepth 100000 in
theorem s_rfk {D : zD} {z0 nx : Nat} {L : zL} {V : zV} {a : Nat} {sw : Bool} {w : Wo} (hs : sLI L a sw) (h : LI V a sw w) {i x y z : Int32} : Sp D z0 3 0 0 mX11_refusalOfKey [.ref a, .int i, .int x, .int y, .int z] L V nx (zi (rfk i x y z w) L V nx) := by
  have hs0 := hs
  have h0 := h
  obtain ⟨l1, l2, l3, l4, l5, l6, l7, l8, l9, l10, l11, l12⟩ := hs
  obtain ⟨k1, k2, k3, k4, k5, k6, k7, k8⟩ := h
  have l20 := l2
  obtain ⟨s1, s2, s3, s4, s5, s6, s7⟩ := l2
  have k10 := k1
  obtain ⟨v1, v2, v3, v4⟩ := k1
  refine Sp.of 0 (by decide) rfl rfl (Nat.le_of_ble_eq_true rfl) ?_
  refine z_iload_n dX11_refusalOfKey_0 rfl ?_
  refine z_callS1i dX11_refusalOfKey_1 kX11_isIndex lX11_144 s_isIx (Nat.le_of_ble_eq_true rfl) (Nat.le_of_ble_eq_true rfl) ⟨Nat.le_of_ble_eq_true rfl, Nat.le_of_ble_eq_true rfl⟩ ?_
  refine z_if_neB (tgt := 10) dX11_refusalOfKey_4 (by decide) (fun c_4 => ?_) (fun c_4 => ?_)
  · refine z_iload_n dX11_refusalOfKey_10 rfl ?_
    refine z_iload_n dX11_refusalOfKey_11 rfl ?_
    refine z_iload dX11_refusalOfKey_12 rfl ?_
    refine z_callS3i dX11_refusalOfKey_14 kX11_areNumbers lX11_89 s_nums (Nat.le_of_ble_eq_true rfl) (Nat.le_of_ble_eq_true rfl) ⟨Nat.le_of_ble_eq_true rfl, Nat.le_of_ble_eq_true rfl⟩ ?_
    refine z_if_neB (tgt := 23) dX11_refusalOfKey_17 (by decide) (fun c_17 => ?_) (fun c_17 => ?_)
    · obtain ⟨k, hk, rfl⟩ := c_4
      have hT := tn_k (k := k) (by omega)
      have q1 := i2_at (a + 1) k (by omega)
      have p1 := s7 k (by omega)
      have p2 := p1.1
      have x0 := v4 k (by omega)
      obtain ⟨⟨⟨x1, x2, x3, x4, x5⟩, x6, x7, x8, x9, x10⟩, xd, xe, xn, xl⟩ := v4 k (by omega)
      refine z_aload_n dX11_refusalOfKey_23 rfl ?_
      refine z_getR dX11_refusalOfKey_24 fX11_10 (by first | assumption | exact And.left (by assumption)) rfl ?_
      refine z_getR dX11_refusalOfKey_27 fX11_147 (by first | assumption | exact And.left (by assumption)) rfl ?_
      refine z_iload_n dX11_refusalOfKey_30 rfl ?_
      refine z_aaldN dX11_refusalOfKey_31 (by first | assumption | exact And.left (by assumption)) (fun _ => rfl) (by exact Nat.le_of_ble_eq_true rfl) (by assumption) ?_
      refine z_getIe dX11_refusalOfKey_32 fX11_151 (by first | assumption | exact And.left (by assumption)) rfl (by first | assumption | exact zup_s _ _ _ _ | rfl) ?_
      refine z_iconst (v := nI 4) dX11_refusalOfKey_35 rfl ?_
      refine z_icmp_neN (tgt := 43) dX11_refusalOfKey_36 (by decide) (by omega) (by omega) (fun c_36 => ?_) (fun c_36 => ?_)
      · refine z_bipush (v := (-5)) dX11_refusalOfKey_43 rfl ?_
        refine z_ireturn dX11_refusalOfKey_45 (Nat.le_of_ble_eq_true rfl) (Nat.le_of_ble_eq_true rfl) rfl ?_
        exact zi_r (by unfold rfk; rw [cif_y (rng_k hk), cif_y c_17, hT]; first | (rw [if_pos (show (xof w k).1.1 = 4 from c_36)] <;> rfl) | (rw [if_neg (show ¬ (xof w k).1.1 = 4 from c_36)] <;> rfl))
      · refine z_iconst (v := nI 0) dX11_refusalOfKey_39 rfl ?_
        refine z_goto (tgt := 45) dX11_refusalOfKey_40 (by decide) ?_
        refine z_ireturn dX11_refusalOfKey_45 (Nat.le_of_ble_eq_true rfl) (Nat.le_of_ble_eq_true rfl) rfl ?_
        exact zi_r (by unfold rfk; rw [cif_y (rng_k hk), cif_y c_17, hT]; first | (rw [if_pos (show (xof w k).1.1 = 4 from c_36)] <;> rfl) | (rw [if_neg (show ¬ (xof w k).1.1 = 4 from c_36)] <;> rfl))
    · refine z_bipush (v := (-3)) dX11_refusalOfKey_20 rfl ?_
      refine z_ireturn dX11_refusalOfKey_22 (Nat.le_of_ble_eq_true rfl) (Nat.le_of_ble_eq_true rfl) rfl ?_
      exact zi_r (by unfold rfk; rw [cif_y c_4, cif_n c_17] <;> rfl)
  · refine z_bipush (v := (-2)) dX11_refusalOfKey_7 rfl ?_
    refine z_ireturn dX11_refusalOfKey_9 (Nat.le_of_ble_eq_true rfl) (Nat.le_of_ble_eq_true rfl) rfl ?_
    exact zi_r (by unfold rfk; rw [cif_n c_4] <;> rfl)

theorem rfk_0 {i x y z : Int32} {w : Wo} (h : rfk i x y z w = 0) : rng 2 i ∧ nums x y z := by
  unfold rfk at h
  by_cases c1 : rng 2 i
  · rw [cif_y c1] at h
    by_cases c2 : nums x y z
    · exact ⟨c1, c2⟩
    · rw [cif_n c2] at h
      exact absurd h (by decide)
  · rw [cif_n c1] at h
    exact absurd h (by decide)

set_option maxHeartbeats 4000000 in
set_option maxRecDepth 100000 in
theorem c_ahead {D : zD} {z0 nx : Nat} {L : zL} {V : zV} {a : Nat} {sw : Bool} {w : Wo} (hs : sLI L a sw) (h : LI V a sw w) {i : Int32} {x : Int32} {y : Int32} {z : Int32} : Sp D z0 4 0 0 mX11_ahead [.ref a, .int i, .int x, .int y, .int z] L V nx (zq (some (.int (o_ahead i x y z w).1)) L nx (fun V' => zEq V V' a (a + 471) ∧ LI V' a sw (o_ahead i x y z w).2)) := by
  have hs0 := hs
  have h0 := h
  obtain ⟨l1, l2, l3, l4, l5, l6, l7, l8, l9, l10, l11, l12⟩ := hs
  obtain ⟨k1, k2, k3, k4, k5, k6, k7, k8⟩ := h
  have l20 := l2
  obtain ⟨s1, s2, s3, s4, s5, s6, s7⟩ := l2
  have k10 := k1
  obtain ⟨v1, v2, v3, v4⟩ := k1
  refine Sp.of 3 (by decide) rfl rfl (Nat.le_of_ble_eq_true rfl) ?_
  refine z_aload_n dX11_ahead_0 rfl ?_
  refine z_iload_n dX11_ahead_1 rfl ?_
  refine z_iload_n dX11_ahead_2 rfl ?_
  refine z_iload_n dX11_ahead_3 rfl ?_
  refine z_iload dX11_ahead_4 rfl ?_
  refine z_callV4i dX11_ahead_6 kX11_refusalOfKey lX11_242 (by first | assumption | exact And.left (by assumption)) rfl (s_rfk hs0 h0) (Nat.le_of_ble_eq_true rfl) (Nat.le_of_ble_eq_true rfl) ⟨Nat.le_of_ble_eq_true rfl, Nat.le_of_ble_eq_true rfl⟩ ?_
  refine z_istore dX11_ahead_9 (Nat.le_of_ble_eq_true rfl) rfl ?_
  refine z_iload dX11_ahead_11 rfl ?_
  refine z_if_eq (tgt := 19) dX11_ahead_13 (by decide) (fun c_13 => ?_) (fun c_13 => ?_)
  · have hR : o_ahead i x y z w = (nI (pl (kyr w i x y z * 64) (xof w (tn i)).2.2.1), w) := by unfold o_ahead; rw [cif_y c_13]
    obtain ⟨c_a, c_b⟩ := rfk_0 c_13
    obtain ⟨x0i, hx0, rfl⟩ := c_b.1
    obtain ⟨y0i, hy0, rfl⟩ := c_b.2.1
    obtain ⟨z0i, hz0, rfl⟩ := c_b.2.2
    obtain ⟨i0, hi, rfl⟩ := c_a
    have hT := tn_k (k := i0) (by omega)
    unfold kyr at hR
    rw [hT, tn_k (k := x0i) (by omega), tn_k (k := y0i) (by omega), tn_k (k := z0i) (by omega)] at hR
    have q1 := i2_at (a + 1) i0 (by omega)
    have p1 := s7 i0 (by omega)
    have p2 := p1.1
    have x0 := v4 i0 (by omega)
    obtain ⟨⟨⟨x1, x2, x3, x4, x5⟩, x6, x7, x8, x9, x10⟩, xd, xe, xn, xl⟩ := v4 i0 (by omega)
    have hpk : (x0i * 100 + y0i) * 100 + z0i < 1000000 := by omega
    have hrk := (rk_3 (w.1.2.2.2 i0).2.1.1 hpk).2.2
    have hpm := pl_mono (x := rk (w.1.2.2.2 i0).2.1.1 ((x0i * 100 + y0i) * 100 + z0i) 3 * 64) (y := (rk (w.1.2.2.2 i0).2.1.1 ((x0i * 100 + y0i) * 100 + z0i) 3 + 1) * 64) (by omega) (w.1.2.2.2 i0).2.2.1
    have hpl := pl_le ((rk (w.1.2.2.2 i0).2.1.1 ((x0i * 100 + y0i) * 100 + z0i) 3 + 1) * 64) (w.1.2.2.2 i0).2.2.1
    have h48 := xe.2.2.1
    refine z_aload_n dX11_ahead_19 rfl ?_
    refine z_getR dX11_ahead_20 fX11_10 (by first | assumption | exact And.left (by assumption)) rfl ?_
    refine z_getR dX11_ahead_23 fX11_147 (by first | assumption | exact And.left (by assumption)) rfl ?_
    refine z_iload_n dX11_ahead_26 rfl ?_
    refine z_aaldN dX11_ahead_27 (by first | assumption | exact And.left (by assumption)) (fun _ => rfl) (by exact Nat.le_of_ble_eq_true rfl) (by assumption) ?_
    refine z_astore dX11_ahead_28 (Nat.le_of_ble_eq_true rfl) rfl ?_
    refine z_aload dX11_ahead_30 rfl ?_
    refine z_getR dX11_ahead_32 fX11_219 (by first | assumption | exact And.left (by assumption)) rfl ?_
    refine z_getR dX11_ahead_35 fX11_246 (And.left p1.2.1) rfl ?_
    refine z_iload_n dX11_ahead_38 rfl ?_
    refine z_iload_n dX11_ahead_39 rfl ?_
    refine z_iload dX11_ahead_40 rfl ?_
    refine z_callS3i dX11_ahead_42 kX11_packed lX11_97 (s_packed hx0 hy0 hz0) (Nat.le_of_ble_eq_true rfl) (Nat.le_of_ble_eq_true rfl) ⟨Nat.le_of_ble_eq_true rfl, Nat.le_of_ble_eq_true rfl⟩ ?_
    refine z_callV1i dX11_ahead_45 kX4_rankOf lX11_250 (And.left p1.2.1.2.1) rfl (s_rankOf p1.2.1.2.1 xd.1 hpk) (Nat.le_of_ble_eq_true rfl) (Nat.le_of_ble_eq_true rfl) ⟨Nat.le_of_ble_eq_true rfl, Nat.le_of_ble_eq_true rfl⟩ ?_
    refine z_istore dX11_ahead_48 (Nat.le_of_ble_eq_true rfl) rfl ?_
    refine z_aload dX11_ahead_50 rfl ?_
    refine z_getR dX11_ahead_52 fX11_197 (by first | assumption | exact And.left (by assumption)) rfl ?_
    refine z_iload dX11_ahead_55 rfl ?_
    refine z_callV1i dX11_ahead_57 kX6_sizeBelow lX11_255 (And.left p1.2.2.1) rfl (s_sizeBelow p1.2.2.1 xe (by omega)) (Nat.le_of_ble_eq_true rfl) (Nat.le_of_ble_eq_true rfl) ⟨Nat.le_of_ble_eq_true rfl, Nat.le_of_ble_eq_true rfl⟩ ?_
    refine z_ireturn dX11_ahead_60 (Nat.le_of_ble_eq_true rfl) (Nat.le_of_ble_eq_true rfl) rfl ?_
    rw [hR]
    exact ⟨rfl, rfl, rfl, zEq.rf, h0⟩
  · refine z_iload dX11_ahead_16 rfl ?_
    refine z_ireturn dX11_ahead_18 (Nat.le_of_ble_eq_true rfl) (Nat.le_of_ble_eq_true rfl) rfl ?_
    rw [show o_ahead i x y z w = (rfk i x y z w, w) from by unfold o_ahead; rw [cif_n c_13]]
    exact ⟨rfl, rfl, rfl, zEq.rf, h0⟩

set_option maxHeartbeats 4000000 in
set_option maxRecDepth 100000 in
theorem c_same {D : zD} {z0 nx : Nat} {L : zL} {V : zV} {a : Nat} {sw : Bool} {w : Wo} (hs : sLI L a sw) (h : LI V a sw w) {i : Int32} {x : Int32} {y : Int32} {z : Int32} : Sp D z0 4 0 0 mX11_same [.ref a, .int i, .int x, .int y, .int z] L V nx (zq (some (.int (o_same i x y z w).1)) L nx (fun V' => zEq V V' a (a + 471) ∧ LI V' a sw (o_same i x y z w).2)) := by
  have hs0 := hs
  have h0 := h
  obtain ⟨l1, l2, l3, l4, l5, l6, l7, l8, l9, l10, l11, l12⟩ := hs
  obtain ⟨k1, k2, k3, k4, k5, k6, k7, k8⟩ := h
  have l20 := l2
  obtain ⟨s1, s2, s3, s4, s5, s6, s7⟩ := l2
  have k10 := k1
  obtain ⟨v1, v2, v3, v4⟩ := k1
  refine Sp.of 3 (by decide) rfl rfl (Nat.le_of_ble_eq_true rfl) ?_
  refine z_aload_n dX11_same_0 rfl ?_
  refine z_iload_n dX11_same_1 rfl ?_
  refine z_iload_n dX11_same_2 rfl ?_
  refine z_iload_n dX11_same_3 rfl ?_
  refine z_iload dX11_same_4 rfl ?_
  refine z_callV4i dX11_same_6 kX11_refusalOfKey lX11_242 (by first | assumption | exact And.left (by assumption)) rfl (s_rfk hs0 h0) (Nat.le_of_ble_eq_true rfl) (Nat.le_of_ble_eq_true rfl) ⟨Nat.le_of_ble_eq_true rfl, Nat.le_of_ble_eq_true rfl⟩ ?_
  refine z_istore dX11_same_9 (Nat.le_of_ble_eq_true rfl) rfl ?_
  refine z_iload dX11_same_11 rfl ?_
  refine z_if_eq (tgt := 19) dX11_same_13 (by decide) (fun c_13 => ?_) (fun c_13 => ?_)
  · have hR : o_same i x y z w = (nI (pl ((kyr w i x y z + 1) * 64) (xof w (tn i)).2.2.1 - pl (kyr w i x y z * 64) (xof w (tn i)).2.2.1), w) := by unfold o_same; rw [cif_y c_13]
    obtain ⟨c_a, c_b⟩ := rfk_0 c_13
    obtain ⟨x0i, hx0, rfl⟩ := c_b.1
    obtain ⟨y0i, hy0, rfl⟩ := c_b.2.1
    obtain ⟨z0i, hz0, rfl⟩ := c_b.2.2
    obtain ⟨i0, hi, rfl⟩ := c_a
    have hT := tn_k (k := i0) (by omega)
    unfold kyr at hR
    rw [hT, tn_k (k := x0i) (by omega), tn_k (k := y0i) (by omega), tn_k (k := z0i) (by omega)] at hR
    have q1 := i2_at (a + 1) i0 (by omega)
    have p1 := s7 i0 (by omega)
    have p2 := p1.1
    have x0 := v4 i0 (by omega)
    obtain ⟨⟨⟨x1, x2, x3, x4, x5⟩, x6, x7, x8, x9, x10⟩, xd, xe, xn, xl⟩ := v4 i0 (by omega)
    have hpk : (x0i * 100 + y0i) * 100 + z0i < 1000000 := by omega
    have hrk := (rk_3 (w.1.2.2.2 i0).2.1.1 hpk).2.2
    have hpm := pl_mono (x := rk (w.1.2.2.2 i0).2.1.1 ((x0i * 100 + y0i) * 100 + z0i) 3 * 64) (y := (rk (w.1.2.2.2 i0).2.1.1 ((x0i * 100 + y0i) * 100 + z0i) 3 + 1) * 64) (by omega) (w.1.2.2.2 i0).2.2.1
    have hpl := pl_le ((rk (w.1.2.2.2 i0).2.1.1 ((x0i * 100 + y0i) * 100 + z0i) 3 + 1) * 64) (w.1.2.2.2 i0).2.2.1
    have h48 := xe.2.2.1
    refine z_aload_n dX11_same_19 rfl ?_
    refine z_getR dX11_same_20 fX11_10 (by first | assumption | exact And.left (by assumption)) rfl ?_
    refine z_getR dX11_same_23 fX11_147 (by first | assumption | exact And.left (by assumption)) rfl ?_
    refine z_iload_n dX11_same_26 rfl ?_
    refine z_aaldN dX11_same_27 (by first | assumption | exact And.left (by assumption)) (fun _ => rfl) (by exact Nat.le_of_ble_eq_true rfl) (by assumption) ?_
    refine z_astore dX11_same_28 (Nat.le_of_ble_eq_true rfl) rfl ?_
    refine z_aload dX11_same_30 rfl ?_
    refine z_getR dX11_same_32 fX11_219 (by first | assumption | exact And.left (by assumption)) rfl ?_
    refine z_getR dX11_same_35 fX11_246 (And.left p1.2.1) rfl ?_
    refine z_iload_n dX11_same_38 rfl ?_
    refine z_iload_n dX11_same_39 rfl ?_
    refine z_iload dX11_same_40 rfl ?_
    refine z_callS3i dX11_same_42 kX11_packed lX11_97 (s_packed hx0 hy0 hz0) (Nat.le_of_ble_eq_true rfl) (Nat.le_of_ble_eq_true rfl) ⟨Nat.le_of_ble_eq_true rfl, Nat.le_of_ble_eq_true rfl⟩ ?_
    refine z_callV1i dX11_same_45 kX4_rankOf lX11_250 (And.left p1.2.1.2.1) rfl (s_rankOf p1.2.1.2.1 xd.1 hpk) (Nat.le_of_ble_eq_true rfl) (Nat.le_of_ble_eq_true rfl) ⟨Nat.le_of_ble_eq_true rfl, Nat.le_of_ble_eq_true rfl⟩ ?_
    refine z_istore dX11_same_48 (Nat.le_of_ble_eq_true rfl) rfl ?_
    refine z_aload dX11_same_50 rfl ?_
    refine z_getR dX11_same_52 fX11_197 (by first | assumption | exact And.left (by assumption)) rfl ?_
    refine z_iload dX11_same_55 rfl ?_
    refine z_iconst (v := nI 1) dX11_same_57 rfl ?_
    refine z_addN dX11_same_58 ?_
    refine z_callV1i dX11_same_59 kX6_sizeBelow lX11_255 (And.left p1.2.2.1) rfl (s_sizeBelow p1.2.2.1 xe (by omega)) (Nat.le_of_ble_eq_true rfl) (Nat.le_of_ble_eq_true rfl) ⟨Nat.le_of_ble_eq_true rfl, Nat.le_of_ble_eq_true rfl⟩ ?_
    refine z_aload dX11_same_62 rfl ?_
    refine z_getR dX11_same_64 fX11_197 (by first | assumption | exact And.left (by assumption)) rfl ?_
    refine z_iload dX11_same_67 rfl ?_
    refine z_callV1i dX11_same_69 kX6_sizeBelow lX11_255 (And.left p1.2.2.1) rfl (s_sizeBelow p1.2.2.1 xe (by omega)) (Nat.le_of_ble_eq_true rfl) (Nat.le_of_ble_eq_true rfl) ⟨Nat.le_of_ble_eq_true rfl, Nat.le_of_ble_eq_true rfl⟩ ?_
    refine z_subN dX11_same_72 (by omega) ?_
    refine z_ireturn dX11_same_73 (Nat.le_of_ble_eq_true rfl) (Nat.le_of_ble_eq_true rfl) rfl ?_
    rw [hR]
    exact ⟨rfl, rfl, rfl, zEq.rf, h0⟩
  · refine z_iload dX11_same_16 rfl ?_
    refine z_ireturn dX11_same_18 (Nat.le_of_ble_eq_true rfl) (Nat.le_of_ble_eq_true rfl) rfl ?_
    rw [show o_same i x y z w = (rfk i x y z w, w) from by unfold o_same; rw [cif_n c_13]]
    exact ⟨rfl, rfl, rfl, zEq.rf, h0⟩

set_option maxHeartbeats 4000000 in
set_option maxRecDepth 100000 in
theorem lp_ixf {D : zD} {z0 nx : Nat} {L : zL} {V : zV} {a c : Nat} {sw : Bool} {w : Wo} (hs : sLI L a sw) (h : LI V a sw w) (hol : ∀ i, i < 2 → (xof w i).1.1 = 4 → 1 ≤ (xof w i).2.1.1.length) (hc : c < 3) : ∀ (fu : Nat) (i : Nat), 2 - i = fu → i ≤ 2 → (∀ k, k < i → ¬ led w c k) → Z D z0 1 0 0 mX11_indexFor 0 0 2 [some (.ref a), some (.int (nI c)), some (.int (nI i)), none, none] [] L V nx (zi (i2n (ixf w c)) L V nx) := by
  intro fu
  induction fu using Nat.strongRecOn with
  | ind fu ih =>
    intro i h_fu h_0 h_1
    have hs0 := hs
    have h0 := h
    obtain ⟨l1, l2, l3, l4, l5, l6, l7, l8, l9, l10, l11, l12⟩ := hs
    obtain ⟨k1, k2, k3, k4, k5, k6, k7, k8⟩ := h
    have l20 := l2
    obtain ⟨s1, s2, s3, s4, s5, s6, s7⟩ := l2
    have k10 := k1
    obtain ⟨v1, v2, v3, v4⟩ := k1
    refine z_iload_n dX11_indexFor_2 rfl ?_
    refine z_iconst (v := nI 2) dX11_indexFor_3 rfl ?_
    refine z_icmp_geN (tgt := 61) dX11_indexFor_4 (by decide) (by omega) (by omega) (fun c_4 => ?_) (fun c_4 => ?_)
    · refine z_iconst (v := (-1)) dX11_indexFor_61 rfl ?_
      refine z_ireturn dX11_indexFor_62 (Nat.le_of_ble_eq_true rfl) (Nat.le_of_ble_eq_true rfl) rfl ?_
      have e : ixf w c = 2 := fs_eq (fun k hk => h_1 k (by omega)) (by omega) (fun q => absurd q (by omega))
      exact zi_r (by rw [e] <;> rfl)
    · have q1 := i2_at (a + 1) i (by omega)
      have p1 := s7 i (by omega)
      have p2 := p1.1
      have x0 := v4 i (by omega)
      obtain ⟨⟨⟨x1, x2, x3, x4, x5⟩, x6, x7, x8, x9, x10⟩, xd, xe, xn, xl⟩ := v4 i (by omega)
      obtain ⟨q3, q4, q5, q6⟩ := xd
      obtain ⟨o1, o2, o3, o4, o5⟩ := q3
      obtain ⟨pd1, pd2, pd3⟩ := p1.2.1
      obtain ⟨po1, po2, po3⟩ := pd2
      refine z_aload_n dX11_indexFor_7 rfl ?_
      refine z_getR dX11_indexFor_8 fX11_10 (by first | assumption | exact And.left (by assumption)) rfl ?_
      refine z_getR dX11_indexFor_11 fX11_147 (by first | assumption | exact And.left (by assumption)) rfl ?_
      refine z_iload_n dX11_indexFor_14 rfl ?_
      refine z_aaldN dX11_indexFor_15 (by first | assumption | exact And.left (by assumption)) (fun _ => rfl) (by exact Nat.le_of_ble_eq_true rfl) (by assumption) ?_
      refine z_astore_n dX11_indexFor_16 (Nat.le_of_ble_eq_true rfl) rfl ?_
      refine z_aload_n dX11_indexFor_17 rfl ?_
      refine z_getR dX11_indexFor_18 fX11_219 (by first | assumption | exact And.left (by assumption)) rfl ?_
      refine z_astore dX11_indexFor_21 (Nat.le_of_ble_eq_true rfl) rfl ?_
      refine z_aload_n dX11_indexFor_23 rfl ?_
      refine z_getIe dX11_indexFor_24 fX11_151 (by first | assumption | exact And.left (by assumption)) rfl (by first | assumption | exact zup_s _ _ _ _ | rfl) ?_
      refine z_iconst (v := nI 4) dX11_indexFor_27 rfl ?_
      refine z_icmp_neN (tgt := 55) dX11_indexFor_28 (by decide) (by omega) (by omega) (fun c_28 => ?_) (fun c_28 => ?_)
      · have hno : ¬ led w c i := fun q => c_28 q.1
        refine z_incN dX11_indexFor_55 rfl rfl ?_
        refine z_goto (tgt := 2) dX11_indexFor_58 (by decide) ?_
        refine z_fg 3 ?_
        refine z_fg 4 ?_
        exact ih _ (by omega) (i + 1) rfl (by omega) (lt_s h_1 hno)
      · have hol2 := hol i (by omega) c_28
        unfold xof at hol2
        have o0 := (o3 0 (by omega)).1
        have o40 := o4 0 (by omega)
        refine z_aload dX11_indexFor_31 rfl ?_
        refine z_getIe dX11_indexFor_33 fX11_350 (by first | assumption | exact And.left (by assumption)) rfl (by first | assumption | exact zup_s _ _ _ _ | rfl) ?_
        refine z_if_neB (tgt := 55) dX11_indexFor_36 (by decide) (fun c_36 => ?_) (fun c_36 => ?_)
        · have hno : ¬ led w c i := fun q => q.2.1 c_36
          refine z_incN dX11_indexFor_55 rfl rfl ?_
          refine z_goto (tgt := 2) dX11_indexFor_58 (by decide) ?_
          refine z_fg 3 ?_
          refine z_fg 4 ?_
          exact ih _ (by omega) (i + 1) rfl (by omega) (lt_s h_1 hno)
        · refine z_aload dX11_indexFor_39 rfl ?_
          refine z_getR dX11_indexFor_41 fX11_246 (by first | assumption | exact And.left (by assumption)) rfl ?_
          refine z_getR dX11_indexFor_44 fX11_353 (by first | assumption | exact And.left (by assumption)) rfl ?_
          refine z_iconst (v := nI 0) dX11_indexFor_47 rfl ?_
          refine z_ialdN dX11_indexFor_48 (by first | assumption | exact And.left (by assumption)) (by omega) (by decide) o0 ?_
          refine z_iload_n dX11_indexFor_49 rfl ?_
          refine z_icmp_neN (tgt := 55) dX11_indexFor_50 (by decide) (by omega) (by omega) (fun c_50 => ?_) (fun c_50 => ?_)
          · have hno : ¬ led w c i := fun q => c_50 q.2.2
            refine z_incN dX11_indexFor_55 rfl rfl ?_
            refine z_goto (tgt := 2) dX11_indexFor_58 (by decide) ?_
            refine z_fg 3 ?_
            refine z_fg 4 ?_
            exact ih _ (by omega) (i + 1) rfl (by omega) (lt_s h_1 hno)
          · refine z_iload_n dX11_indexFor_53 rfl ?_
            refine z_ireturn dX11_indexFor_54 (Nat.le_of_ble_eq_true rfl) (Nat.le_of_ble_eq_true rfl) rfl ?_
            have e : ixf w c = i := fs_eq h_1 (by omega) (fun _ => ⟨c_28, c_36, c_50⟩)
            exact zi_r (by rw [e, i2n, if_pos (by omega)])

set_option maxHeartbeats 4000000 in
set_option maxRecDepth 100000 in
theorem s_ixf {D : zD} {z0 nx : Nat} {L : zL} {V : zV} {a c : Nat} {sw : Bool} {w : Wo} (hs : sLI L a sw) (h : LI V a sw w) (hol : ∀ i, i < 2 → (xof w i).1.1 = 4 → 1 ≤ (xof w i).2.1.1.length) (hc : c < 3) : Sp D z0 1 0 0 mX11_indexFor [.ref a, .int (nI c)] L V nx (zi (i2n (ixf w c)) L V nx) := by
  refine Sp.of 3 (by decide) rfl rfl (Nat.le_of_ble_eq_true rfl) ?_
  refine z_iconst (v := nI 0) dX11_indexFor_0 rfl ?_
  refine z_istore_n dX11_indexFor_1 (Nat.le_of_ble_eq_true rfl) rfl ?_
  exact lp_ixf hs h hol hc _ 0 rfl (by omega) (fun k hk => absurd hk (by omega))

set_option maxHeartbeats 4000000 in
set_option maxRecDepth 100000 in
theorem c_by {D : zD} {z0 nx : Nat} {L : zL} {V : zV} {a : Nat} {sw : Bool} {w : Wo} (hs : sLI L a sw) (h : LI V a sw w) {c : Int32} (hol : ∀ i, i < 2 → (xof w i).1.1 = 4 → 1 ≤ (xof w i).2.1.1.length) : Sp D z0 2 0 0 mX11_by [.ref a, .int c] L V nx (zq (some (.int (o_by c w).1)) L nx (fun V' => zEq V V' a (a + 471) ∧ LI V' a sw (o_by c w).2)) := by
  have hs0 := hs
  have h0 := h
  obtain ⟨l1, l2, l3, l4, l5, l6, l7, l8, l9, l10, l11, l12⟩ := hs
  obtain ⟨k1, k2, k3, k4, k5, k6, k7, k8⟩ := h
  have l20 := l2
  obtain ⟨s1, s2, s3, s4, s5, s6, s7⟩ := l2
  have k10 := k1
  obtain ⟨v1, v2, v3, v4⟩ := k1
  refine Sp.of 0 (by decide) rfl rfl (Nat.le_of_ble_eq_true rfl) ?_
  refine z_iload_n dX11_by_0 rfl ?_
  refine z_callS1i dX11_by_1 kX11_isColumn lX11_258 s_isCol (Nat.le_of_ble_eq_true rfl) (Nat.le_of_ble_eq_true rfl) ⟨Nat.le_of_ble_eq_true rfl, Nat.le_of_ble_eq_true rfl⟩ ?_
  refine z_if_eqB (tgt := 15) dX11_by_4 (by decide) (fun c_4 => ?_) (fun c_4 => ?_)
  · refine z_bipush (v := (-2)) dX11_by_15 rfl ?_
    refine z_ireturn dX11_by_17 (Nat.le_of_ble_eq_true rfl) (Nat.le_of_ble_eq_true rfl) rfl ?_
    first
      | (rw [show o_by c w = (-2, w) from cif_n c_4]; exact ⟨rfl, rfl, rfl, zEq.rf, h0⟩)
      | (rw [show o_by (nI k) w = (i2n (ixf w k), w) from by unfold o_by; rw [cif_y (rng_k hk), hT]]; exact ⟨rfl, rfl, rfl, zEq.rf, h0⟩)
  · obtain ⟨k, hk, rfl⟩ := c_4
    have hT := tn_k (k := k) (by omega)
    refine z_aload_n dX11_by_7 rfl ?_
    refine z_iload_n dX11_by_8 rfl ?_
    refine z_callV1i dX11_by_9 kX11_indexFor lX11_264 (by first | assumption | exact And.left (by assumption)) rfl (s_ixf hs0 h0 hol hk) (Nat.le_of_ble_eq_true rfl) (Nat.le_of_ble_eq_true rfl) ⟨Nat.le_of_ble_eq_true rfl, Nat.le_of_ble_eq_true rfl⟩ ?_
    refine z_goto (tgt := 17) dX11_by_12 (by decide) ?_
    refine z_ireturn dX11_by_17 (Nat.le_of_ble_eq_true rfl) (Nat.le_of_ble_eq_true rfl) rfl ?_
    first
      | (rw [show o_by c w = (-2, w) from cif_n c_4]; exact ⟨rfl, rfl, rfl, zEq.rf, h0⟩)
      | (rw [show o_by (nI k) w = (i2n (ixf w k), w) from by unfold o_by; rw [cif_y (rng_k hk), hT]]; exact ⟨rfl, rfl, rfl, zEq.rf, h0⟩)

set_option maxHeartbeats 4000000 in
set_option maxRecDepth 100000 in
theorem c_reads {D : zD} {z0 nx : Nat} {L : zL} {V : zV} {a : Nat} {sw : Bool} {w : Wo} (hs : sLI L a sw) (h : LI V a sw w) {c : Int32} {v : Int32} (hol : ∀ i, i < 2 → (xof w i).1.1 = 4 → 1 ≤ (xof w i).2.1.1.length) (hcd : ∀ i, i < 2 → cdb (xof w i)) : Sp D z0 5 0 0 mX11_reads [.ref a, .int c, .int v] L V nx (zq (some (.int (o_reads c v w).1)) L nx (fun V' => zEq V V' a (a + 471) ∧ LI V' a sw (o_reads c v w).2)) := by
  have hs0 := hs
  have h0 := h
  obtain ⟨l1, l2, l3, l4, l5, l6, l7, l8, l9, l10, l11, l12⟩ := hs
  obtain ⟨k1, k2, k3, k4, k5, k6, k7, k8⟩ := h
  have l20 := l2
  obtain ⟨s1, s2, s3, s4, s5, s6, s7⟩ := l2
  have k10 := k1
  obtain ⟨v1, v2, v3, v4⟩ := k1
  refine Sp.of 1 (by decide) rfl rfl (Nat.le_of_ble_eq_true rfl) ?_
  refine z_iload_n dX11_reads_0 rfl ?_
  refine z_callS1i dX11_reads_1 kX11_isColumn lX11_258 s_isCol (Nat.le_of_ble_eq_true rfl) (Nat.le_of_ble_eq_true rfl) ⟨Nat.le_of_ble_eq_true rfl, Nat.le_of_ble_eq_true rfl⟩ ?_
  refine z_if_neB (tgt := 10) dX11_reads_4 (by decide) (fun c_4 => ?_) (fun c_4 => ?_)
  · refine z_iload_n dX11_reads_10 rfl ?_
    refine z_callS1i dX11_reads_11 kX11_isNumber lX11_261 s_isNum (Nat.le_of_ble_eq_true rfl) (Nat.le_of_ble_eq_true rfl) ⟨Nat.le_of_ble_eq_true rfl, Nat.le_of_ble_eq_true rfl⟩ ?_
    refine z_if_neB (tgt := 20) dX11_reads_14 (by decide) (fun c_14 => ?_) (fun c_14 => ?_)
    · have hR : o_reads c v w = (if ixf w (tn c) < 2 then nI (cn (fun k => pe (xof w (ixf w (tn c))).2.1 ((xof w (ixf w (tn c))).2.2.1.getD k 0) 1 = nI (tn v)) (xof w (ixf w (tn c))).2.2.1.length + 1) else nI (rth w), w) := by unfold o_reads; rw [cif_y c_4, cif_y c_14]
      obtain ⟨k, hk, rfl⟩ := c_4
      obtain ⟨j, hj, rfl⟩ := c_14
      rw [tn_k (k := k) (by omega), tn_k (k := j) (by omega)] at hR
      generalize hix : ixf w k = m at *
      refine z_aload_n dX11_reads_20 rfl ?_
      refine z_iload_n dX11_reads_21 rfl ?_
      refine z_callV1i dX11_reads_22 kX11_indexFor lX11_264 (by first | assumption | exact And.left (by assumption)) rfl (s_ixf hs0 h0 hol hk) (Nat.le_of_ble_eq_true rfl) (Nat.le_of_ble_eq_true rfl) ⟨Nat.le_of_ble_eq_true rfl, Nat.le_of_ble_eq_true rfl⟩ ?_
      rw [hix]
      refine z_istore_n dX11_reads_25 (Nat.le_of_ble_eq_true rfl) rfl ?_
      refine z_iload_n dX11_reads_26 rfl ?_
      refine z_iconst (v := (-1)) dX11_reads_27 rfl ?_
      refine z_icmp_ne (tgt := 42) dX11_reads_28 (by decide) (fun c_28 => ?_) (fun c_28 => ?_)
      · have hm : m < 2 := Classical.byContradiction (fun q => c_28 (if_neg q))
        rw [i2n, if_pos hm]
        have q1 := i2_at (a + 1) m (by omega)
        have p1 := s7 m (by omega)
        have p2 := p1.1
        have x0 := v4 m (by omega)
        obtain ⟨⟨⟨x1, x2, x3, x4, x5⟩, x6, x7, x8, x9, x10⟩, xd, xe, xn, xl⟩ := v4 m (by omega)
        refine z_aload_n dX11_reads_42 rfl ?_
        refine z_getR dX11_reads_43 fX11_10 (by first | assumption | exact And.left (by assumption)) rfl ?_
        refine z_getR dX11_reads_46 fX11_147 (by first | assumption | exact And.left (by assumption)) rfl ?_
        refine z_iload_n dX11_reads_49 rfl ?_
        refine z_aaldN dX11_reads_50 (by first | assumption | exact And.left (by assumption)) (fun _ => rfl) (by exact Nat.le_of_ble_eq_true rfl) (by assumption) ?_
        refine z_iload_n dX11_reads_51 rfl ?_
        refine z_callV1i dX11_reads_52 kX3_entriesLedBy lX11_272 (by first | assumption | exact And.left (by assumption)) rfl (s_led p1 x0 hj (hcd m hm).1) (Nat.le_of_ble_eq_true rfl) (Nat.le_of_ble_eq_true rfl) ⟨Nat.le_of_ble_eq_true rfl, Nat.le_of_ble_eq_true rfl⟩ ?_
        refine z_iconst (v := nI 1) dX11_reads_55 rfl ?_
        refine z_addN dX11_reads_56 ?_
        refine z_ireturn dX11_reads_57 (Nat.le_of_ble_eq_true rfl) (Nat.le_of_ble_eq_true rfl) rfl ?_
        rw [hR, if_pos hm]
        exact ⟨rfl, rfl, rfl, zEq.rf, h0⟩
      · have hm : ¬ m < 2 := fun q => by rw [i2n, if_pos q] at c_28; exact nI_ne_m1 (by omega) c_28
        refine z_aload_n dX11_reads_31 rfl ?_
        refine z_getR dX11_reads_32 fX11_10 (by first | assumption | exact And.left (by assumption)) rfl ?_
        refine z_getR dX11_reads_35 fX11_174 (by first | assumption | exact And.left (by assumption)) rfl ?_
        refine z_callV0i dX11_reads_38 kX10_rowsThere lX11_267 (by first | assumption | exact And.left (by assumption)) rfl (s_rowsThere s2 v2) (Nat.le_of_ble_eq_true rfl) (Nat.le_of_ble_eq_true rfl) ⟨Nat.le_of_ble_eq_true rfl, Nat.le_of_ble_eq_true rfl⟩ ?_
        refine z_ireturn dX11_reads_41 (Nat.le_of_ble_eq_true rfl) (Nat.le_of_ble_eq_true rfl) rfl ?_
        rw [hR, if_neg hm]
        exact ⟨rfl, rfl, rfl, zEq.rf, h0⟩
    · refine z_bipush (v := (-3)) dX11_reads_17 rfl ?_
      refine z_ireturn dX11_reads_19 (Nat.le_of_ble_eq_true rfl) (Nat.le_of_ble_eq_true rfl) rfl ?_
      rw [show o_reads c v w = (-3, w) from by unfold o_reads; rw [cif_y c_4]; rw [cif_n c_14]]
      exact ⟨rfl, rfl, rfl, zEq.rf, h0⟩
  · refine z_bipush (v := (-2)) dX11_reads_7 rfl ?_
    refine z_ireturn dX11_reads_9 (Nat.le_of_ble_eq_true rfl) (Nat.le_of_ble_eq_true rfl) rfl ?_
    rw [show o_reads c v w = (-2, w) from by unfold o_reads; rw [cif_n c_4]]
    exact ⟨rfl, rfl, rfl, zEq.rf, h0⟩

