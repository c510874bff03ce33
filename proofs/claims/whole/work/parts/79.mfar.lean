/-! the reference: how far an index is from the table; keys that are alike -/
theorem eo_c {d : Df} {v : Option Nat} {r c : Nat} (h : eo d v r = some c) : ∃ p, v = some p ∧ iso d v ∧ c = rk d.1 p 3 * 64 + r := by
  have hi : iso d v := iso_eo.mpr (by rw [h]; simp)
  cases v with
  | none => exact absurd hi (by simp [iso])
  | some p =>
    rw [eo_y hi] at h
    cases h
    exact ⟨p, rfl, hi, rfl⟩
theorem eo_r {d : Df} {v : Option Nat} {r c : Nat} (h : eo d v r = some c) (hr : r < 64) : c % 64 = r := by
  obtain ⟨p, _, _, h3⟩ := eo_c h
  omega
theorem gth_s {d : Df} {f : Nat → Option Nat} {n : Nat} : gth d f (n + 1) = oinc (eo d (f n) n) (gth d f n) := rfl
theorem gth_ok {d : Df} {f : Nat → Option Nat} : ∀ {n : Nat}, n ≤ 48 → PW (gth d f n) ∧ (∀ c, c ∈ gth d f n ↔ ∃ r, r < n ∧ eo d (f r) r = some c) ∧ (gth d f n).length = cn (fun r => iso d (f r)) n
  | 0, _ => ⟨PW_nil, fun c => ⟨fun q => absurd q (by simp [gth]), fun ⟨r, hr, _⟩ => absurd hr (by omega)⟩, rfl⟩
  | n + 1, hn => by
    obtain ⟨h1, h2, h3⟩ := gth_ok (d := d) (f := f) (n := n) (by omega)
    rw [gth_s]
    cases he : eo d (f n) n with
    | none =>
      have hi : ¬ iso d (f n) := fun z => (iso_eo (r := n)).mp z he
      rw [cn_n (p := fun r => iso d (f r)) hi]
      refine ⟨h1, fun c => ?_, h3⟩
      show c ∈ gth d f n ↔ _
      rw [h2]
      constructor
      · rintro ⟨r, z1, z2⟩
        exact ⟨r, by omega, z2⟩
      · rintro ⟨r, z1, z2⟩
        by_cases e : r = n
        · rw [e, he] at z2
          cases z2
        · exact ⟨r, by omega, z2⟩
    | some x =>
      have hi : iso d (f n) := (iso_eo (r := n)).mpr (by rw [he]; simp)
      have hxn : ¬ x ∈ gth d f n := fun z => by
        obtain ⟨r, z1, z2⟩ := (h2 x).mp z
        have := eo_r z2 (by omega)
        have := eo_r he (by omega)
        omega
      have hle := cn_le (fun r => iso d (f r)) n
      have e : oinc (some x) (gth d f n) = insR x (gth d f n) := inc_new h1 hxn (by omega)
      rw [cn_y (p := fun r => iso d (f r)) hi, e]
      refine ⟨insR_pw h1 hxn, fun c => ?_, by rw [insR_len, h3]⟩
      rw [insR_mem, h2]
      constructor
      · rintro (q | ⟨r, z1, z2⟩)
        · exact ⟨n, by omega, by rw [he, q]⟩
        · exact ⟨r, by omega, z2⟩
      · rintro ⟨r, z1, z2⟩
        by_cases e2 : r = n
        · rw [e2, he] at z2
          cases z2
          exact Or.inl rfl
        · exact Or.inr ⟨r, by omega, z2⟩
theorem flt_ins {x : Nat} {p : Nat → Bool} : ∀ l : List Nat, ((insR x l).filter p).length = (l.filter p).length + (if p x = true then 1 else 0)
  | [] => by
    unfold insR
    by_cases e : p x = true
    · simp [e]
    · simp [e]
  | c :: cs => by
    have ih := flt_ins (x := x) (p := p) cs
    unfold insR
    by_cases h : c < x
    · rw [if_pos h]
      by_cases e : p c = true
      · rw [List.filter_cons_of_pos e, List.filter_cons_of_pos e]
        simp only [List.length_cons]
        omega
      · rw [List.filter_cons_of_neg e, List.filter_cons_of_neg e]
        exact ih
    · rw [if_neg h]
      by_cases e : p x = true
      · rw [List.filter_cons_of_pos e, if_pos e]
        rfl
      · rw [List.filter_cons_of_neg e, if_neg e]
        rfl
theorem flt_cn {P : Nat → Prop} {l : List Nat} : ∀ {n : Nat}, n ≤ l.length → cn (fun k => P (l.getD k 0)) n = ((l.take n).filter (fun c => pb (P c))).length
  | 0, _ => by simp [cn]
  | n + 1, h => by
    have ih := flt_cn (P := P) (l := l) (n := n) (by omega)
    have e : l.take (n + 1) = l.take n ++ [l.getD n 0] := by
      rw [List.take_succ, List.getElem?_eq_getElem (by omega), List.getD_eq_getElem?_getD, List.getElem?_eq_getElem (by omega)]
      rfl
    rw [e, List.filter_append, List.length_append]
    by_cases c : P (l.getD n 0)
    · rw [cn_y (p := fun k => P (l.getD k 0)) c, ih, List.filter_cons_of_pos (by rw [pb_iff]; exact c)]
      simp
    · rw [cn_n (p := fun k => P (l.getD k 0)) c, ih, List.filter_cons_of_neg (by rw [pb_iff]; exact c)]
      simp
theorem cn_flt {P : Nat → Prop} {l : List Nat} : cn (fun k => P (l.getD k 0)) l.length = (l.filter (fun c => pb (P c))).length := by
  rw [flt_cn (Nat.le_refl _), List.take_length]
/-- rows of which the entry is there -/
def bth (d : Df) (f : Nat → Option Nat) (l : List Nat) (r : Nat) : Prop := ∃ c, eo d (f r) r = some c ∧ c ∈ l
theorem bth_cn {d : Df} {f : Nat → Option Nat} {l : List Nat} : ∀ {n : Nat}, n ≤ 48 → cn (bth d f l) n = ((gth d f n).filter (fun c => pb (c ∈ l))).length
  | 0, _ => rfl
  | n + 1, hn => by
    have ih := bth_cn (d := d) (f := f) (l := l) (n := n) (by omega)
    obtain ⟨h1, h2, h3⟩ := gth_ok (d := d) (f := f) (n := n) (by omega)
    rw [gth_s]
    cases he : eo d (f n) n with
    | none =>
      have hb : ¬ bth d f l n := fun ⟨c, z1, _⟩ => by rw [he] at z1; cases z1
      rw [cn_n hb]
      exact ih
    | some x =>
      have hxn : ¬ x ∈ gth d f n := fun z => by
        obtain ⟨r, z1, z2⟩ := (h2 x).mp z
        have := eo_r z2 (by omega)
        have := eo_r he (by omega)
        omega
      have hle := cn_le (fun r => iso d (f r)) n
      have e : oinc (some x) (gth d f n) = insR x (gth d f n) := inc_new h1 hxn (by omega)
      rw [e, flt_ins, ← ih]
      by_cases c : x ∈ l
      · rw [cn_y (show bth d f l n from ⟨x, he, c⟩), if_pos (pb_iff.mpr c)]
      · rw [cn_n (show ¬ bth d f l n from fun ⟨y, z1, z2⟩ => by rw [he] at z1; cases z1; exact c z2), if_neg (fun z => c (pb_iff.mp z))]
        rfl
theorem sh2_in {l t : List Nat} (ht : PW t) (k : Nat) : sh2 l t k ↔ l.getD k 0 ∈ t := pl_in ht
theorem sh2_cn {l t : List Nat} (hl : PW l) (ht : PW t) : cn (sh2 l t) l.length = (t.filter (fun c => pb (c ∈ l))).length := by
  rw [cn_cg (fun k _ => sh2_in ht k), cn_flt (P := fun c => c ∈ t) (l := l)]
  congr 1
  refine PW_ext (List.Pairwise.filter _ hl) (List.Pairwise.filter _ ht) (fun c => ?_)
  rw [List.mem_filter, List.mem_filter, pb_iff, pb_iff]
  exact ⟨fun q => ⟨q.2, q.1⟩, fun q => ⟨q.2, q.1⟩⟩
theorem sh2_le {l t : List Nat} (hl : PW l) (ht : PW t) : cn (sh2 l t) l.length ≤ t.length ∧ cn (sh2 l t) l.length ≤ l.length := by
  refine ⟨?_, cn_le _ _⟩
  rw [sh2_cn hl ht]
  exact List.length_filter_le _ _

set_option maxHeartbeats 4000000 in
set_option maxRecDepth 100000 in
theorem lp_mfar {D : zD} {z0 nx : Nat} {L : zL} {V : zV} {m i : Nat} {w : Wo} (hm : sM L m) (hi : i < 2) (hB : MB (V (m + 1)) w.1) (hpw : PW (xof w i).2.2.1) : ∀ (fu : Nat) (r : Nat) (b : Nat) (t : Nat) (V1 : zV), 48 - r = fu → r ≤ 48 → b = cn (bth (xof w i).2.1 (fun r => (lst w.1.2.1 r).2) (xof w i).2.2.1) r → t = cn (fun r => iso (xof w i).2.1 (lst w.1.2.1 r).2) r → zEq V V1 (m + 4) (m + 5) → Z D z0 6 0 0 mX12_far 0 0 34 [some (.ref m), some (.int (nI i)), some (.int (nI b)), some (.int (nI t)), some (.int (nI r))] [] L V1 nx (zq (some (.int (nI ((xof w i).2.2.1.length + (tbl w i).length - 2 * cn (sh2 (xof w i).2.2.1 (tbl w i)) (xof w i).2.2.1.length)))) L nx (fun V' => zEq V V' (m + 4) (m + 5))) := by
  intro fu
  induction fu using Nat.strongRecOn with
  | ind fu ih =>
    intro r b t V1 h_fu h_0 h_1 h_2 h_3
    have hm0 := hm
    obtain ⟨a0, a1, a2, a3, a4, a5, a6, a7, a8, a9, a10, a11, a12, a13, a14, a15⟩ := hm
    have hA1 : V1 (m + 1) = V (m + 1) := h_3 _ (by omega)
    have hB1 : MB (V1 (m + 1)) w.1 := by rw [hA1]; exact hB
    obtain ⟨x1, x2, x3, x4, x5, x6⟩ := id (hB1.2.2.2 i hi)
    have hb := x6.2.2.2.2.2.1
    have hl48 := x6.2.2.2.2.2.2.1
    have hv := x6.2.2.2.2.2.2.2.2.2.2.1
    have hcb := cn_le (bth (xof w i).2.1 (fun r => (lst w.1.2.1 r).2) (xof w i).2.2.1) r
    have hct := cn_le (fun r => iso (xof w i).2.1 (lst w.1.2.1 r).2) r
    refine z_iload dX12_far_34 rfl ?_
    refine z_bipush (v := nI 48) dX12_far_36 rfl ?_
    refine z_icmp_geN (tgt := 103) dX12_far_38 (by decide) (by omega) (by omega) (fun c_38 => ?_) (fun c_38 => ?_)
    · have e48 : r = 48 := by omega
      subst e48
      have g1 := gth_ok (d := (xof w i).2.1) (f := (fun r => (lst w.1.2.1 r).2)) (n := 48) (by omega)
      have g2 := sh2_cn hpw g1.1
      have g3 := bth_cn (d := (xof w i).2.1) (f := (fun r => (lst w.1.2.1 r).2)) (l := (xof w i).2.2.1) (n := 48) (by omega)
      have g4 := sh2_le hpw g1.1
      have g5 : cn (sh2 (xof w i).2.2.1 (tbl w i)) (xof w i).2.2.1.length = b := by rw [h_1, g3]; exact g2
      have g6 : (tbl w i).length = t := by rw [h_2]; exact g1.2.2
      have g7 : b ≤ t := by rw [← g5, ← g6]; exact g4.1
      have g8 : b ≤ (w.1.2.2.2 i).2.2.1.length := by rw [← g5]; exact g4.2
      refine z_iload_n dX12_far_103 rfl ?_
      refine z_iload_n dX12_far_104 rfl ?_
      refine z_subN dX12_far_105 (by omega) ?_
      refine z_aload_n dX12_far_106 rfl ?_
      refine z_iload_n dX12_far_107 rfl ?_
      refine z_bipush (v := nI 13) dX12_far_108 rfl ?_
      refine z_callV2i dX12_far_110 kX12_ofIndex lX12_104 (by first | assumption | exact And.left (by assumption)) rfl (s_ofIx hm0 hi (by omega) x3.1) (Nat.le_of_ble_eq_true rfl) (Nat.le_of_ble_eq_true rfl) ⟨Nat.le_of_ble_eq_true rfl, Nat.le_of_ble_eq_true rfl⟩ ?_
      refine z_addN dX12_far_113 ?_
      refine z_iload_n dX12_far_114 rfl ?_
      refine z_subN dX12_far_115 (by omega) ?_
      refine z_ireturn dX12_far_116 (Nat.le_of_ble_eq_true rfl) (Nat.le_of_ble_eq_true rfl) rfl ?_
      refine ⟨congrArg (fun q => some (Value.int (nI q))) ?_, rfl, rfl, h_3⟩
      rw [g5, g6]
      show t - b + (w.1.2.2.2 i).2.2.1.length - b = (w.1.2.2.2 i).2.2.1.length + t - 2 * b
      omega
    · obtain ⟨v1, v2, v3, v4⟩ := hB1.2.1 r (by omega)
      have hat : AT (V1 (m + 1)) (40 * r + 5 * ((w.1.2.1 r).length - 1)) (lst w.1.2.1 r).2 := (v4 ((w.1.2.1 r).length - 1) (by omega)).2.2
      refine z_aload_n dX12_far_41 rfl ?_
      refine z_iload_n dX12_far_42 rfl ?_
      refine z_aload_n dX12_far_43 rfl ?_
      refine z_iload dX12_far_44 rfl ?_
      refine z_callV1i dX12_far_46 kX12_latest lX12_171 (by first | assumption | exact And.left (by assumption)) rfl (s_mLatest hm0 (by omega) (hB1.2.1 r (by omega))) (Nat.le_of_ble_eq_true rfl) (Nat.le_of_ble_eq_true rfl) ⟨Nat.le_of_ble_eq_true rfl, Nat.le_of_ble_eq_true rfl⟩ ?_
      refine z_callV2i dX12_far_49 kX12_isOf lX12_136 (by first | assumption | exact And.left (by assumption)) rfl (s_isOf hm0 hi x2 hb (by omega) hat) (Nat.le_of_ble_eq_true rfl) (Nat.le_of_ble_eq_true rfl) ⟨Nat.le_of_ble_eq_true rfl, Nat.le_of_ble_eq_true rfl⟩ ?_
      refine z_if_neB (tgt := 58) dX12_far_52 (by decide) (fun c_52 => ?_) (fun c_52 => ?_)
      · obtain ⟨c, hc⟩ := Option.ne_none_iff_exists'.mp ((iso_eo (r := r)).mp c_52)
        obtain ⟨p, hp, _, hcp⟩ := eo_c hc
        rw [hp] at hat
        have hp6 := hat.2.1
        refine z_aload_n dX12_far_58 rfl ?_
        refine z_iload_n dX12_far_59 rfl ?_
        refine z_aload_n dX12_far_60 rfl ?_
        refine z_iload dX12_far_61 rfl ?_
        refine z_callV1i dX12_far_63 kX12_latest lX12_171 (by first | assumption | exact And.left (by assumption)) rfl (s_mLatest hm0 (by omega) (hB1.2.1 r (by omega))) (Nat.le_of_ble_eq_true rfl) (Nat.le_of_ble_eq_true rfl) ⟨Nat.le_of_ble_eq_true rfl, Nat.le_of_ble_eq_true rfl⟩ ?_
        refine z_callV2w dX12_far_66 kX12_laysKey lX12_133 (by first | assumption | exact And.left (by assumption)) rfl (s_lk hm0 hi x2 hb (by omega) hat) (Nat.le_of_ble_eq_true rfl) (Nat.le_of_ble_eq_true rfl) ⟨Nat.le_of_ble_eq_true rfl, Nat.le_of_ble_eq_true rfl⟩ ?_
        intro V2 hV2
        obtain ⟨e2, k2⟩ := hV2
        have hA2 : V2 (m + 1) = V1 (m + 1) := e2 _ (by omega)
        rw [← hA2] at x2 x3
        refine z_incN dX12_far_69 rfl rfl ?_
        refine z_iload_n dX12_far_72 rfl ?_
        refine z_aload_n dX12_far_73 rfl ?_
        refine z_iload_n dX12_far_74 rfl ?_
        refine z_aload_n dX12_far_75 rfl ?_
        refine z_iload_n dX12_far_76 rfl ?_
        refine z_iload dX12_far_77 rfl ?_
        refine z_callV2i dX12_far_79 kX12_placeOf lX12_124 (by first | assumption | exact And.left (by assumption)) rfl (s_pl hm0 hi (by omega) x2 hb x3 hl48 hv k2 (RV_rk hp6)) (Nat.le_of_ble_eq_true rfl) (Nat.le_of_ble_eq_true rfl) ⟨Nat.le_of_ble_eq_true rfl, Nat.le_of_ble_eq_true rfl⟩ ?_
        have hpl := pl_le (rk (w.1.2.2.2 i).2.1.1 p 3 * 64 + r) (w.1.2.2.2 i).2.2.1
        refine z_iload dX12_far_82 rfl ?_
        refine z_callV3i dX12_far_84 kX12_isAt lX12_127 (by first | assumption | exact And.left (by assumption)) rfl (s_isAt hm0 hi (by omega) x2 hb x3 hl48 hv k2 (RV_rk hp6) (by omega)) (Nat.le_of_ble_eq_true rfl) (Nat.le_of_ble_eq_true rfl) ⟨Nat.le_of_ble_eq_true rfl, Nat.le_of_ble_eq_true rfl⟩ ?_
        refine z_if_eqB (tgt := 94) dX12_far_87 (by decide) (fun c_87 => ?_) (fun c_87 => ?_)
        · have hb9 : ¬ bth (xof w i).2.1 (fun r => (lst w.1.2.1 r).2) (xof w i).2.2.1 r := fun ⟨c3, z1, z2⟩ => c_87 ((pl_in hpw).mpr (by rw [← hcp, Option.some.inj (hc.symm.trans z1)]; exact z2))
          refine z_iconst (v := nI 0) dX12_far_94 rfl ?_
          refine z_addN dX12_far_95 ?_
          refine z_istore_n dX12_far_96 (Nat.le_of_ble_eq_true rfl) rfl ?_
          refine z_incN dX12_far_97 rfl rfl ?_
          refine z_goto (tgt := 34) dX12_far_100 (by decide) ?_
          first
            | exact ih _ (by omega) (r + 1) b t V1 rfl (by omega) (by rw [cn_n hnb]; exact h_1) (by rw [cn_n (p := fun r => iso (xof w i).2.1 (lst w.1.2.1 r).2) c_52]; exact h_2) h_3
            | exact ih _ (by omega) (r + 1) (b + 0) (t + 1) V2 rfl (by omega) (by rw [cn_n hb9, h_1] <;> rfl) (by rw [cn_y (p := fun r => iso (xof w i).2.1 (lst w.1.2.1 r).2) c_52, h_2]) (h_3.trans e2)
            | exact ih _ (by omega) (r + 1) (b + 1) (t + 1) V2 rfl (by omega) (by rw [cn_y hb9, h_1]) (by rw [cn_y (p := fun r => iso (xof w i).2.1 (lst w.1.2.1 r).2) c_52, h_2]) (h_3.trans e2)
        · have hb9 : bth (xof w i).2.1 (fun r => (lst w.1.2.1 r).2) (xof w i).2.2.1 r := ⟨c, hc, by rw [hcp]; exact (pl_in hpw).mp c_87⟩
          refine z_iconst (v := nI 1) dX12_far_90 rfl ?_
          refine z_goto (tgt := 95) dX12_far_91 (by decide) ?_
          refine z_addN dX12_far_95 ?_
          refine z_istore_n dX12_far_96 (Nat.le_of_ble_eq_true rfl) rfl ?_
          refine z_incN dX12_far_97 rfl rfl ?_
          refine z_goto (tgt := 34) dX12_far_100 (by decide) ?_
          first
            | exact ih _ (by omega) (r + 1) b t V1 rfl (by omega) (by rw [cn_n hnb]; exact h_1) (by rw [cn_n (p := fun r => iso (xof w i).2.1 (lst w.1.2.1 r).2) c_52]; exact h_2) h_3
            | exact ih _ (by omega) (r + 1) (b + 0) (t + 1) V2 rfl (by omega) (by rw [cn_n hb9, h_1] <;> rfl) (by rw [cn_y (p := fun r => iso (xof w i).2.1 (lst w.1.2.1 r).2) c_52, h_2]) (h_3.trans e2)
            | exact ih _ (by omega) (r + 1) (b + 1) (t + 1) V2 rfl (by omega) (by rw [cn_y hb9, h_1]) (by rw [cn_y (p := fun r => iso (xof w i).2.1 (lst w.1.2.1 r).2) c_52, h_2]) (h_3.trans e2)
      · have hnb : ¬ bth (xof w i).2.1 (fun r => (lst w.1.2.1 r).2) (xof w i).2.2.1 r := fun ⟨c, z1, _⟩ => c_52 ((iso_eo (r := r)).mpr (by show eo (xof w i).2.1 (lst w.1.2.1 r).2 r ≠ none; rw [z1]; simp))
        refine z_goto (tgt := 97) dX12_far_55 (by decide) ?_
        refine z_incN dX12_far_97 rfl rfl ?_
        refine z_goto (tgt := 34) dX12_far_100 (by decide) ?_
        first
          | exact ih _ (by omega) (r + 1) b t V1 rfl (by omega) (by rw [cn_n hnb]; exact h_1) (by rw [cn_n (p := fun r => iso (xof w i).2.1 (lst w.1.2.1 r).2) c_52]; exact h_2) h_3
          | exact ih _ (by omega) (r + 1) (b + 0) (t + 1) V2 rfl (by omega) (by rw [cn_n hb9, h_1] <;> rfl) (by rw [cn_y (p := fun r => iso (xof w i).2.1 (lst w.1.2.1 r).2) c_52, h_2]) (h_3.trans e2)
          | exact ih _ (by omega) (r + 1) (b + 1) (t + 1) V2 rfl (by omega) (by rw [cn_y hb9, h_1]) (by rw [cn_y (p := fun r => iso (xof w i).2.1 (lst w.1.2.1 r).2) c_52, h_2]) (h_3.trans e2)

set_option maxHeartbeats 4000000 in
set_option maxRecDepth 100000 in
theorem m_far {D : zD} {z0 nx : Nat} {L : zL} {V : zV} {m : Nat} {w : Wo} (hm : sM L m) (h : MW V m w) {i : Int32} (hpw : ∀ i, i < 2 → PW (xof w i).2.2.1) : Sp D z0 6 0 0 mX12_far [.ref m, .int i] L V nx (zq (some (.int (o_far i w).1)) L nx (fun V' => zEq V V' m (m + 16) ∧ MW V' m (o_far i w).2)) := by
  have hm0 := hm
  have h0 := h
  obtain ⟨a0, a1, a2, a3, a4, a5, a6, a7, a8, a9, a10, a11, a12, a13, a14, a15⟩ := hm
  refine Sp.of 3 (by decide) rfl rfl (Nat.le_of_ble_eq_true rfl) ?_
  refine z_aload_n dX12_far_0 rfl ?_
  refine z_iconst (v := nI 0) dX12_far_1 rfl ?_
  refine z_putI dX12_far_2 fX12_1 (by first | assumption | exact And.left (by assumption)) rfl ?_
  have h9 := MW_thr (x := nI 0) h0
  have e0 : zEq V (zup V m 0 (nI 0)) m (m + 16) := zEq.rf.up (by omega) (by omega)
  generalize zup V m 0 (nI 0) = V1 at h9 e0 ⊢
  clear h0 h
  have h0 := h9
  obtain ⟨k1, k2, k3, k4, k5, k6, k7⟩ := h9
  refine z_iload_n dX12_far_5 rfl ?_
  refine z_callS1i dX12_far_6 kX12_isIndex lX12_346 s_mIx (Nat.le_of_ble_eq_true rfl) (Nat.le_of_ble_eq_true rfl) ⟨Nat.le_of_ble_eq_true rfl, Nat.le_of_ble_eq_true rfl⟩ ?_
  refine z_if_neB (tgt := 15) dX12_far_9 (by decide) (fun c_9 => ?_) (fun c_9 => ?_)
  · obtain ⟨k, hk, rfl⟩ := c_9
    have hT := tn_k (k := k) (by omega)
    have hX0 := k1.2.2.2 k hk
    obtain ⟨x1, x2, x3, x4, x5, x6⟩ := k1.2.2.2 k hk
    obtain ⟨n1, n2, n3, n4, n5⟩ := x1
    have hs6 := x6.1
    refine z_aload_n dX12_far_15 rfl ?_
    refine z_iload_n dX12_far_16 rfl ?_
    refine z_iconst (v := nI 0) dX12_far_17 rfl ?_
    refine z_callV2i dX12_far_18 kX12_ofIndex lX12_104 (by first | assumption | exact And.left (by assumption)) rfl (s_ofIx hm0 hk (by omega) n1) (Nat.le_of_ble_eq_true rfl) (Nat.le_of_ble_eq_true rfl) ⟨Nat.le_of_ble_eq_true rfl, Nat.le_of_ble_eq_true rfl⟩ ?_
    refine z_if_neN (tgt := 27) dX12_far_21 (by decide) (by omega) (fun c_21 => ?_) (fun c_21 => ?_)
    · refine z_iconst (v := nI 0) dX12_far_27 rfl ?_
      refine z_istore_n dX12_far_28 (Nat.le_of_ble_eq_true rfl) rfl ?_
      refine z_iconst (v := nI 0) dX12_far_29 rfl ?_
      refine z_istore_n dX12_far_30 (Nat.le_of_ble_eq_true rfl) rfl ?_
      refine z_iconst (v := nI 0) dX12_far_31 rfl ?_
      refine z_istore dX12_far_32 (Nat.le_of_ble_eq_true rfl) rfl ?_
      have hR : o_far (nI k) w = (nI ((xof w k).2.2.1.length + (tbl w k).length - 2 * cn (sh2 (xof w k).2.2.1 (tbl w k)) (xof w k).2.2.1.length), w) := by unfold o_far; rw [cif_y (rng_k hk), hT, if_neg (show ¬ (xof w k).1.1 = 0 from c_21)]
      rw [hR]
      refine Z.mono (lp_mfar (D := D) (z0 := z0) (nx := nx) hm0 hk k1 (hpw k hk) _ 0 0 0 V1 rfl (by omega) rfl rfl zEq.rf) ?_
      intro r2 L2 V9 n9 h9
      obtain ⟨q1, q2, q3, q4⟩ := h9
      exact ⟨q1, q2, q3, e0.trans (q4.wide (by omega) (by omega)), MW_all h0 (oA.ky q4) (by rw [q4 _ (by omega)]; exact k1)⟩
    · refine z_bipush (v := (-5)) dX12_far_24 rfl ?_
      refine z_ireturn dX12_far_26 (Nat.le_of_ble_eq_true rfl) (Nat.le_of_ble_eq_true rfl) rfl ?_
      rw [show o_far (nI k) w = (-5, w) from by unfold o_far; rw [cif_y (rng_k hk)]; rw [hT]; rw [if_pos (show (xof w k).1.1 = 0 by have z := c_21; show (w.1.2.2.2 k).1.1 = 0; omega)]]
      exact ⟨rfl, rfl, rfl, e0, h0⟩
  · refine z_bipush (v := (-2)) dX12_far_12 rfl ?_
    refine z_ireturn dX12_far_14 (Nat.le_of_ble_eq_true rfl) (Nat.le_of_ble_eq_true rfl) rfl ?_
    rw [show o_far i w = (-2, w) from by unfold o_far; rw [cif_n c_9]]
    exact ⟨rfl, rfl, rfl, e0, h0⟩

