/-! the reference: keys that are alike, asked -/
theorem pl_s {t : List Nat} (h : PW t) (x : Nat) : (x ∈ t → pl (x + 1) t = pl x t + 1) ∧ (¬ x ∈ t → pl (x + 1) t = pl x t) := by
  have hs := PW_srtd h
  have hle := pl_le x t
  constructor
  · intro hx
    obtain ⟨h1, h2⟩ := (pl_in h).mpr hx
    refine pl_eq _ _ _ (fun k hk => ?_) (by omega) (fun z => ?_)
    · by_cases e : k = pl x t
      · rw [e, h2]; omega
      · have := pl_all (c := x) (l := t) (k := k) (by omega)
        omega
    · have := hs (pl x t) (pl x t + 1) (by omega) z
      omega
  · intro hx
    refine pl_eq _ _ _ (fun k hk => by have := pl_all (c := x) (l := t) (k := k) hk; omega) hle (fun z => ?_)
    have h1 := pl_end (c := x) (l := t) z
    have h2 : ¬ t.getD (pl x t) 0 = x := fun e => hx ((pl_in h).mp ⟨z, e⟩)
    omega
theorem pl_at {t : List Nat} (h : PW t) {k : Nat} (hk : k < t.length) : pl (t.getD k 0) t = k := pl_eq _ _ _ (fun j hj => PW_srtd h j k hj hk) (by omega) (fun _ => by omega)
theorem ot_hd {d : Df} {f : Nat → Option Nat} {k : Nat} (hk : k < (gth d f 48).length) : ot (gth d f 48) k ↔ hd1 d f ((gth d f 48).getD k 0 % 64) := by
  obtain ⟨h1, h2, h3⟩ := gth_ok (d := d) (f := f) (n := 48) (by omega)
  have hs := PW_srtd h1
  obtain ⟨r, z1, z2⟩ := (h2 _).mp (mem_getD hk)
  have z3 := eo_r z2 (by omega)
  rw [z3]
  generalize hc : (gth d f 48).getD k 0 = c at *
  -- a row of the same key lies in the list
  have hin : ∀ u, u < 48 → K1 d f r u → ∃ j, j < (gth d f 48).length ∧ (gth d f 48).getD j 0 = c / 64 * 64 + u := fun u hu ⟨a, b, y1, y2, y3⟩ => by
    have e : a = c := Option.some.inj (y1.symm.trans z2)
    obtain ⟨j, j1, j2⟩ := mem_at.mp ((h2 b).mpr ⟨u, hu, y2⟩)
    have := eo_r y2 (by omega)
    exact ⟨j, j1, by rw [j2]; omega⟩
  have hk1 : ∀ j, j < (gth d f 48).length → (gth d f 48).getD j 0 / 64 = c / 64 → (gth d f 48).getD j 0 % 64 < 48 ∧ K1 d f r ((gth d f 48).getD j 0 % 64) := fun j hj e => by
    obtain ⟨u, y1, y2⟩ := (h2 _).mp (mem_getD hj)
    have y3 := eo_r y2 (by omega)
    rw [y3]
    exact ⟨y1, c, _, z2, y2, e.symm⟩
  constructor
  · rintro ⟨g1, g2, g3⟩
    refine ⟨fun u hu hK => ?_, ?_⟩
    · obtain ⟨j, j1, j2⟩ := hin u (by omega) hK
      have hjk : j < k := (getD_lt h1 j1 hk).mp (by rw [j2, hc]; omega)
      rcases g1 with g1 | g1
      · omega
      · apply g1
        have hj2 : (gth d f 48).getD j 0 ≤ (gth d f 48).getD (k - 1) 0 := by
          by_cases e : j = k - 1
          · rw [e]; omega
          · have := hs j (k - 1) (by omega) (by omega)
            omega
        have := hs (k - 1) k (by omega) hk
        rw [hc] at this
        omega
    · obtain ⟨y1, y2⟩ := hk1 (k + 1) g2 (by rw [g3, hc])
      refine ⟨(gth d f 48).getD (k + 1) 0 % 64, ?_, y1, y2⟩
      have := hs k (k + 1) (by omega) g2
      rw [hc] at this
      omega
  · rintro ⟨g1, u, g2, g3, g4⟩
    obtain ⟨j, j1, j2⟩ := hin u g3 g4
    have hkj : k < j := (getD_lt h1 hk j1).mp (by rw [j2, hc]; omega)
    have hk2 : (gth d f 48).getD (k + 1) 0 ≤ (gth d f 48).getD j 0 := by
      by_cases e : j = k + 1
      · rw [e]; omega
      · have := hs (k + 1) j (by omega) j1
        omega
    have hk3 := hs k (k + 1) (by omega) (by omega)
    rw [hc] at hk3
    refine ⟨?_, by omega, by rw [hc]; omega⟩
    by_cases e : k = 0
    · exact Or.inl e
    · refine Or.inr (fun q => ?_)
      rw [hc] at q
      obtain ⟨y1, y2⟩ := hk1 (k - 1) (by omega) q
      have := hs (k - 1) k (by omega) hk
      rw [hc] at this
      exact g1 _ (by omega) y2
theorem kl_len {p : Nat → Prop} : ∀ n, (kl p n).length = cn p n
  | 0 => rfl
  | n + 1 => by
    have ih := kl_len (p := p) n
    by_cases h : p n
    · rw [kl_y h, cn_y h, List.length_append, ih]
      rfl
    · rw [kl_n h, cn_n h, ih]
theorem kl_cn {p : Nat → Prop} : ∀ {n g : Nat}, g < (kl p n).length → cn p ((kl p n).getD g 0) = g
  | 0, g, h => absurd h (by simp [kl])
  | n + 1, g, h => by
    by_cases c : p n
    · rw [kl_y c] at h ⊢
      rw [getD_snocN _ _ _ (by simpa using h)]
      by_cases e : g < (kl p n).length
      · rw [if_pos e]
        exact kl_cn e
      · rw [if_neg e, ← kl_len]
        simp at h
        omega
    · rw [kl_n c] at h ⊢
      exact kl_cn h
theorem kl_pw {p : Nat → Prop} : ∀ n, PW (kl p n)
  | 0 => PW_nil
  | n + 1 => by
    by_cases c : p n
    · rw [kl_y c]
      refine List.pairwise_append.mpr ⟨kl_pw n, List.pairwise_singleton _ _, fun a ha b hb => ?_⟩
      have h1 := (kl_mem.mp ha).1
      have h2 : b = n := by simpa using hb
      omega
    · rw [kl_n c]
      exact kl_pw n
theorem cn_stp {p : Nat → Prop} {a b : Nat} (h : a < b) (ha : p a) : cn p a < cn p b := by
  have h1 := cn_mono p (show a + 1 ≤ b by omega)
  rw [cn_y ha] at h1
  omega
theorem gh_eq (d : Df) (f : Nat → Option Nat) : gh d f 48 = (kl (ot (gth d f 48)) (gth d f 48).length).map (fun k => (gth d f 48).getD k 0) := by
  obtain ⟨h1, h2, h3⟩ := gth_ok (d := d) (f := f) (n := 48) (by omega)
  obtain ⟨w1, w2, w3⟩ := gh_ok (d := d) (f := f) (n := 48) (by omega)
  refine PW_ext w1 ?_ (fun c => ?_)
  · refine List.pairwise_map.mpr (List.Pairwise.imp_of_mem (fun {a b} ha hb hab => ?_) (kl_pw _))
    exact PW_srtd h1 a b hab (kl_mem.mp hb).1
  · rw [w2, List.mem_map]
    constructor
    · rintro ⟨r, z1, z2, z3⟩
      obtain ⟨k, k1, k2⟩ := mem_at.mp ((h2 c).mpr ⟨r, z1, z3⟩)
      refine ⟨k, kl_mem.mpr ⟨k1, (ot_hd k1).mpr ?_⟩, k2⟩
      rw [k2, eo_r z3 (by omega)]
      exact z2
    · rintro ⟨k, k1, k2⟩
      obtain ⟨k3, k4⟩ := kl_mem.mp k1
      obtain ⟨r, z1, z2⟩ := (h2 _).mp (mem_getD k3)
      have z4 := (ot_hd k3).mp k4
      rw [eo_r z2 (by omega)] at z4
      exact ⟨r, z1, z4, by rw [z2, k2]⟩
theorem gh_len (d : Df) (f : Nat → Option Nat) : (gh d f 48).length = cn (ot (gth d f 48)) (gth d f 48).length := by
  rw [gh_eq, List.length_map, kl_len]
theorem tg_ok {d : Df} {f : Nat → Option Nat} {g : Nat} : (g < (gh d f 48).length → tg (gth d f 48) g < (gth d f 48).length ∧ (gh d f 48).getD g 0 = (gth d f 48).getD (tg (gth d f 48) g) 0) ∧ (¬ g < (gh d f 48).length → tg (gth d f 48) g = (gth d f 48).length) := by
  rw [gh_len]
  constructor
  · intro h
    have h1 : g < (kl (ot (gth d f 48)) (gth d f 48).length).length := by rw [kl_len]; exact h
    have h2 := kl_mem.mp (mem_getD h1)
    have h3 := kl_cn h1
    have h4 : tg (gth d f 48) g = (kl (ot (gth d f 48)) (gth d f 48).length).getD g 0 := by
      refine fs_eq (fun k hk q => ?_) (by omega) (fun _ => ⟨h2.2, h3⟩)
      have := cn_stp hk q.1
      omega
    refine ⟨by rw [h4]; exact h2.1, ?_⟩
    rw [h4, gh_eq, List.getD_eq_getElem?_getD, List.getElem?_map, List.getElem?_eq_getElem h1]
    show (gth d f 48).getD _ 0 = _
    rw [List.getD_eq_getElem?_getD (l := kl _ _), List.getElem?_eq_getElem h1]
    rfl
  · intro h
    refine fs_eq (fun k hk q => ?_) (Nat.le_refl _) (fun z => absurd z (by omega))
    have := cn_stp (p := ot (gth d f 48)) hk q.1
    omega
/-- the members of a group, row by row -/
def mb (d : Df) (f : Nat → Option Nat) (h r : Nat) : Prop := r = h ∨ K1 d f h r
theorem mb_in {d : Df} {f : Nat → Option Nat} {h r c : Nat} (hc : eo d (f h) h = some c) (hh : h < 48) (hr : r < 48) : mb d f h r ↔ c / 64 * 64 + r ∈ gth d f 48 := by
  obtain ⟨h1, h2, h3⟩ := gth_ok (d := d) (f := f) (n := 48) (by omega)
  have hc6 := eo_r hc (by omega)
  rw [h2]
  constructor
  · rintro (e | ⟨a, b, y1, y2, y3⟩)
    · exact ⟨h, hh, by rw [hc, e]; congr 1; omega⟩
    · have e : a = c := Option.some.inj (y1.symm.trans hc)
      have := eo_r y2 (by omega)
      exact ⟨r, hr, by rw [y2]; congr 1; omega⟩
  · rintro ⟨u, u1, u2⟩
    have := eo_r u2 (by omega)
    have e : u = r := by omega
    subst e
    exact Or.inr ⟨c, _, hc, u2, by omega⟩

set_option maxHeartbeats 4000000 in
set_option maxRecDepth 100000 in
theorem lp_malike {D : zD} {z0 nx : Nat} {L : zL} {V : zV} {m i g c h k0 : Nat} {w : Wo} {j : Int32} (hm : sM L m) (hi : i < 2) (hB : MB (V (m + 1)) w.1) (hj : ¬ j < 0) (hg : g < 48) (hv : V (m + 15) g = nI h) (hh : h < 48) (hc : eo (xof w i).2.1 ((fun r => (lst w.1.2.1 r).2) h) h = some c) (hk0 : k0 < (tbl w i).length) (hck : (tbl w i).getD k0 0 = c) : ∀ (fu : Nat) (r : Nat) (n : Nat) (V1 : zV), 48 - r = fu → h ≤ r ∧ r ≤ 48 → zEq V V1 (m + 4) (m + 5) → n + k0 = pl (c / 64 * 64 + r) (tbl w i) ∧ n ≤ tn j → Z D z0 9 0 0 mX12_alike 0 0 75 [some (.ref m), some (.int (nI i)), some (.int (nI g)), some (.int j), some (.int (nI n)), some (.int (nI r))] [] L V1 nx (zq (some (.int (rg (tbl w i) k0 (tn j)))) L nx (fun V' => zEq V V' (m + 4) (m + 5))) := by
  intro fu
  induction fu using Nat.strongRecOn with
  | ind fu ih =>
    intro r n V1 h_fu h_0 h_1 h_2
    have hm0 := hm
    obtain ⟨a0, a1, a2, a3, a4, a5, a6, a7, a8, a9, a10, a11, a12, a13, a14, a15⟩ := hm
    have hA1 : V1 (m + 1) = V (m + 1) := h_1 _ (by omega)
    have hB1 : MB (V1 (m + 1)) w.1 := by rw [hA1]; exact hB
    have hv1 : V1 (m + 15) g = nI h := (congrFun (h_1 _ (by omega)) g).trans hv
    obtain ⟨g1, g2, g3⟩ := gth_ok (d := (xof w i).2.1) (f := (fun r => (lst w.1.2.1 r).2)) (n := 48) (by omega)
    have hcl := cn_le (fun r => iso (xof w i).2.1 ((fun r => (lst w.1.2.1 r).2) r)) 48
    have hlt : (tbl w i).length ≤ 48 := by rw [show (tbl w i).length = _ from g3]; exact hcl
    have hpl := pl_le (c / 64 * 64 + r) (tbl w i)
    obtain ⟨n1, n2⟩ := h_2
    have hn48 : n ≤ 48 := by omega
    have hc6 := eo_r hc (by omega)
    refine z_iload dX12_alike_75 rfl ?_
    refine z_bipush (v := nI 48) dX12_alike_77 rfl ?_
    refine z_icmp_geN (tgt := 130) dX12_alike_79 (by decide) (by omega) (by omega) (fun c_79 => ?_) (fun c_79 => ?_)
    · refine z_iconst (v := (-1)) dX12_alike_130 rfl ?_
      refine z_ireturn dX12_alike_131 (Nat.le_of_ble_eq_true rfl) (Nat.le_of_ble_eq_true rfl) rfl ?_
      have e48 : r = 48 := by omega
      subst e48
      have e1 : rg (tbl w i) k0 (tn j) = -1 := by
        refine if_neg (fun ⟨z1, z2⟩ => ?_)
        obtain ⟨u, u1, u2⟩ := (g2 _).mp (mem_getD (l := tbl w i) z1)
        have u3 := eo_r u2 (by omega)
        rw [hck] at z2
        have hnl : ¬ k0 + tn j < pl (c / 64 * 64 + 48) (tbl w i) := by omega
        have hge : ¬ (tbl w i).getD (k0 + tn j) 0 < c / 64 * 64 + 48 := fun q => hnl (by
          rcases Nat.lt_or_ge (k0 + tn j) (pl (c / 64 * 64 + 48) (tbl w i)) with y | y
          · exact y
          · exfalso
            have y1 := pl_end (c := c / 64 * 64 + 48) (l := tbl w i) (by omega)
            rcases Nat.lt_or_ge (pl (c / 64 * 64 + 48) (tbl w i)) (k0 + tn j) with y2 | y2
            · have := PW_srtd g1 _ _ y2 z1
              have e9 : (gth (xof w i).2.1 (fun r => (lst w.1.2.1 r).2) 48) = tbl w i := rfl
              rw [e9] at this
              omega
            · rw [show k0 + tn j = pl (c / 64 * 64 + 48) (tbl w i) by omega] at q
              exact y1 q)
        omega
      rw [e1]
      exact ⟨rfl, rfl, rfl, h_1⟩
    · obtain ⟨s1, s2⟩ := pl_s g1 (c / 64 * 64 + r)
      have hmb := mb_in (d := (xof w i).2.1) (f := (fun r => (lst w.1.2.1 r).2)) (r := r) hc hh (by omega)
      have hjn := nn_k hj
      refine z_iload dX12_alike_82 rfl ?_
      refine z_aload_n dX12_alike_84 rfl ?_
      refine z_getR dX12_alike_85 fX12_65 (by first | assumption | exact And.left (by assumption)) rfl ?_
      refine z_iload_n dX12_alike_88 rfl ?_
      refine z_ialdN dX12_alike_89 (by first | assumption | exact And.left (by assumption)) (by omega) (by decide) hv1 ?_
      refine z_icmp_eqN (tgt := 112) dX12_alike_90 (by decide) (by omega) (by omega) (fun c_90 => ?_) (fun c_90 => ?_)
      · have hM : c / 64 * 64 + r ∈ tbl w i := hmb.mp (Or.inl c_90)
        refine z_iload dX12_alike_112 rfl ?_
        refine z_iload_n dX12_alike_114 rfl ?_
        refine z_icmp_ne (tgt := 121) dX12_alike_115 (by decide) (fun c_115 => ?_) (fun c_115 => ?_)
        · have hjn2 : ¬ tn j = n := fun z => c_115 (by rw [← z]; exact hjn.1.symm)
          refine z_incN dX12_alike_121 rfl rfl ?_
          refine z_incN dX12_alike_124 rfl rfl ?_
          refine z_goto (tgt := 75) dX12_alike_127 (by decide) ?_
          first
            | exact ih _ (by omega) (r + 1) n V2 rfl (by omega) (h_1.trans hV2) ⟨by rw [show c / 64 * 64 + (r + 1) = c / 64 * 64 + r + 1 by omega, show pl (c / 64 * 64 + r + 1) (tbl w i) = pl (c / 64 * 64 + r) (tbl w i) from s2 hN]; exact n1, n2⟩
            | exact ih _ (by omega) (r + 1) (n + 1) V1 rfl (by omega) h_1 ⟨by rw [show c / 64 * 64 + (r + 1) = c / 64 * 64 + r + 1 by omega, show pl (c / 64 * 64 + r + 1) (tbl w i) = pl (c / 64 * 64 + r) (tbl w i) + 1 from s1 hM]; omega, by omega⟩
            | exact ih _ (by omega) (r + 1) (n + 1) V2 rfl (by omega) (h_1.trans hV2) ⟨by rw [show c / 64 * 64 + (r + 1) = c / 64 * 64 + r + 1 by omega, show pl (c / 64 * 64 + r + 1) (tbl w i) = pl (c / 64 * 64 + r) (tbl w i) + 1 from s1 hM]; omega, by omega⟩
        · have hjn2 : tn j = n := by rw [← c_115]; exact tn_k (by omega)
          refine z_iload dX12_alike_118 rfl ?_
          refine z_ireturn dX12_alike_120 (Nat.le_of_ble_eq_true rfl) (Nat.le_of_ble_eq_true rfl) rfl ?_
          have hin := (pl_in g1).mpr hM
          have e1 : rg (tbl w i) k0 (tn j) = nI r := by
            unfold rg
            have e2 : k0 + tn j = pl (c / 64 * 64 + r) (tbl w i) := by omega
            rw [e2, show (tbl w i).getD (pl (c / 64 * 64 + r) (tbl w i)) 0 = c / 64 * 64 + r from hin.2, hck, if_pos ⟨hin.1, by omega⟩]
            congr 1
            omega
          rw [e1]
          first
            | exact ⟨rfl, rfl, rfl, h_1⟩
            | exact ⟨rfl, rfl, rfl, h_1.trans hV2⟩
      · refine z_aload_n dX12_alike_93 rfl ?_
        refine z_iload_n dX12_alike_94 rfl ?_
        refine z_aload_n dX12_alike_95 rfl ?_
        refine z_getR dX12_alike_96 fX12_65 (by first | assumption | exact And.left (by assumption)) rfl ?_
        refine z_iload_n dX12_alike_99 rfl ?_
        refine z_ialdN dX12_alike_100 (by first | assumption | exact And.left (by assumption)) (by omega) (by decide) hv1 ?_
        refine z_iload dX12_alike_101 rfl ?_
        refine z_callV3q dX12_alike_103 kX12_areOneKey lX12_390 (by first | assumption | exact And.left (by assumption)) rfl (s_oneKey hm0 hi hB1 hh (by omega)) (Nat.le_of_ble_eq_true rfl) (Nat.le_of_ble_eq_true rfl) ⟨Nat.le_of_ble_eq_true rfl, Nat.le_of_ble_eq_true rfl⟩ ?_
        intro V2 hV2
        refine z_if_neB (tgt := 112) dX12_alike_106 (by decide) (fun c_106 => ?_) (fun c_106 => ?_)
        · have hM : c / 64 * 64 + r ∈ tbl w i := hmb.mp (Or.inr c_106)
          refine z_iload dX12_alike_112 rfl ?_
          refine z_iload_n dX12_alike_114 rfl ?_
          refine z_icmp_ne (tgt := 121) dX12_alike_115 (by decide) (fun c_115 => ?_) (fun c_115 => ?_)
          · have hjn2 : ¬ tn j = n := fun z => c_115 (by rw [← z]; exact hjn.1.symm)
            refine z_incN dX12_alike_121 rfl rfl ?_
            refine z_incN dX12_alike_124 rfl rfl ?_
            refine z_goto (tgt := 75) dX12_alike_127 (by decide) ?_
            first
              | exact ih _ (by omega) (r + 1) n V2 rfl (by omega) (h_1.trans hV2) ⟨by rw [show c / 64 * 64 + (r + 1) = c / 64 * 64 + r + 1 by omega, show pl (c / 64 * 64 + r + 1) (tbl w i) = pl (c / 64 * 64 + r) (tbl w i) from s2 hN]; exact n1, n2⟩
              | exact ih _ (by omega) (r + 1) (n + 1) V1 rfl (by omega) h_1 ⟨by rw [show c / 64 * 64 + (r + 1) = c / 64 * 64 + r + 1 by omega, show pl (c / 64 * 64 + r + 1) (tbl w i) = pl (c / 64 * 64 + r) (tbl w i) + 1 from s1 hM]; omega, by omega⟩
              | exact ih _ (by omega) (r + 1) (n + 1) V2 rfl (by omega) (h_1.trans hV2) ⟨by rw [show c / 64 * 64 + (r + 1) = c / 64 * 64 + r + 1 by omega, show pl (c / 64 * 64 + r + 1) (tbl w i) = pl (c / 64 * 64 + r) (tbl w i) + 1 from s1 hM]; omega, by omega⟩
          · have hjn2 : tn j = n := by rw [← c_115]; exact tn_k (by omega)
            refine z_iload dX12_alike_118 rfl ?_
            refine z_ireturn dX12_alike_120 (Nat.le_of_ble_eq_true rfl) (Nat.le_of_ble_eq_true rfl) rfl ?_
            have hin := (pl_in g1).mpr hM
            have e1 : rg (tbl w i) k0 (tn j) = nI r := by
              unfold rg
              have e2 : k0 + tn j = pl (c / 64 * 64 + r) (tbl w i) := by omega
              rw [e2, show (tbl w i).getD (pl (c / 64 * 64 + r) (tbl w i)) 0 = c / 64 * 64 + r from hin.2, hck, if_pos ⟨hin.1, by omega⟩]
              congr 1
              omega
            rw [e1]
            first
              | exact ⟨rfl, rfl, rfl, h_1⟩
              | exact ⟨rfl, rfl, rfl, h_1.trans hV2⟩
        · have hN : ¬ c / 64 * 64 + r ∈ tbl w i := fun z => (hmb.mpr z).elim c_90 c_106
          refine z_goto (tgt := 124) dX12_alike_109 (by decide) ?_
          refine z_incN dX12_alike_124 rfl rfl ?_
          refine z_goto (tgt := 75) dX12_alike_127 (by decide) ?_
          first
            | exact ih _ (by omega) (r + 1) n V2 rfl (by omega) (h_1.trans hV2) ⟨by rw [show c / 64 * 64 + (r + 1) = c / 64 * 64 + r + 1 by omega, show pl (c / 64 * 64 + r + 1) (tbl w i) = pl (c / 64 * 64 + r) (tbl w i) from s2 hN]; exact n1, n2⟩
            | exact ih _ (by omega) (r + 1) (n + 1) V1 rfl (by omega) h_1 ⟨by rw [show c / 64 * 64 + (r + 1) = c / 64 * 64 + r + 1 by omega, show pl (c / 64 * 64 + r + 1) (tbl w i) = pl (c / 64 * 64 + r) (tbl w i) + 1 from s1 hM]; omega, by omega⟩
            | exact ih _ (by omega) (r + 1) (n + 1) V2 rfl (by omega) (h_1.trans hV2) ⟨by rw [show c / 64 * 64 + (r + 1) = c / 64 * 64 + r + 1 by omega, show pl (c / 64 * 64 + r + 1) (tbl w i) = pl (c / 64 * 64 + r) (tbl w i) + 1 from s1 hM]; omega, by omega⟩

set_option maxHeartbeats 4000000 in
set_option maxRecDepth 100000 in
theorem m_alike {D : zD} {z0 nx : Nat} {L : zL} {V : zV} {m : Nat} {w : Wo} (hm : sM L m) (h : MW V m w) {i : Int32} {g : Int32} {j : Int32} : Sp D z0 9 0 0 mX12_alike [.ref m, .int i, .int g, .int j] L V nx (zq (some (.int (o_alike i g j w).1)) L nx (fun V' => zEq V V' m (m + 16) ∧ MW V' m (o_alike i g j w).2)) := by
  have hm0 := hm
  have h0 := h
  obtain ⟨a0, a1, a2, a3, a4, a5, a6, a7, a8, a9, a10, a11, a12, a13, a14, a15⟩ := hm
  refine Sp.of 2 (by decide) rfl rfl (Nat.le_of_ble_eq_true rfl) ?_
  refine z_aload_n dX12_alike_0 rfl ?_
  refine z_iconst (v := nI 0) dX12_alike_1 rfl ?_
  refine z_putI dX12_alike_2 fX12_1 (by first | assumption | exact And.left (by assumption)) rfl ?_
  have h9 := MW_thr (x := nI 0) h0
  have e0 : zEq V (zup V m 0 (nI 0)) m (m + 16) := zEq.rf.up (by omega) (by omega)
  generalize zup V m 0 (nI 0) = V1 at h9 e0 ⊢
  clear h0 h
  have h0 := h9
  obtain ⟨k1, k2, k3, k4, k5, k6, k7⟩ := h9
  refine z_iload_n dX12_alike_5 rfl ?_
  refine z_callS1i dX12_alike_6 kX12_isIndex lX12_346 s_mIx (Nat.le_of_ble_eq_true rfl) (Nat.le_of_ble_eq_true rfl) ⟨Nat.le_of_ble_eq_true rfl, Nat.le_of_ble_eq_true rfl⟩ ?_
  refine z_if_neB (tgt := 15) dX12_alike_9 (by decide) (fun c_9 => ?_) (fun c_9 => ?_)
  · refine z_iload_n dX12_alike_15 rfl ?_
    refine z_iconst (v := (-1)) dX12_alike_16 rfl ?_
    refine z_icmp_lt (tgt := 24) dX12_alike_17 (by decide) (fun c_17 => ?_) (fun c_17 => ?_)
    · have c_b : g < -1 ∨ j < 0 := Or.inl c_17
      refine z_bipush (v := (-3)) dX12_alike_24 rfl ?_
      refine z_ireturn dX12_alike_26 (Nat.le_of_ble_eq_true rfl) (Nat.le_of_ble_eq_true rfl) rfl ?_
      rw [show o_alike i g j w = (-3, w) from by unfold o_alike; rw [cif_y c_9]; rw [cif_y c_b]]
      exact ⟨rfl, rfl, rfl, e0, h0⟩
    · refine z_iload_n dX12_alike_20 rfl ?_
      refine z_if_ge (tgt := 27) dX12_alike_21 (by decide) (fun c_21 => ?_) (fun c_21 => ?_)
      · have c_b : ¬ (g < -1 ∨ j < 0) := fun z => z.elim c_17 (Int32.not_lt.mpr c_21)
        obtain ⟨q, hk, rfl⟩ := c_9
        have hT := tn_k (k := q) (by omega)
        have hX0 := k1.2.2.2 q hk
        obtain ⟨x1, x2, x3, x4, x5, x6⟩ := k1.2.2.2 q hk
        obtain ⟨n1, n2, n3, n4, n5⟩ := x1
        have hs6 := x6.1
        refine z_aload_n dX12_alike_27 rfl ?_
        refine z_iload_n dX12_alike_28 rfl ?_
        refine z_iconst (v := nI 0) dX12_alike_29 rfl ?_
        refine z_callV2i dX12_alike_30 kX12_ofIndex lX12_104 (by first | assumption | exact And.left (by assumption)) rfl (s_ofIx hm0 hk (by omega) n1) (Nat.le_of_ble_eq_true rfl) (Nat.le_of_ble_eq_true rfl) ⟨Nat.le_of_ble_eq_true rfl, Nat.le_of_ble_eq_true rfl⟩ ?_
        refine z_if_neN (tgt := 39) dX12_alike_33 (by decide) (by omega) (fun c_33 => ?_) (fun c_33 => ?_)
        · have hR : o_alike (nI q) g j w = (if g = -1 then nI (cn (ot (tbl w q)) (tbl w q).length) else rt (tbl w q) (tn g) (tn j), w) := by unfold o_alike; rw [cif_y (rng_k hk), cif_n c_b, hT, if_neg (show ¬ (xof w q).1.1 = 0 from c_33)]
          refine z_aload_n dX12_alike_39 rfl ?_
          refine z_iload_n dX12_alike_40 rfl ?_
          refine z_callV1w dX12_alike_41 kX12_laysHeads lX12_402 (by first | assumption | exact And.left (by assumption)) rfl (s_heads hm0 hk k1) (Nat.le_of_ble_eq_true rfl) (Nat.le_of_ble_eq_true rfl) ⟨Nat.le_of_ble_eq_true rfl, Nat.le_of_ble_eq_true rfl⟩ ?_
          intro V2 hV2
          obtain ⟨d1, d2, d3⟩ := hV2
          have h2 := MW_hE h0 d1
          obtain ⟨w1, w2, w3⟩ := gh_ok (d := (xof w q).2.1) (f := (fun r => (lst w.1.2.1 r).2)) (n := 48) (by omega)
          have hgl := gh_len (xof w q).2.1 (fun r => (lst w.1.2.1 r).2)
          refine z_iload_n dX12_alike_44 rfl ?_
          refine z_iconst (v := (-1)) dX12_alike_45 rfl ?_
          refine z_icmp_ne (tgt := 54) dX12_alike_46 (by decide) (fun c_46 => ?_) (fun c_46 => ?_)
          · obtain ⟨p, hp9, rfl⟩ : ∃ p, p < 2147483648 ∧ g = nI p := ⟨tn g, (nn_k1 (fun z => c_b (Or.inl z)) c_46).2, (nn_k1 (fun z => c_b (Or.inl z)) c_46).1⟩
            have hP : tn (nI p) = p := nI_clamp (by omega)
            refine z_iload_n dX12_alike_54 rfl ?_
            refine z_aload_n dX12_alike_55 rfl ?_
            refine z_getIe dX12_alike_56 fX12_393 (by first | assumption | exact And.left (by assumption)) rfl d2 ?_
            refine z_icmp_ltN (tgt := 64) dX12_alike_59 (by decide) (by omega) (by omega) (fun c_59 => ?_) (fun c_59 => ?_)
            · have hp := c_59
              obtain ⟨t1, t2⟩ := (tg_ok (d := (xof w q).2.1) (f := (fun r => (lst w.1.2.1 r).2)) (g := p)).1 hp
              obtain ⟨r0, z1, z2, z3⟩ := (w2 _).mp (mem_getD hp)
              have z4 := eo_r z3 (by omega)
              have hv := d3 p hp
              rw [z4] at hv
              refine z_iconst (v := nI 0) dX12_alike_64 rfl ?_
              refine z_istore dX12_alike_65 (Nat.le_of_ble_eq_true rfl) rfl ?_
              refine z_aload_n dX12_alike_67 rfl ?_
              refine z_getR dX12_alike_68 fX12_65 (by first | assumption | exact And.left (by assumption)) rfl ?_
              refine z_iload_n dX12_alike_71 rfl ?_
              refine z_ialdN dX12_alike_72 (by first | assumption | exact And.left (by assumption)) (by omega) (by decide) hv ?_
              refine z_istore dX12_alike_73 (Nat.le_of_ble_eq_true rfl) rfl ?_
              have hB2 : MB (V2 (m + 1)) w.1 := h2.1
              have hjp : ¬ j < 0 := fun z => c_b (Or.inr z)
              obtain ⟨g1, g2, g3⟩ := gth_ok (d := (xof w q).2.1) (f := (fun r => (lst w.1.2.1 r).2)) (n := 48) (by omega)
              have hpl : pl ((gh (xof w q).2.1 (fun r => (lst w.1.2.1 r).2) 48).getD p 0 / 64 * 64 + r0) (tbl w q) = tg (tbl w q) p := by
                rw [show (gh (xof w q).2.1 (fun r => (lst w.1.2.1 r).2) 48).getD p 0 / 64 * 64 + r0 = (gh (xof w q).2.1 (fun r => (lst w.1.2.1 r).2) 48).getD p 0 by omega, t2]
                exact pl_at g1 t1
              refine Z.mono (lp_malike (D := D) (z0 := z0) (nx := nx) (V := V2) (w := w) hm0 hk hB2 hjp (by omega) hv z1 z3 t1 t2.symm _ r0 0 V2 rfl (by omega) zEq.rf ⟨by rw [hpl, Nat.zero_add] <;> rfl, Nat.zero_le _⟩) ?_
              intro r2 L2 V9 n9 h9
              obtain ⟨q1, q2, q3, q4⟩ := h9
              rw [hR, if_neg c_46, hP, show rt (tbl w q) p (tn j) = rg (tbl w q) (tg (tbl w q) p) (tn j) from if_pos t1]
              exact ⟨q1, q2, q3, (e0.trans d1.zeq).trans (q4.wide (by omega) (by omega)), MW_all h2 (oA.ky q4) (by rw [q4 _ (by omega)]; exact hB2)⟩
            · have hrt : rt (tbl w q) p (tn j) = -1 := if_neg (fun z => by have := (tg_ok (d := (xof w q).2.1) (f := (fun r => (lst w.1.2.1 r).2)) (g := p)).2 (by omega); unfold tbl at z; omega)
              refine z_iconst (v := (-1)) dX12_alike_62 rfl ?_
              refine z_ireturn dX12_alike_63 (Nat.le_of_ble_eq_true rfl) (Nat.le_of_ble_eq_true rfl) rfl ?_
              rw [hR, if_neg c_46, hP, hrt]
              exact ⟨rfl, rfl, rfl, e0.trans d1.zeq, h2⟩
          · refine z_aload_n dX12_alike_49 rfl ?_
            refine z_getIe dX12_alike_50 fX12_393 (by first | assumption | exact And.left (by assumption)) rfl d2 ?_
            refine z_ireturn dX12_alike_53 (Nat.le_of_ble_eq_true rfl) (Nat.le_of_ble_eq_true rfl) rfl ?_
            rw [hR, if_pos c_46]
            exact ⟨by rw [hgl] <;> rfl, rfl, rfl, e0.trans d1.zeq, h2⟩
        · refine z_bipush (v := (-5)) dX12_alike_36 rfl ?_
          refine z_ireturn dX12_alike_38 (Nat.le_of_ble_eq_true rfl) (Nat.le_of_ble_eq_true rfl) rfl ?_
          rw [show o_alike (nI q) g j w = (-5, w) from by unfold o_alike; rw [cif_y (rng_k hk)]; rw [cif_n c_b]; rw [hT]; rw [if_pos (show (xof w q).1.1 = 0 by have z := c_33; show (w.1.2.2.2 q).1.1 = 0; omega)]]
          exact ⟨rfl, rfl, rfl, e0, h0⟩
      · have c_b : g < -1 ∨ j < 0 := Or.inr (Int32.not_le.mp c_21)
        refine z_bipush (v := (-3)) dX12_alike_24 rfl ?_
        refine z_ireturn dX12_alike_26 (Nat.le_of_ble_eq_true rfl) (Nat.le_of_ble_eq_true rfl) rfl ?_
        rw [show o_alike i g j w = (-3, w) from by unfold o_alike; rw [cif_y c_9]; rw [cif_y c_b]]
        exact ⟨rfl, rfl, rfl, e0, h0⟩
  · refine z_bipush (v := (-2)) dX12_alike_12 rfl ?_
    refine z_ireturn dX12_alike_14 (Nat.le_of_ble_eq_true rfl) (Nat.le_of_ble_eq_true rfl) rfl ?_
    rw [show o_alike i g j w = (-2, w) from by unfold o_alike; rw [cif_n c_9]]
    exact ⟨rfl, rfl, rfl, e0, h0⟩

