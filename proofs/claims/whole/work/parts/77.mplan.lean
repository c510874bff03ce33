/-! the reference: by which index a query is read -/
def hc (q : List Cd) (c lo hi : Nat) : Prop := ∃ k, k < q.length ∧ ((ck q k).1 = c ∧ lo ≤ (ck q k).2.1 ∧ (ck q k).2.1 ≤ hi)
theorem asL_hc {q : List Cd} {c : Nat} : asL q c ↔ hc q c 0 0 := by
  constructor
  · rintro ⟨k, h1, h2, h3⟩
    exact ⟨k, h1, h2, by omega, by omega⟩
  · rintro ⟨k, h1, h2, h3, h4⟩
    exact ⟨k, h1, h2, by omega⟩
def nw (q : List Cd) (o : List (Nat × Bool)) (n k : Nat) : Prop := ¬ (ck q k).2.1 = 1 ∧ (ck q k).1 = (o.getD n (0, false)).1
theorem po_at {o : List (Nat × Bool)} {n : Nat} (hd : ndc o) (hn : n < o.length) : po o (o.getD n (0, false)).1 = n := fs_eq (fun k hk => hd k n hk hn) (by omega) (fun _ => rfl)
theorem po_yes {o : List (Nat × Bool)} {c : Nat} (h : po o c < o.length) : (o.getD (po o c) (0, false)).1 = c := fs_yes (p := fun k => (o.getD k (0, false)).1 = c) h
theorem inS_s {q : List Cd} {o : List (Nat × Bool)} {n k : Nat} (hd : ndc o) (hn : n < o.length) : (inS o (ck q k) (n + 1) ↔ (inS o (ck q k) n ∨ nw q o n k)) ∧ ¬ (inS o (ck q k) n ∧ nw q o n k) := by
  have h1 := po_at hd hn
  unfold inS nw
  refine ⟨⟨fun ⟨a1, a2, a3⟩ => ?_, fun z => ?_⟩, fun ⟨⟨a1, a2, a3⟩, b1, b2⟩ => ?_⟩
  · by_cases e : po o (ck q k).1 = n
    · refine Or.inr ⟨a1, ?_⟩
      rw [← e]
      exact (po_yes a2).symm
    · exact Or.inl ⟨a1, a2, by omega⟩
  · rcases z with ⟨a1, a2, a3⟩ | ⟨b1, b2⟩
    · exact ⟨a1, a2, by omega⟩
    · rw [b2, h1]
      exact ⟨b1, hn, by omega⟩
  · rw [b2, h1] at a3
    omega
theorem inS_0 {q : List Cd} {o : List (Nat × Bool)} {k : Nat} : ¬ inS o (ck q k) 0 := fun ⟨_, _, a3⟩ => by omega
theorem stc_a {q : List Cd} {o : List (Nat × Bool)} {n : Nat} (h1 : ∀ j, j < n → asL q (o.getD j (0, false)).1) (h2 : n ≤ o.length) (h3 : n < o.length → ¬ asL q (o.getD n (0, false)).1) : stc q o = n := fs_eq (fun k hk z => z (h1 k hk)) h2 h3
theorem inS_fin {q : List Cd} {o : List (Nat × Bool)} {n : Nat} (h1 : ∀ j, j + 1 < n → asL q (o.getD j (0, false)).1) (h2 : n ≤ o.length) (h3 : n = o.length ∨ ¬ (n = 0 ∨ asL q (o.getD (n - 1) (0, false)).1)) (k : Nat) : inS o (ck q k) n ↔ inS o (ck q k) (stc q o + 1) := by
  by_cases c : n = 0 ∨ asL q (o.getD (n - 1) (0, false)).1
  · have e : n = o.length := h3.elim id (fun z => absurd c z)
    have hs : stc q o = n := stc_a (fun j hj => by
      by_cases e2 : j = n - 1
      · rw [e2]
        exact c.elim (fun z => by omega) id
      · exact h1 j (by omega)) h2 (fun z => by omega)
    rw [hs]
    unfold inS
    constructor
    · rintro ⟨a1, a2, a3⟩
      exact ⟨a1, a2, by omega⟩
    · rintro ⟨a1, a2, a3⟩
      exact ⟨a1, a2, by omega⟩
  · have hn : ¬ n = 0 := fun z => c (Or.inl z)
    have hs : stc q o = n - 1 := stc_a (fun j hj => h1 j (by omega)) (by omega) (fun _ z => c (Or.inr z))
    rw [hs, show n - 1 + 1 = n by omega]
/-- only the stretch has changed -/
def sE (V V' : zV) (m : Nat) : Prop := (∀ q, q ≠ m → q ≠ m + 13 → V' q = V q) ∧ ∀ j, j ≠ 29 → V' m j = V m j
theorem sE.rf {V : zV} {m : Nat} : sE V V m := ⟨fun _ _ _ => rfl, fun _ _ => rfl⟩
theorem sE.trans {V V' V'' : zV} {m : Nat} (h : sE V V' m) (h' : sE V' V'' m) : sE V V'' m := ⟨fun q h1 h2 => (h'.1 q h1 h2).trans (h.1 q h1 h2), fun j h1 => (h'.2 j h1).trans (h.2 j h1)⟩
theorem sE.st {V V' : zV} {m k : Nat} {x : Int32} (h : sE V V' m) : sE V (zup V' (m + 13) k x) m := ⟨fun q h1 h2 => by rw [zup_a h2]; exact h.1 q h1 h2, fun j hj => by rw [zup_a (by omega)]; exact h.2 j hj⟩
theorem sE.mn {V V' : zV} {m : Nat} {x : Int32} (h : sE V V' m) : sE V (zup V' m 29 x) m := ⟨fun q h1 h2 => by rw [zup_a h1]; exact h.1 q h1 h2, fun j hj => by rw [zup_k hj]; exact h.2 j hj⟩
theorem sE.q {V V' : zV} {m : Nat} {q : Qu} (h : sE V V' m) (hq : MqS V m q) : MqS V' m q := by
  obtain ⟨q1, q2, q3, q4, q5, q6⟩ := hq
  exact ⟨by rw [h.2 24 (by decide)]; exact q1, q2, fun k hk => by rw [h.1 (m + 9) (by omega) (by omega)]; exact q3 k hk, by rw [h.2 25 (by decide)]; exact q4, q5, fun k hk => by rw [h.1 (m + 10) (by omega) (by omega)]; exact q6 k hk⟩
theorem sE.zeq {V V' : zV} {m : Nat} (h : sE V V' m) : zEq V V' m (m + 16) := fun q hq => h.1 q (by omega) (by omega)
theorem MW_sE {V V' : zV} {m : Nat} {w : Wo} (h : MW V m w) (he : sE V V' m) : MW V' m w := by
  obtain ⟨h1, h2, h3, h4, h5, h6, h7⟩ := h
  have E := fun (q : Nat) (c : q = m + 1 ∨ q = m + 2 ∨ q = m + 3 ∨ q = m + 8 ∨ q = m + 6) => he.1 q (by omega) (by omega)
  refine ⟨by rw [E (m + 1) (by omega)]; exact h1, ⟨h2.1, by rw [he.2 3 (by decide)]; exact h2.2.1, fun q hq => by rw [E (m + 2) (by omega)]; exact h2.2.2 q hq⟩, fun i hi => ⟨by rw [E (m + 3) (by omega)]; exact (h3 i hi).1, fun s hs => by rw [E (m + 1) (by omega)]; exact (h3 i hi).2 s hs⟩, ?_, ⟨by rw [he.2 6 (by decide)]; exact h5.1, h5.2⟩, ?_, fun q hq => by rw [E (m + 8) (by omega)]; exact h7 q hq⟩
  · obtain ⟨g1, g2, g3, g4, g5, g6⟩ := h4
    exact ⟨by rw [he.2 9 (by decide)]; exact g1, by rw [he.2 12 (by decide)]; exact g2, by rw [he.2 13 (by decide)]; exact g3, g4, g5, fun j hj => by rw [E (m + 6) (by omega)]; exact g6 j hj⟩
  · show MqO _ m w.2.2.2.2.2
    cases hq : w.2.2.2.2.2 with
    | none =>
      rw [hq] at h6
      show V' m 24 = -1
      rw [he.2 24 (by decide)]
      exact h6
    | some q =>
      rw [hq] at h6
      exact he.q h6

set_option maxHeartbeats 4000000 in
set_option maxRecDepth 100000 in
theorem lp_hasC {D : zD} {z0 nx : Nat} {L : zL} {V : zV} {m c lo hi : Nat} {q : Qu} (hm : sM L m) (hq : MqS V m q) (hc1 : c < 1000) (hlo : lo < 10) (hhi : hi < 10) : ∀ (fu : Nat) (j : Nat), 4 - j = fu → j ≤ q.1.length → (∀ i, i < j → ¬ ((ck q.1 i).1 = c ∧ lo ≤ (ck q.1 i).2.1 ∧ (ck q.1 i).2.1 ≤ hi)) → Z D z0 2 0 0 mX12_hasCond 0 0 3 [some (.ref m), some (.int (nI c)), some (.int (nI lo)), some (.int (nI hi)), some (.int (nI j))] [] L V nx (zi (zb (hc q.1 c lo hi)) L V nx) := by
  intro fu
  induction fu using Nat.strongRecOn with
  | ind fu ih =>
    intro j h_fu h_0 h_1
    have hm0 := hm
    obtain ⟨a0, a1, a2, a3, a4, a5, a6, a7, a8, a9, a10, a11, a12, a13, a14, a15⟩ := hm
    obtain ⟨q1, q2, q3, q4, q5, q6⟩ := id hq
    refine z_iload dX12_hasCond_3 rfl ?_
    refine z_aload_n dX12_hasCond_5 rfl ?_
    refine z_getIe dX12_hasCond_6 fX12_53 (by first | assumption | exact And.left (by assumption)) rfl q1 ?_
    refine z_icmp_geN (tgt := 55) dX12_hasCond_9 (by decide) (by omega) (by omega) (fun c_9 => ?_) (fun c_9 => ?_)
    · refine z_iconst (v := nI 0) dX12_hasCond_55 rfl ?_
      refine z_zreturn dX12_hasCond_56 (Nat.le_of_ble_eq_true rfl) (Nat.le_of_ble_eq_true rfl) rfl (by first | exact Or.inl rfl | exact Or.inr rfl | exact zb_01 _ | assumption) ?_
      exact zi_r (by rw [zb_f (show ¬ hc q.1 c lo hi from fun ⟨k, k1, k2⟩ => h_1 k (by omega) k2)] <;> rfl)
    · obtain ⟨u1, u2, u3, u4, u5, u6⟩ := q3 j (by omega)
      refine z_aload_n dX12_hasCond_12 rfl ?_
      refine z_getR dX12_hasCond_13 fX12_44 (by first | assumption | exact And.left (by assumption)) rfl ?_
      refine z_iconst (v := nI 3) dX12_hasCond_16 rfl ?_
      refine z_iload dX12_hasCond_17 rfl ?_
      refine z_mulN dX12_hasCond_19 ?_
      refine z_ialdN dX12_hasCond_20 (by first | assumption | exact And.left (by assumption)) (by omega) (by decide) u1 ?_
      refine z_iload_n dX12_hasCond_21 rfl ?_
      refine z_icmp_neN (tgt := 49) dX12_hasCond_22 (by decide) (by omega) (by omega) (fun c_22 => ?_) (fun c_22 => ?_)
      · have hN : ¬ ((ck q.1 j).1 = c ∧ lo ≤ (ck q.1 j).2.1 ∧ (ck q.1 j).2.1 ≤ hi) := fun z => c_22 z.1
        refine z_incN dX12_hasCond_49 rfl rfl ?_
        refine z_goto (tgt := 3) dX12_hasCond_52 (by decide) ?_
        exact ih _ (by omega) (j + 1) rfl (by omega) (lt_s h_1 hN)
      · refine z_aload_n dX12_hasCond_25 rfl ?_
        refine z_getR dX12_hasCond_26 fX12_44 (by first | assumption | exact And.left (by assumption)) rfl ?_
        refine z_iconst (v := nI 3) dX12_hasCond_29 rfl ?_
        refine z_iload dX12_hasCond_30 rfl ?_
        refine z_mulN dX12_hasCond_32 ?_
        refine z_iconst (v := nI 1) dX12_hasCond_33 rfl ?_
        refine z_addN dX12_hasCond_34 ?_
        refine z_ialdN dX12_hasCond_35 (by first | assumption | exact And.left (by assumption)) (by omega) (by decide) u2 ?_
        refine z_i2l dX12_hasCond_36 ?_
        refine z_iload_n dX12_hasCond_37 rfl ?_
        refine z_i2l dX12_hasCond_38 ?_
        refine z_iload_n dX12_hasCond_39 rfl ?_
        refine z_i2l dX12_hasCond_40 ?_
        refine z_callS3i dX12_hasCond_41 kX12_isIn lX12_86 (s_isIn (v := (nI (ck q.1 j).2.1).toInt64) (l := (nI lo).toInt64) (h := (nI hi).toInt64)) (Nat.le_of_ble_eq_true rfl) (Nat.le_of_ble_eq_true rfl) ⟨Nat.le_of_ble_eq_true rfl, Nat.le_of_ble_eq_true rfl⟩ ?_
        rw [i64, i64, i64, nI_toInt (by omega), nI_toInt (by omega), nI_toInt (by omega)]
        refine z_if_eqB (tgt := 49) dX12_hasCond_44 (by decide) (fun c_44 => ?_) (fun c_44 => ?_)
        · have hN : ¬ ((ck q.1 j).1 = c ∧ lo ≤ (ck q.1 j).2.1 ∧ (ck q.1 j).2.1 ≤ hi) := fun z => c_44 (by omega)
          refine z_incN dX12_hasCond_49 rfl rfl ?_
          refine z_goto (tgt := 3) dX12_hasCond_52 (by decide) ?_
          exact ih _ (by omega) (j + 1) rfl (by omega) (lt_s h_1 hN)
        · refine z_iconst (v := nI 1) dX12_hasCond_47 rfl ?_
          refine z_zreturn dX12_hasCond_48 (Nat.le_of_ble_eq_true rfl) (Nat.le_of_ble_eq_true rfl) rfl (by first | exact Or.inl rfl | exact Or.inr rfl | exact zb_01 _ | assumption) ?_
          exact zi_r (by rw [zb_t (show hc q.1 c lo hi from ⟨j, by omega, c_22, by omega, by omega⟩)] <;> rfl)

set_option maxHeartbeats 4000000 in
set_option maxRecDepth 100000 in
theorem s_hasC {D : zD} {z0 nx : Nat} {L : zL} {V : zV} {m c lo hi : Nat} {q : Qu} (hm : sM L m) (hq : MqS V m q) (hc1 : c < 1000) (hlo : lo < 10) (hhi : hi < 10) : Sp D z0 2 0 0 mX12_hasCond [.ref m, .int (nI c), .int (nI lo), .int (nI hi)] L V nx (zi (zb (hc q.1 c lo hi)) L V nx) := by
  refine Sp.of 1 (by decide) rfl rfl (Nat.le_of_ble_eq_true rfl) ?_
  refine z_iconst (v := nI 0) dX12_hasCond_0 rfl ?_
  refine z_istore dX12_hasCond_1 (Nat.le_of_ble_eq_true rfl) rfl ?_
  exact lp_hasC hm hq hc1 hlo hhi _ 0 rfl (by omega) (fun i hi => absurd hi (by omega))

set_option maxHeartbeats 4000000 in
set_option maxRecDepth 100000 in
theorem lp_st1 {D : zD} {z0 nx : Nat} {L : zL} {V : zV} {m i : Nat} {d : Df} {q : Qu} (hm : sM L m) (hq : MqS V m q) (hi : i < 2) (hd : MXd (V (m + 1)) (2140 + 1600 * i) d) (hb : Dfb d) (hnd : ndc d.1) {n : Nat} {x2 : Int32} (hn : n < d.1.length) {P : zP} (K : ∀ V2, sE V V2 m → V2 m 29 = nI (cn (fun k => inS d.1 (ck q.1 k) (n + 1)) q.1.length) → (∀ k, k < q.1.length → V2 (m + 13) k = zb (inS d.1 (ck q.1 k) (n + 1))) → Z D z0 4 0 0 mX12_laysStretch 0 0 131 [some (.ref m), some (.int (nI i)), some (.int x2), some (.int (nI n)), some (.int (nI (d.1.getD n (0, false)).1)), none] [] L V2 nx P) : ∀ (fu : Nat) (j : Nat) (V1 : zV), 4 - j = fu → j ≤ q.1.length → sE V V1 m → V1 m 29 = nI (cn (fun k => inS d.1 (ck q.1 k) n) q.1.length + cn (nw q.1 d.1 n) j) → (∀ k, k < q.1.length → V1 (m + 13) k = zb (if k < j then inS d.1 (ck q.1 k) (n + 1) else inS d.1 (ck q.1 k) n)) → Z D z0 4 0 0 mX12_laysStretch 0 0 66 [some (.ref m), some (.int (nI i)), some (.int x2), some (.int (nI n)), some (.int (nI (d.1.getD n (0, false)).1)), some (.int (nI j))] [] L V1 nx (P) := by
  intro fu
  induction fu using Nat.strongRecOn with
  | ind fu ih =>
    intro j V1 h_fu h_0 h_1 h_2 h_3
    have hm0 := hm
    obtain ⟨a0, a1, a2, a3, a4, a5, a6, a7, a8, a9, a10, a11, a12, a13, a14, a15⟩ := hm
    obtain ⟨q1, q2, q3, q4, q5, q6⟩ := id (h_1.q hq)
    have hcb := hb.2.1 n hn
    have hcl := cn_le (fun k => inS d.1 (ck q.1 k) n) q.1.length
    have hcl2 := cn_le (nw q.1 d.1 n) j
    have hss := inS_s (q := q.1) (k := j) hnd hn
    refine z_iload dX12_laysStretch_66 rfl ?_
    refine z_aload_n dX12_laysStretch_68 rfl ?_
    refine z_getIe dX12_laysStretch_69 fX12_53 (by first | assumption | exact And.left (by assumption)) rfl q1 ?_
    refine z_icmp_geN (tgt := 131) dX12_laysStretch_72 (by decide) (by omega) (by omega) (fun c_72 => ?_) (fun c_72 => ?_)
    · have ej : j = q.1.length := by omega
      subst ej
      refine z_fg 5 ?_
      refine K V1 h_1 ?_ (fun k hk => by rw [h_3 k hk, if_pos hk])
      rw [h_2, cn_two (p := fun k => inS d.1 (ck q.1 k) n) (r := nw q.1 d.1 n) (q := fun k => inS d.1 (ck q.1 k) (n + 1)) (fun k hk => inS_s hnd hn)]
    · obtain ⟨u1, u2, u3, u4, u5, u6⟩ := q3 j (by omega)
      refine z_aload_n dX12_laysStretch_75 rfl ?_
      refine z_getR dX12_laysStretch_76 fX12_44 (by first | assumption | exact And.left (by assumption)) rfl ?_
      refine z_iconst (v := nI 3) dX12_laysStretch_79 rfl ?_
      refine z_iload dX12_laysStretch_80 rfl ?_
      refine z_mulN dX12_laysStretch_82 ?_
      refine z_ialdN dX12_laysStretch_83 (by first | assumption | exact And.left (by assumption)) (by omega) (by decide) u1 ?_
      refine z_iload dX12_laysStretch_84 rfl ?_
      refine z_icmp_neN (tgt := 125) dX12_laysStretch_86 (by decide) (by omega) (by omega) (fun c_86 => ?_) (fun c_86 => ?_)
      · have hN : ¬ nw q.1 d.1 n j := fun z => c_86 z.2
        refine z_incN dX12_laysStretch_125 rfl rfl ?_
        refine z_goto (tgt := 66) dX12_laysStretch_128 (by decide) ?_
        first
          | (refine ih _ (by omega) (j + 1) _ rfl (by omega) h_1 (by rw [cn_n hN]; exact h_2) (fun k hk => ?_)
             rw [h_3 k hk]
             refine zb_iff ?_
             by_cases e : k < j
             · rw [if_pos e, if_pos (by omega)]
             · by_cases e2 : k = j
               · subst e2
                 rw [if_neg e, if_pos (by omega)]
                 exact ⟨fun z => hss.1.mpr (Or.inl z), fun z => (hss.1.mp z).elim id (fun y => absurd y hN)⟩
               · rw [if_neg e, if_neg (by omega)])
          | (refine ih _ (by omega) (j + 1) _ rfl (by omega) (h_1.st.mn) (by rw [cn_y hY, zup_s] <;> rfl) (fun k hk => ?_)
             rw [zup_a (by omega)]
             by_cases e2 : k = j
             · subst e2
               rw [zup_s, if_pos (by omega), zb_t (hss.1.mpr (Or.inr hY))]
               rfl
             · rw [zup_k e2, h_3 k hk]
               refine zb_iff ?_
               by_cases e : k < j
               · rw [if_pos e, if_pos (by omega)]
               · rw [if_neg e, if_neg (by omega)])
      · refine z_aload_n dX12_laysStretch_89 rfl ?_
        refine z_getR dX12_laysStretch_90 fX12_44 (by first | assumption | exact And.left (by assumption)) rfl ?_
        refine z_iconst (v := nI 3) dX12_laysStretch_93 rfl ?_
        refine z_iload dX12_laysStretch_94 rfl ?_
        refine z_mulN dX12_laysStretch_96 ?_
        refine z_iconst (v := nI 1) dX12_laysStretch_97 rfl ?_
        refine z_addN dX12_laysStretch_98 ?_
        refine z_ialdN dX12_laysStretch_99 (by first | assumption | exact And.left (by assumption)) (by omega) (by decide) u2 ?_
        refine z_iconst (v := nI 1) dX12_laysStretch_100 rfl ?_
        refine z_icmp_neN (tgt := 107) dX12_laysStretch_101 (by decide) (by omega) (by omega) (fun c_101 => ?_) (fun c_101 => ?_)
        · have hY : nw q.1 d.1 n j := ⟨c_101, c_86⟩
          refine z_aload_n dX12_laysStretch_107 rfl ?_
          refine z_getR dX12_laysStretch_108 fX12_59 (by first | assumption | exact And.left (by assumption)) rfl ?_
          refine z_iload dX12_laysStretch_111 rfl ?_
          refine z_iconst (v := nI 1) dX12_laysStretch_113 rfl ?_
          refine z_zastN dX12_laysStretch_114 (by first | assumption | exact And.left (by assumption)) (by omega) (by decide) (by first | exact Or.inl rfl | exact Or.inr rfl | exact zb_01 _ | assumption) ?_
          refine z_aload_n dX12_laysStretch_115 rfl ?_
          refine z_dup dX12_laysStretch_116 rfl ?_
          refine z_getIe dX12_laysStretch_117 fX12_322 (by first | assumption | exact And.left (by assumption)) rfl ((congrFun (zup_a (by omega)) 29).trans h_2) ?_
          refine z_iconst (v := nI 1) dX12_laysStretch_120 rfl ?_
          refine z_addN dX12_laysStretch_121 ?_
          refine z_putI dX12_laysStretch_122 fX12_322 (by first | assumption | exact And.left (by assumption)) rfl ?_
          refine z_incN dX12_laysStretch_125 rfl rfl ?_
          refine z_goto (tgt := 66) dX12_laysStretch_128 (by decide) ?_
          first
            | (refine ih _ (by omega) (j + 1) _ rfl (by omega) h_1 (by rw [cn_n hN]; exact h_2) (fun k hk => ?_)
               rw [h_3 k hk]
               refine zb_iff ?_
               by_cases e : k < j
               · rw [if_pos e, if_pos (by omega)]
               · by_cases e2 : k = j
                 · subst e2
                   rw [if_neg e, if_pos (by omega)]
                   exact ⟨fun z => hss.1.mpr (Or.inl z), fun z => (hss.1.mp z).elim id (fun y => absurd y hN)⟩
                 · rw [if_neg e, if_neg (by omega)])
            | (refine ih _ (by omega) (j + 1) _ rfl (by omega) (h_1.st.mn) (by rw [cn_y hY, zup_s] <;> rfl) (fun k hk => ?_)
               rw [zup_a (by omega)]
               by_cases e2 : k = j
               · subst e2
                 rw [zup_s, if_pos (by omega), zb_t (hss.1.mpr (Or.inr hY))]
                 rfl
               · rw [zup_k e2, h_3 k hk]
                 refine zb_iff ?_
                 by_cases e : k < j
                 · rw [if_pos e, if_pos (by omega)]
                 · rw [if_neg e, if_neg (by omega)])
        · have hN : ¬ nw q.1 d.1 n j := fun z => z.1 c_101
          refine z_goto (tgt := 125) dX12_laysStretch_104 (by decide) ?_
          refine z_incN dX12_laysStretch_125 rfl rfl ?_
          refine z_goto (tgt := 66) dX12_laysStretch_128 (by decide) ?_
          first
            | (refine ih _ (by omega) (j + 1) _ rfl (by omega) h_1 (by rw [cn_n hN]; exact h_2) (fun k hk => ?_)
               rw [h_3 k hk]
               refine zb_iff ?_
               by_cases e : k < j
               · rw [if_pos e, if_pos (by omega)]
               · by_cases e2 : k = j
                 · subst e2
                   rw [if_neg e, if_pos (by omega)]
                   exact ⟨fun z => hss.1.mpr (Or.inl z), fun z => (hss.1.mp z).elim id (fun y => absurd y hN)⟩
                 · rw [if_neg e, if_neg (by omega)])
            | (refine ih _ (by omega) (j + 1) _ rfl (by omega) (h_1.st.mn) (by rw [cn_y hY, zup_s] <;> rfl) (fun k hk => ?_)
               rw [zup_a (by omega)]
               by_cases e2 : k = j
               · subst e2
                 rw [zup_s, if_pos (by omega), zb_t (hss.1.mpr (Or.inr hY))]
                 rfl
               · rw [zup_k e2, h_3 k hk]
                 refine zb_iff ?_
                 by_cases e : k < j
                 · rw [if_pos e, if_pos (by omega)]
                 · rw [if_neg e, if_neg (by omega)])

set_option maxHeartbeats 4000000 in
set_option maxRecDepth 100000 in
theorem lp_st2 {D : zD} {z0 nx : Nat} {L : zL} {V : zV} {m i : Nat} {d : Df} {q : Qu} (hm : sM L m) (hq : MqS V m q) (hi : i < 2) (hd : MXd (V (m + 1)) (2140 + 1600 * i) d) (hb : Dfb d) (hnd : ndc d.1) : ∀ (fu : Nat) (n : Nat) (x : Int32) (V1 : zV), 4 - n = fu → n ≤ d.1.length → sE V V1 m → V1 m 29 = nI (cn (fun k => inS d.1 (ck q.1 k) n) q.1.length) → (∀ k, k < q.1.length → V1 (m + 13) k = zb (inS d.1 (ck q.1 k) n)) → (∀ j, j + 1 < n → asL q.1 (d.1.getD j (0, false)).1) → x = zb (n = 0 ∨ asL q.1 (d.1.getD (n - 1) (0, false)).1) → Z D z0 4 0 0 mX12_laysStretch 0 0 32 [some (.ref m), some (.int (nI i)), some (.int x), some (.int (nI n)), none, none] [] L V1 nx (zq none L nx (fun V' => sE V V' m ∧ V' m 29 = nI (stz q.1 d.1) ∧ ∀ k, k < q.1.length → V' (m + 13) k = zb (inS d.1 (ck q.1 k) (stc q.1 d.1 + 1)))) := by
  intro fu
  induction fu using Nat.strongRecOn with
  | ind fu ih =>
    intro n x V1 h_fu h_0 h_1 h_2 h_3 h_4 h_5
    have hm0 := hm
    obtain ⟨a0, a1, a2, a3, a4, a5, a6, a7, a8, a9, a10, a11, a12, a13, a14, a15⟩ := hm
    subst h_5
    have hd1 : MXd (V1 (m + 1)) (2140 + 1600 * i) d := by rw [h_1.1 _ (by omega) (by omega)]; exact hd
    have hq1 := h_1.q hq
    have hbl := hb.1
    refine z_iload_n dX12_laysStretch_32 rfl ?_
    refine z_aload_n dX12_laysStretch_33 rfl ?_
    refine z_iload_n dX12_laysStretch_34 rfl ?_
    refine z_iconst (v := nI 5) dX12_laysStretch_35 rfl ?_
    refine z_callV2i dX12_laysStretch_36 kX12_ofIndex lX12_104 (by first | assumption | exact And.left (by assumption)) rfl (s_ofIx hm0 hi (by omega) hd1.2.1) (Nat.le_of_ble_eq_true rfl) (Nat.le_of_ble_eq_true rfl) ⟨Nat.le_of_ble_eq_true rfl, Nat.le_of_ble_eq_true rfl⟩ ?_
    refine z_icmp_geN (tgt := 137) dX12_laysStretch_39 (by decide) (by omega) (by omega) (fun c_39 => ?_) (fun c_39 => ?_)
    · have hF : n = d.1.length ∨ ¬ (n = 0 ∨ asL q.1 (d.1.getD (n - 1) (0, false)).1) := Or.inl (by omega)
      refine z_return dX12_laysStretch_137 (Nat.le_of_ble_eq_true rfl) (Nat.le_of_ble_eq_true rfl) rfl ?_
      have hfin := inS_fin h_4 h_0 hF
      refine ⟨rfl, rfl, rfl, h_1, ?_, fun k hk => by rw [h_3 k hk]; exact zb_iff (hfin k)⟩
      rw [h_2]
      exact congrArg nI (cn_cg (fun k _ => hfin k))
    · refine z_iload_n dX12_laysStretch_42 rfl ?_
      refine z_if_eqB (tgt := 137) dX12_laysStretch_43 (by decide) (fun c_43 => ?_) (fun c_43 => ?_)
      · have hF : n = d.1.length ∨ ¬ (n = 0 ∨ asL q.1 (d.1.getD (n - 1) (0, false)).1) := Or.inr c_43
        refine z_return dX12_laysStretch_137 (Nat.le_of_ble_eq_true rfl) (Nat.le_of_ble_eq_true rfl) rfl ?_
        have hfin := inS_fin h_4 h_0 hF
        refine ⟨rfl, rfl, rfl, h_1, ?_, fun k hk => by rw [h_3 k hk]; exact zb_iff (hfin k)⟩
        rw [h_2]
        exact congrArg nI (cn_cg (fun k _ => hfin k))
      · have hn : n < d.1.length := by omega
        have hcb := hb.2.1 n hn
        refine z_aload_n dX12_laysStretch_46 rfl ?_
        refine z_iload_n dX12_laysStretch_47 rfl ?_
        refine z_iload_n dX12_laysStretch_48 rfl ?_
        refine z_callV2i dX12_laysStretch_49 kX12_columnOf lX12_111 (by first | assumption | exact And.left (by assumption)) rfl (s_mCol hm0 hi hd1 hb hn) (Nat.le_of_ble_eq_true rfl) (Nat.le_of_ble_eq_true rfl) ⟨Nat.le_of_ble_eq_true rfl, Nat.le_of_ble_eq_true rfl⟩ ?_
        refine z_istore dX12_laysStretch_52 (Nat.le_of_ble_eq_true rfl) rfl ?_
        refine z_aload_n dX12_laysStretch_54 rfl ?_
        refine z_iload dX12_laysStretch_55 rfl ?_
        refine z_iconst (v := nI 0) dX12_laysStretch_57 rfl ?_
        refine z_iconst (v := nI 0) dX12_laysStretch_58 rfl ?_
        refine z_callV3i dX12_laysStretch_59 kX12_hasCond lX12_319 (by first | assumption | exact And.left (by assumption)) rfl (s_hasC hm0 hq1 (by omega) (by decide) (by decide)) (Nat.le_of_ble_eq_true rfl) (Nat.le_of_ble_eq_true rfl) ⟨Nat.le_of_ble_eq_true rfl, Nat.le_of_ble_eq_true rfl⟩ ?_
        refine z_istore_n dX12_laysStretch_62 (Nat.le_of_ble_eq_true rfl) rfl ?_
        refine z_iconst (v := nI 0) dX12_laysStretch_63 rfl ?_
        refine z_istore dX12_laysStretch_64 (Nat.le_of_ble_eq_true rfl) rfl ?_
        refine lp_st1 (V := V1) hm0 hq1 hi hd1 hb hnd hn (fun V2 k1 k2 k3 => ?_) _ 0 V1 rfl (by omega) sE.rf (by rw [h_2]; rfl) (fun k hk => by rw [h_3 k hk, if_neg (by omega)])
        refine z_incN dX12_laysStretch_131 rfl rfl ?_
        refine z_goto (tgt := 32) dX12_laysStretch_134 (by decide) ?_
        refine z_fg 4 ?_
        refine ih _ (by omega) (n + 1) _ _ rfl (by omega) (h_1.trans k1) k2 k3 (fun j hj => ?_) (zb_iff (asL_hc.symm.trans ⟨Or.inr, fun z => z.elim (fun y => absurd y (by omega)) id⟩))
        by_cases e : j = n - 1
        · rw [e]
          exact c_43.elim (fun z => by omega) id
        · exact h_4 j (by omega)

set_option maxHeartbeats 4000000 in
set_option maxRecDepth 100000 in
theorem lp_st0 {D : zD} {z0 nx : Nat} {L : zL} {V : zV} {m i : Nat} {d : Df} {q : Qu} (hm : sM L m) (hq : MqS V m q) (hi : i < 2) (hd : MXd (V (m + 1)) (2140 + 1600 * i) d) (hb : Dfb d) (hnd : ndc d.1) {P : zP} (K : ∀ V2, sE V V2 m → (∀ k, k < q.1.length → V2 (m + 13) k = nI 0) → Z D z0 4 0 0 mX12_laysStretch 0 0 23 [some (.ref m), some (.int (nI i)), none, none, none, none] [] L V2 nx P) : ∀ (fu : Nat) (j : Nat) (V1 : zV), 4 - j = fu → j ≤ q.1.length → sE V V1 m → (∀ k, k < j → V1 (m + 13) k = nI 0) → Z D z0 4 0 0 mX12_laysStretch 0 0 2 [some (.ref m), some (.int (nI i)), some (.int (nI j)), none, none, none] [] L V1 nx (P) := by
  intro fu
  induction fu using Nat.strongRecOn with
  | ind fu ih =>
    intro j V1 h_fu h_0 h_1 h_2
    have hm0 := hm
    obtain ⟨a0, a1, a2, a3, a4, a5, a6, a7, a8, a9, a10, a11, a12, a13, a14, a15⟩ := hm
    obtain ⟨q1, q2, q3, q4, q5, q6⟩ := id (h_1.q hq)
    refine z_iload_n dX12_laysStretch_2 rfl ?_
    refine z_aload_n dX12_laysStretch_3 rfl ?_
    refine z_getIe dX12_laysStretch_4 fX12_53 (by first | assumption | exact And.left (by assumption)) rfl q1 ?_
    refine z_icmp_geN (tgt := 23) dX12_laysStretch_7 (by decide) (by omega) (by omega) (fun c_7 => ?_) (fun c_7 => ?_)
    · refine z_fg 2 ?_
      exact K V1 h_1 (fun k hk => h_2 k (by omega))
    · refine z_aload_n dX12_laysStretch_10 rfl ?_
      refine z_getR dX12_laysStretch_11 fX12_59 (by first | assumption | exact And.left (by assumption)) rfl ?_
      refine z_iload_n dX12_laysStretch_14 rfl ?_
      refine z_iconst (v := nI 0) dX12_laysStretch_15 rfl ?_
      refine z_zastN dX12_laysStretch_16 (by first | assumption | exact And.left (by assumption)) (by omega) (by decide) (by first | exact Or.inl rfl | exact Or.inr rfl | exact zb_01 _ | assumption) ?_
      refine z_incN dX12_laysStretch_17 rfl rfl ?_
      refine z_goto (tgt := 2) dX12_laysStretch_20 (by decide) ?_
      refine ih _ (by omega) (j + 1) _ rfl (by omega) h_1.st (fun k hk => ?_)
      by_cases e : k = j
      · rw [e, zup_s]
      · rw [zup_k e]
        exact h_2 k (by omega)

set_option maxHeartbeats 4000000 in
set_option maxRecDepth 100000 in
theorem s_stretch {D : zD} {z0 nx : Nat} {L : zL} {V : zV} {m i : Nat} {d : Df} {q : Qu} (hm : sM L m) (hq : MqS V m q) (hi : i < 2) (hd : MXd (V (m + 1)) (2140 + 1600 * i) d) (hb : Dfb d) (hnd : ndc d.1) : Sp D z0 4 0 0 mX12_laysStretch [.ref m, .int (nI i)] L V nx (zq none L nx (fun V' => sE V V' m ∧ V' m 29 = nI (stz q.1 d.1) ∧ ∀ k, k < q.1.length → V' (m + 13) k = zb (inS d.1 (ck q.1 k) (stc q.1 d.1 + 1)))) := by
  have hm0 := hm
  obtain ⟨a0, a1, a2, a3, a4, a5, a6, a7, a8, a9, a10, a11, a12, a13, a14, a15⟩ := hm
  refine Sp.of 4 (by decide) rfl rfl (Nat.le_of_ble_eq_true rfl) ?_
  refine z_iconst (v := nI 0) dX12_laysStretch_0 rfl ?_
  refine z_istore_n dX12_laysStretch_1 (Nat.le_of_ble_eq_true rfl) rfl ?_
  refine lp_st0 hm0 hq hi hd hb hnd (fun V2 k1 k2 => ?_) _ 0 V rfl (by omega) sE.rf (fun k hk => absurd hk (by omega))
  refine z_aload_n dX12_laysStretch_23 rfl ?_
  refine z_iconst (v := nI 0) dX12_laysStretch_24 rfl ?_
  refine z_putI dX12_laysStretch_25 fX12_322 (by first | assumption | exact And.left (by assumption)) rfl ?_
  refine z_iconst (v := nI 1) dX12_laysStretch_28 rfl ?_
  refine z_istore_n dX12_laysStretch_29 (Nat.le_of_ble_eq_true rfl) rfl ?_
  refine z_iconst (v := nI 0) dX12_laysStretch_30 rfl ?_
  refine z_istore_n dX12_laysStretch_31 (Nat.le_of_ble_eq_true rfl) rfl ?_
  refine Z.mono (lp_st2 (D := D) (z0 := z0) (nx := nx) (V := zup V2 m 29 (nI 0)) hm0 (k1.mn.q hq) hi (by rw [k1.mn.1 _ (by omega) (by omega)]; exact hd) hb hnd _ 0 _ _ rfl (by omega) sE.rf ?_ (fun k hk => ?_) (fun j hj => absurd hj (by omega)) (zb_t (Or.inl rfl)).symm) ?_
  · rw [zup_s, cn_0 (fun k _ => inS_0)]
  · rw [zup_a (by omega), k2 k hk, zb_f inS_0]
    rfl
  · intro r2 L2 V9 n9 h9
    obtain ⟨g1, g2, g3, g4, g5⟩ := h9
    exact ⟨g1, g2, g3, k1.mn.trans g4, g5⟩

set_option maxHeartbeats 4000000 in
set_option maxRecDepth 100000 in
theorem lp_part {D : zD} {z0 nx : Nat} {L : zL} {V : zV} {m i c : Nat} {d : Df} (hm : sM L m) (hi : i < 2) (hd : MXd (V (m + 1)) (2140 + 1600 * i) d) (hb : Dfb d) (hp : po d.1 c < d.1.length) (hc1 : c < 1000) : ∀ (fu : Nat) (n : Nat), 4 - n = fu → n < d.1.length → (∀ j, j < n → ¬ (d.1.getD j (0, false)).1 = c) → Z D z0 3 0 0 mX12_partBy 0 0 2 [some (.ref m), some (.int (nI i)), some (.int (nI c)), some (.int (nI n))] [] L V nx (zi (nI (po d.1 c)) L V nx) := by
  intro fu
  induction fu using Nat.strongRecOn with
  | ind fu ih =>
    intro n h_fu h_0 h_1
    have hm0 := hm
    have hbl := hb.1
    have hcb := hb.2.1 n h_0
    refine z_aload_n dX12_partBy_2 rfl ?_
    refine z_iload_n dX12_partBy_3 rfl ?_
    refine z_iload_n dX12_partBy_4 rfl ?_
    refine z_callV2i dX12_partBy_5 kX12_columnOf lX12_111 (by first | assumption | exact And.left (by assumption)) rfl (s_mCol hm0 hi hd hb h_0) (Nat.le_of_ble_eq_true rfl) (Nat.le_of_ble_eq_true rfl) ⟨Nat.le_of_ble_eq_true rfl, Nat.le_of_ble_eq_true rfl⟩ ?_
    refine z_iload_n dX12_partBy_8 rfl ?_
    refine z_icmp_eqN (tgt := 18) dX12_partBy_9 (by decide) (by omega) (by omega) (fun c_9 => ?_) (fun c_9 => ?_)
    · refine z_iload_n dX12_partBy_18 rfl ?_
      refine z_ireturn dX12_partBy_19 (Nat.le_of_ble_eq_true rfl) (Nat.le_of_ble_eq_true rfl) rfl ?_
      exact zi_r (by rw [show po d.1 c = n from fs_eq h_1 (by omega) (fun _ => c_9)])
    · have hn1 : n + 1 < d.1.length := by
        rcases (show n + 1 < d.1.length ∨ n + 1 = d.1.length by omega) with z | z
        · exact z
        · exfalso
          have h1 := po_yes hp
          by_cases e : po d.1 c = n
          · rw [e] at h1
            exact c_9 h1
          · exact h_1 _ (by omega) h1
      refine z_incN dX12_partBy_12 rfl rfl ?_
      refine z_goto (tgt := 2) dX12_partBy_15 (by decide) ?_
      exact ih _ (by omega) (n + 1) rfl hn1 (lt_s h_1 c_9)

set_option maxHeartbeats 4000000 in
set_option maxRecDepth 100000 in
theorem s_part {D : zD} {z0 nx : Nat} {L : zL} {V : zV} {m i c : Nat} {d : Df} (hm : sM L m) (hi : i < 2) (hd : MXd (V (m + 1)) (2140 + 1600 * i) d) (hb : Dfb d) (hp : po d.1 c < d.1.length) (hc1 : c < 1000) : Sp D z0 3 0 0 mX12_partBy [.ref m, .int (nI i), .int (nI c)] L V nx (zi (nI (po d.1 c)) L V nx) := by
  refine Sp.of 1 (by decide) rfl rfl (Nat.le_of_ble_eq_true rfl) ?_
  refine z_iconst (v := nI 0) dX12_partBy_0 rfl ?_
  refine z_istore_n dX12_partBy_1 (Nat.le_of_ble_eq_true rfl) rfl ?_
  exact lp_part hm hi hd hb hp hc1 _ 0 rfl (by omega) (fun j hj => absurd hj (by omega))

def isRk (q : List Cd) (o : List (Nat × Bool)) (m r n : Nat) : Prop := ∀ k, k < n → inS o (ck q k) m → ft (ck q k).2.1 (tu (o.getD (po o (ck q k).1) (0, false)).2 (pt r (po o (ck q k).1))) (ck q k).2.2

set_option maxHeartbeats 4000000 in
set_option maxRecDepth 100000 in
theorem lp_rb1 {D : zD} {z0 nx : Nat} {L : zL} {V : zV} {m i : Nat} {d : Df} {q : Qu} (hm : sM L m) (hq : MqS V m q) (hi : i < 2) (hd : MXd (V (m + 1)) (2140 + 1600 * i) d) (hb : Dfb d) (hnd : ndc d.1) {l : List Nat} (he : MXe (V (m + 1)) (2140 + 1600 * i) d l) (hl : l.length ≤ 48) (hv : ∀ c ∈ l, RV d (c / 64)) (hst : ∀ k, k < q.1.length → V (m + 13) k = zb (inS d.1 (ck q.1 k) (stc q.1 d.1 + 1))) {e n : Nat} (hel : e < l.length) {P : zP} (K : Z D z0 5 0 0 mX12_readsBy 0 0 119 [some (.ref m), some (.int (nI i)), some (.int (nI n)), some (.int (nI e)), some (.int (zb (isRk q.1 d.1 (stc q.1 d.1 + 1) (l.getD e 0 / 64) q.1.length))), none] [] L V nx P) : ∀ (fu : Nat) (j : Nat) (x : Int32), 4 - j = fu → j ≤ q.1.length → x = zb (isRk q.1 d.1 (stc q.1 d.1 + 1) (l.getD e 0 / 64) j) → Z D z0 5 0 0 mX12_readsBy 0 0 26 [some (.ref m), some (.int (nI i)), some (.int (nI n)), some (.int (nI e)), some (.int x), some (.int (nI j))] [] L V nx (P) := by
  intro fu
  induction fu using Nat.strongRecOn with
  | ind fu ih =>
    intro j x h_fu h_0 h_1
    have hm0 := hm
    obtain ⟨a0, a1, a2, a3, a4, a5, a6, a7, a8, a9, a10, a11, a12, a13, a14, a15⟩ := hm
    obtain ⟨q1, q2, q3, q4, q5, q6⟩ := id hq
    subst h_1
    obtain ⟨e1, e2⟩ := he
    obtain ⟨e3, e4⟩ := e2 e hel
    have hvj := hv _ (mem_getD hel)
    have hbl := hb.1
    refine z_iload dX12_readsBy_26 rfl ?_
    refine z_aload_n dX12_readsBy_28 rfl ?_
    refine z_getIe dX12_readsBy_29 fX12_53 (by first | assumption | exact And.left (by assumption)) rfl q1 ?_
    refine z_icmp_geN (tgt := 119) dX12_readsBy_32 (by decide) (by omega) (by omega) (fun c_32 => ?_) (fun c_32 => ?_)
    · have ej : j = q.1.length := by omega
      subst ej
      refine z_fg 5 ?_
      exact K
    · obtain ⟨u1, u2, u3, u4, u5, u6⟩ := q3 j (by omega)
      refine z_aload_n dX12_readsBy_35 rfl ?_
      refine z_getR dX12_readsBy_36 fX12_59 (by first | assumption | exact And.left (by assumption)) rfl ?_
      refine z_iload dX12_readsBy_39 rfl ?_
      refine z_zaldN dX12_readsBy_41 (by first | assumption | exact And.left (by assumption)) (by omega) (by decide) (hst j (by omega)) ?_
      refine z_if_eqB (tgt := 113) dX12_readsBy_42 (by decide) (fun c_42 => ?_) (fun c_42 => ?_)
      · have hS : (isRk q.1 d.1 (stc q.1 d.1 + 1) (l.getD e 0 / 64) (j + 1)) ↔ (isRk q.1 d.1 (stc q.1 d.1 + 1) (l.getD e 0 / 64) j) := ⟨fun z k hk => z k (by omega), fun z k hk => by
          by_cases w : k = j
          · rw [w]; exact fun y => absurd y c_42
          · exact z k (by omega)⟩
        refine z_incN dX12_readsBy_113 rfl rfl ?_
        refine z_goto (tgt := 26) dX12_readsBy_116 (by decide) ?_
        first
          | exact ih _ (by omega) (j + 1) _ rfl (by omega) (zb_iff hS).symm
          | exact ih _ (by omega) (j + 1) _ rfl (by omega) (zb_f hN).symm
          | exact ih _ (by omega) (j + 1) _ rfl (by omega) (zb_t hY).symm
      · obtain ⟨v1, v2, v3⟩ := id c_42
        have e5 := e4 (po d.1 (ck q.1 j).1) v2
        have hkr : kr d (l.getD e 0 / 64) (po d.1 (ck q.1 j).1) < 100 := tu_lt _ (pt_lt _ hvj.1)
        refine z_iload dX12_readsBy_45 rfl ?_
        refine z_if_eqB (tgt := 110) dX12_readsBy_47 (by decide) (fun c_47 => ?_) (fun c_47 => ?_)
        · have hN : ¬ (isRk q.1 d.1 (stc q.1 d.1 + 1) (l.getD e 0 / 64) (j + 1)) := fun z => c_47 (fun k hk => z k (by omega))
          refine z_iconst (v := nI 0) dX12_readsBy_110 rfl ?_
          refine z_istore dX12_readsBy_111 (Nat.le_of_ble_eq_true rfl) rfl ?_
          refine z_incN dX12_readsBy_113 rfl rfl ?_
          refine z_goto (tgt := 26) dX12_readsBy_116 (by decide) ?_
          first
            | exact ih _ (by omega) (j + 1) _ rfl (by omega) (zb_iff hS).symm
            | exact ih _ (by omega) (j + 1) _ rfl (by omega) (zb_f hN).symm
            | exact ih _ (by omega) (j + 1) _ rfl (by omega) (zb_t hY).symm
        · refine z_aload_n dX12_readsBy_50 rfl ?_
          refine z_getR dX12_readsBy_51 fX12_44 (by first | assumption | exact And.left (by assumption)) rfl ?_
          refine z_iconst (v := nI 3) dX12_readsBy_54 rfl ?_
          refine z_iload dX12_readsBy_55 rfl ?_
          refine z_mulN dX12_readsBy_57 ?_
          refine z_iconst (v := nI 1) dX12_readsBy_58 rfl ?_
          refine z_addN dX12_readsBy_59 ?_
          refine z_ialdN dX12_readsBy_60 (by first | assumption | exact And.left (by assumption)) (by omega) (by decide) u2 ?_
          refine z_aload_n dX12_readsBy_61 rfl ?_
          refine z_getR dX12_readsBy_62 fX12_13 (by first | assumption | exact And.left (by assumption)) rfl ?_
          refine z_aload_n dX12_readsBy_65 rfl ?_
          refine z_iload_n dX12_readsBy_66 rfl ?_
          refine z_iload_n dX12_readsBy_67 rfl ?_
          refine z_callV2i dX12_readsBy_68 kX12_entryAt lX12_118 (by first | assumption | exact And.left (by assumption)) rfl (s_entAt hi (by omega)) (Nat.le_of_ble_eq_true rfl) (Nat.le_of_ble_eq_true rfl) ⟨Nat.le_of_ble_eq_true rfl, Nat.le_of_ble_eq_true rfl⟩ ?_
          refine z_iconst (v := nI 1) dX12_readsBy_71 rfl ?_
          refine z_addN dX12_readsBy_72 ?_
          refine z_aload_n dX12_readsBy_73 rfl ?_
          refine z_iload_n dX12_readsBy_74 rfl ?_
          refine z_aload_n dX12_readsBy_75 rfl ?_
          refine z_getR dX12_readsBy_76 fX12_44 (by first | assumption | exact And.left (by assumption)) rfl ?_
          refine z_iconst (v := nI 3) dX12_readsBy_79 rfl ?_
          refine z_iload dX12_readsBy_80 rfl ?_
          refine z_mulN dX12_readsBy_82 ?_
          refine z_ialdN dX12_readsBy_83 (by first | assumption | exact And.left (by assumption)) (by omega) (by decide) u1 ?_
          refine z_callV2i dX12_readsBy_84 kX12_partBy lX12_328 (by first | assumption | exact And.left (by assumption)) rfl (s_part hm0 hi hd hb v2 (by omega)) (Nat.le_of_ble_eq_true rfl) (Nat.le_of_ble_eq_true rfl) ⟨Nat.le_of_ble_eq_true rfl, Nat.le_of_ble_eq_true rfl⟩ ?_
          refine z_addN dX12_readsBy_87 ?_
          refine z_ialdN dX12_readsBy_88 (by first | assumption | exact And.left (by assumption)) (by omega) (by decide) e5 ?_
          refine z_aload_n dX12_readsBy_89 rfl ?_
          refine z_getR dX12_readsBy_90 fX12_44 (by first | assumption | exact And.left (by assumption)) rfl ?_
          refine z_iconst (v := nI 3) dX12_readsBy_93 rfl ?_
          refine z_iload dX12_readsBy_94 rfl ?_
          refine z_mulN dX12_readsBy_96 ?_
          refine z_iconst (v := nI 2) dX12_readsBy_97 rfl ?_
          refine z_addN dX12_readsBy_98 ?_
          refine z_ialdN dX12_readsBy_99 (by first | assumption | exact And.left (by assumption)) (by omega) (by decide) u3 ?_
          refine z_callS3i dX12_readsBy_100 kX12_holds lX12_107 (s_holds u5 (by omega) (by omega)) (Nat.le_of_ble_eq_true rfl) (Nat.le_of_ble_eq_true rfl) ⟨Nat.le_of_ble_eq_true rfl, Nat.le_of_ble_eq_true rfl⟩ ?_
          refine z_if_eqB (tgt := 110) dX12_readsBy_103 (by decide) (fun c_103 => ?_) (fun c_103 => ?_)
          · have hN : ¬ (isRk q.1 d.1 (stc q.1 d.1 + 1) (l.getD e 0 / 64) (j + 1)) := fun z => c_103 (z j (by omega) c_42)
            refine z_iconst (v := nI 0) dX12_readsBy_110 rfl ?_
            refine z_istore dX12_readsBy_111 (Nat.le_of_ble_eq_true rfl) rfl ?_
            refine z_incN dX12_readsBy_113 rfl rfl ?_
            refine z_goto (tgt := 26) dX12_readsBy_116 (by decide) ?_
            first
              | exact ih _ (by omega) (j + 1) _ rfl (by omega) (zb_iff hS).symm
              | exact ih _ (by omega) (j + 1) _ rfl (by omega) (zb_f hN).symm
              | exact ih _ (by omega) (j + 1) _ rfl (by omega) (zb_t hY).symm
          · have hY : isRk q.1 d.1 (stc q.1 d.1 + 1) (l.getD e 0 / 64) (j + 1) := fun k hk => by
              by_cases w : k = j
              · rw [w]; exact fun _ => c_103
              · exact c_47 k (by omega)
            refine z_iconst (v := nI 1) dX12_readsBy_106 rfl ?_
            refine z_goto (tgt := 111) dX12_readsBy_107 (by decide) ?_
            refine z_istore dX12_readsBy_111 (Nat.le_of_ble_eq_true rfl) rfl ?_
            refine z_incN dX12_readsBy_113 rfl rfl ?_
            refine z_goto (tgt := 26) dX12_readsBy_116 (by decide) ?_
            first
              | exact ih _ (by omega) (j + 1) _ rfl (by omega) (zb_iff hS).symm
              | exact ih _ (by omega) (j + 1) _ rfl (by omega) (zb_f hN).symm
              | exact ih _ (by omega) (j + 1) _ rfl (by omega) (zb_t hY).symm

set_option maxHeartbeats 4000000 in
set_option maxRecDepth 100000 in
theorem lp_rb2 {D : zD} {z0 nx : Nat} {L : zL} {V : zV} {m i : Nat} {d : Df} {q : Qu} (hm : sM L m) (hq : MqS V m q) (hi : i < 2) (hd : MXd (V (m + 1)) (2140 + 1600 * i) d) (hb : Dfb d) (hnd : ndc d.1) {l : List Nat} (he : MXe (V (m + 1)) (2140 + 1600 * i) d l) (hl : l.length ≤ 48) (hv : ∀ c ∈ l, RV d (c / 64)) (hst : ∀ k, k < q.1.length → V (m + 13) k = zb (inS d.1 (ck q.1 k) (stc q.1 d.1 + 1))) : ∀ (fu : Nat) (e : Nat) (n : Nat), l.length - e = fu → e ≤ l.length → n = cn (fun e => isRk q.1 d.1 (stc q.1 d.1 + 1) (l.getD e 0 / 64) q.1.length) e + 1 → Z D z0 5 0 0 mX12_readsBy 0 0 9 [some (.ref m), some (.int (nI i)), some (.int (nI n)), some (.int (nI e)), none, none] [] L V nx (zi (nI (rby q.1 d.1 l)) L V nx) := by
  intro fu
  induction fu using Nat.strongRecOn with
  | ind fu ih =>
    intro e n h_fu h_0 h_1
    have hm0 := hm
    obtain ⟨a0, a1, a2, a3, a4, a5, a6, a7, a8, a9, a10, a11, a12, a13, a14, a15⟩ := hm
    obtain ⟨q1, q2, q3, q4, q5, q6⟩ := id hq
    have hcl := cn_le (fun e => isRk q.1 d.1 (stc q.1 d.1 + 1) (l.getD e 0 / 64) q.1.length) e
    refine z_iload_n dX12_readsBy_9 rfl ?_
    refine z_aload_n dX12_readsBy_10 rfl ?_
    refine z_iload_n dX12_readsBy_11 rfl ?_
    refine z_bipush (v := nI 13) dX12_readsBy_12 rfl ?_
    refine z_callV2i dX12_readsBy_14 kX12_ofIndex lX12_104 (by first | assumption | exact And.left (by assumption)) rfl (s_ofIx hm0 hi (by omega) he.1) (Nat.le_of_ble_eq_true rfl) (Nat.le_of_ble_eq_true rfl) ⟨Nat.le_of_ble_eq_true rfl, Nat.le_of_ble_eq_true rfl⟩ ?_
    refine z_icmp_geN (tgt := 138) dX12_readsBy_17 (by decide) (by omega) (by omega) (fun c_17 => ?_) (fun c_17 => ?_)
    · refine z_iload_n dX12_readsBy_138 rfl ?_
      refine z_ireturn dX12_readsBy_139 (Nat.le_of_ble_eq_true rfl) (Nat.le_of_ble_eq_true rfl) rfl ?_
      have ee : e = l.length := by omega
      subst ee
      exact zi_r (by rw [h_1] <;> rfl)
    · have hel : e < l.length := c_17
      refine z_iconst (v := nI 1) dX12_readsBy_20 rfl ?_
      refine z_istore dX12_readsBy_21 (Nat.le_of_ble_eq_true rfl) rfl ?_
      refine z_iconst (v := nI 0) dX12_readsBy_23 rfl ?_
      refine z_istore dX12_readsBy_24 (Nat.le_of_ble_eq_true rfl) rfl ?_
      refine lp_rb1 hm0 hq hi hd hb hnd he hl hv hst hel ?_ _ 0 _ rfl (by omega) (zb_t (fun k hk => absurd hk (by omega))).symm
      refine z_iload_n dX12_readsBy_119 rfl ?_
      refine z_iload dX12_readsBy_120 rfl ?_
      refine z_if_eqB (tgt := 129) dX12_readsBy_122 (by decide) (fun c_122 => ?_) (fun c_122 => ?_)
      · refine z_iconst (v := nI 0) dX12_readsBy_129 rfl ?_
        refine z_addN dX12_readsBy_130 ?_
        refine z_istore_n dX12_readsBy_131 (Nat.le_of_ble_eq_true rfl) rfl ?_
        refine z_incN dX12_readsBy_132 rfl rfl ?_
        refine z_goto (tgt := 9) dX12_readsBy_135 (by decide) ?_
        refine z_fg 4 ?_
        first
          | exact ih _ (by omega) (e + 1) _ rfl (by omega) (by rw [cn_y (p := fun e => isRk q.1 d.1 (stc q.1 d.1 + 1) (l.getD e 0 / 64) q.1.length) c_122]; omega)
          | exact ih _ (by omega) (e + 1) _ rfl (by omega) (by rw [cn_n (p := fun e => isRk q.1 d.1 (stc q.1 d.1 + 1) (l.getD e 0 / 64) q.1.length) c_122]; omega)
      · refine z_iconst (v := nI 1) dX12_readsBy_125 rfl ?_
        refine z_goto (tgt := 130) dX12_readsBy_126 (by decide) ?_
        refine z_addN dX12_readsBy_130 ?_
        refine z_istore_n dX12_readsBy_131 (Nat.le_of_ble_eq_true rfl) rfl ?_
        refine z_incN dX12_readsBy_132 rfl rfl ?_
        refine z_goto (tgt := 9) dX12_readsBy_135 (by decide) ?_
        refine z_fg 4 ?_
        first
          | exact ih _ (by omega) (e + 1) _ rfl (by omega) (by rw [cn_y (p := fun e => isRk q.1 d.1 (stc q.1 d.1 + 1) (l.getD e 0 / 64) q.1.length) c_122]; omega)
          | exact ih _ (by omega) (e + 1) _ rfl (by omega) (by rw [cn_n (p := fun e => isRk q.1 d.1 (stc q.1 d.1 + 1) (l.getD e 0 / 64) q.1.length) c_122]; omega)

set_option maxHeartbeats 4000000 in
set_option maxRecDepth 100000 in
theorem s_reads {D : zD} {z0 nx : Nat} {L : zL} {V : zV} {m i : Nat} {d : Df} {q : Qu} (hm : sM L m) (hq : MqS V m q) (hi : i < 2) (hd : MXd (V (m + 1)) (2140 + 1600 * i) d) (hb : Dfb d) (hnd : ndc d.1) {l : List Nat} (he : MXe (V (m + 1)) (2140 + 1600 * i) d l) (hl : l.length ≤ 48) (hv : ∀ c ∈ l, RV d (c / 64)) : Sp D z0 5 0 0 mX12_readsBy [.ref m, .int (nI i)] L V nx (zq (some (.int (nI (rby q.1 d.1 l)))) L nx (fun V' => sE V V' m ∧ V' m 29 = nI (stz q.1 d.1))) := by
  have hm0 := hm
  obtain ⟨a0, a1, a2, a3, a4, a5, a6, a7, a8, a9, a10, a11, a12, a13, a14, a15⟩ := hm
  refine Sp.of 4 (by decide) rfl rfl (Nat.le_of_ble_eq_true rfl) ?_
  refine z_aload_n dX12_readsBy_0 rfl ?_
  refine z_iload_n dX12_readsBy_1 rfl ?_
  refine z_callV1w dX12_readsBy_2 kX12_laysStretch lX12_325 (by first | assumption | exact And.left (by assumption)) rfl (s_stretch hm0 hq hi hd hb hnd) (Nat.le_of_ble_eq_true rfl) (Nat.le_of_ble_eq_true rfl) ⟨Nat.le_of_ble_eq_true rfl, Nat.le_of_ble_eq_true rfl⟩ ?_
  intro V1 hV1
  obtain ⟨f1, f2, f3⟩ := hV1
  have hA1 : V1 (m + 1) = V (m + 1) := f1.1 _ (by omega) (by omega)
  refine z_iconst (v := nI 1) dX12_readsBy_5 rfl ?_
  refine z_istore_n dX12_readsBy_6 (Nat.le_of_ble_eq_true rfl) rfl ?_
  refine z_iconst (v := nI 0) dX12_readsBy_7 rfl ?_
  refine z_istore_n dX12_readsBy_8 (Nat.le_of_ble_eq_true rfl) rfl ?_
  refine Z.mono (lp_rb2 (D := D) (z0 := z0) (nx := nx) (V := V1) hm0 (f1.q hq) hi (by rw [hA1]; exact hd) hb hnd (by rw [hA1]; exact he) hl hv f3 _ 0 1 rfl (by omega) rfl) ?_
  intro r2 L2 V9 n9 h9
  obtain ⟨g1, g2, g3, g4⟩ := h9
  rw [g3]
  exact ⟨g1, g2, g4, f1, f2⟩

