/-! the reference, on: an entry comes or goes -/
theorem cK_code {d : Df} {e p r : Nat} (hb : Dfb d) (he : RV d (e / 64)) (hp : RV d p) (hr : r < 64) : (0 < cK (e / 64) p d.1.length 0 → ¬ e < p * 64 + r) ∧ (cK (e / 64) p d.1.length 0 = 0 → (e < p * 64 + r ↔ e % 64 < r) ∧ e / 64 = p) ∧ (¬ 0 < cK (e / 64) p d.1.length 0 → ¬ cK (e / 64) p d.1.length 0 = 0 → e < p * 64 + r ∧ ¬ e / 64 = p) := by
  rw [cK_rv hb he hp]
  obtain ⟨h1, h2, h3⟩ := cK_3 he.1 hp.1
  refine ⟨fun q => ?_, fun q => ?_, fun q1 q2 => ?_⟩
  · have := h3.mp q
    omega
  · have := h2.mp q
    omega
  · have a1 : ¬ p < e / 64 := fun z => q1 (h3.mpr z)
    have a2 : ¬ e / 64 = p := fun z => q2 (h2.mpr z)
    omega
theorem MXe_ins {f g : Nat → Int32} {b k c : Nat} {d : Df} {l : List Nat} (h : MXe f b d l) (hd : d.1.length ≤ 3) (hk : k ≤ l.length) (h0 : g (b + 13) = nI (l.length + 1)) (h1 : ∀ j, b + 16 ≤ j → j < b + 16 + 4 * k → g j = f j) (h2 : ∀ j, b + 16 + 4 * (k + 1) ≤ j → j < b + 16 + 4 * (l.length + 1) → g j = f (j - 4)) (h3 : g (b + 16 + 4 * k) = nI (c % 64)) (h4 : MK g (b + 16 + 4 * k + 1) d (c / 64)) : MXe g b d (l.take k ++ c :: l.drop k) := by
  have hlen : (l.take k ++ c :: l.drop k).length = l.length + 1 := by simp; omega
  refine ⟨by rw [hlen]; exact h0, fun e he => ?_⟩
  rw [hlen] at he
  rw [getD_ins l c k e hk]
  by_cases c1 : e < k
  · rw [if_pos c1]
    obtain ⟨k1, k2⟩ := h.2 e (by omega)
    refine ⟨by rw [h1 _ (by omega) (by omega)]; exact k1, fun j hj => ?_⟩
    rw [h1 _ (by omega) (by omega)]
    exact k2 j hj
  · rw [if_neg c1]
    by_cases c2 : e = k
    · rw [if_pos c2, c2]
      exact ⟨h3, h4⟩
    · rw [if_neg c2]
      obtain ⟨k1, k2⟩ := h.2 (e - 1) (by omega)
      refine ⟨?_, fun j hj => ?_⟩
      · rw [h2 _ (by omega) (by omega), show b + 16 + 4 * e - 4 = b + 16 + 4 * (e - 1) by omega]
        exact k1
      · rw [h2 _ (by omega) (by omega), show b + 16 + 4 * e + 1 + j - 4 = b + 16 + 4 * (e - 1) + 1 + j by omega]
        exact k2 j hj
theorem MXe_era {f g : Nat → Int32} {b k : Nat} {d : Df} {l : List Nat} (h : MXe f b d l) (hd : d.1.length ≤ 3) (hk : k < l.length) (h0 : g (b + 13) = nI (l.length - 1)) (h1 : ∀ j, b + 16 ≤ j → j < b + 16 + 4 * k → g j = f j) (h2 : ∀ j, b + 16 + 4 * k ≤ j → j < b + 16 + 4 * (l.length - 1) → g j = f (j + 4)) : MXe g b d (l.eraseIdx k) := by
  have hlen : (l.eraseIdx k).length = l.length - 1 := by rw [List.length_eraseIdx, if_pos hk]
  refine ⟨by rw [hlen]; exact h0, fun e he => ?_⟩
  rw [hlen] at he
  rw [getD_era]
  by_cases c1 : e < k
  · rw [if_pos c1]
    obtain ⟨k1, k2⟩ := h.2 e (by omega)
    refine ⟨by rw [h1 _ (by omega) (by omega)]; exact k1, fun j hj => ?_⟩
    rw [h1 _ (by omega) (by omega)]
    exact k2 j hj
  · rw [if_neg c1]
    obtain ⟨k1, k2⟩ := h.2 (e + 1) (by omega)
    refine ⟨?_, fun j hj => ?_⟩
    · rw [h2 _ (by omega) (by omega), show b + 16 + 4 * e + 4 = b + 16 + 4 * (e + 1) by omega]
      exact k1
    · rw [h2 _ (by omega) (by omega), show b + 16 + 4 * e + 1 + j + 4 = b + 16 + 4 * (e + 1) + 1 + j by omega]
      exact k2 j hj

set_option maxHeartbeats 4000000 in
set_option maxRecDepth 100000 in
theorem lp_pl {D : zD} {z0 nx : Nat} {L : zL} {V : zV} {m i p r : Nat} {d : Df} {l : List Nat} (hm : sM L m) (hi : i < 2) (hr : r < 48) (hd : MXd (V (m + 1)) (2140 + 1600 * i) d) (hb : Dfb d) (he : MXe (V (m + 1)) (2140 + 1600 * i) d l) (hl : l.length ≤ 48) (hv : ∀ c ∈ l, RV d (c / 64)) (hk : KR V m d p) (hp : RV d p) : ∀ (fu : Nat) (j : Nat), l.length - j = fu → j ≤ l.length → (∀ k, k < j → l.getD k 0 < p * 64 + r) → Z D z0 4 0 0 mX12_placeOf 0 0 2 [some (.ref m), some (.int (nI i)), some (.int (nI r)), some (.int (nI j)), none] [] L V nx (zi (nI (pl (p * 64 + r) l)) L V nx) := by
  intro fu
  induction fu using Nat.strongRecOn with
  | ind fu ih =>
    intro j h_fu h_0 h_1
    have hm0 := hm
    obtain ⟨a0, a1, a2, a3, a4, a5, a6, a7, a8, a9, a10, a11, a12, a13, a14, a15⟩ := hm
    have he0 := he
    obtain ⟨e1, e2⟩ := he
    refine z_iload_n dX12_placeOf_2 rfl ?_
    refine z_aload_n dX12_placeOf_3 rfl ?_
    refine z_iload_n dX12_placeOf_4 rfl ?_
    refine z_bipush (v := nI 13) dX12_placeOf_5 rfl ?_
    refine z_callV2i dX12_placeOf_7 kX12_ofIndex lX12_104 (by first | assumption | exact And.left (by assumption)) rfl (s_ofIx hm0 hi (by omega) e1) (Nat.le_of_ble_eq_true rfl) (Nat.le_of_ble_eq_true rfl) ⟨Nat.le_of_ble_eq_true rfl, Nat.le_of_ble_eq_true rfl⟩ ?_
    refine z_icmp_geN (tgt := 61) dX12_placeOf_10 (by decide) (by omega) (by omega) (fun c_10 => ?_) (fun c_10 => ?_)
    · refine z_iload_n dX12_placeOf_61 rfl ?_
      refine z_ireturn dX12_placeOf_62 (Nat.le_of_ble_eq_true rfl) (Nat.le_of_ble_eq_true rfl) rfl ?_
      exact zi_r (by rw [pl_eq _ l j h_1 (by omega) (fun z => absurd z (by omega))])
    · obtain ⟨k1, k2⟩ := e2 j (by omega)
      have hvj := hv _ (mem_getD (l := l) (k := j) (by omega))
      obtain ⟨q1, q2, q3⟩ := cK_code (r := r) hb hvj hp (by omega)
      refine z_aload_n dX12_placeOf_13 rfl ?_
      refine z_iload_n dX12_placeOf_14 rfl ?_
      refine z_aload_n dX12_placeOf_15 rfl ?_
      refine z_iload_n dX12_placeOf_16 rfl ?_
      refine z_iload_n dX12_placeOf_17 rfl ?_
      refine z_callV2i dX12_placeOf_18 kX12_entryAt lX12_118 (by first | assumption | exact And.left (by assumption)) rfl (s_entAt (by omega) (by omega)) (Nat.le_of_ble_eq_true rfl) (Nat.le_of_ble_eq_true rfl) ⟨Nat.le_of_ble_eq_true rfl, Nat.le_of_ble_eq_true rfl⟩ ?_
      refine z_iconst (v := nI 1) dX12_placeOf_21 rfl ?_
      refine z_addN dX12_placeOf_22 ?_
      refine z_callV2i dX12_placeOf_23 kX12_comparesKey lX12_121 (by first | assumption | exact And.left (by assumption)) rfl (s_ck hm0 hi hd hb (by omega) hk k2 hp.1 hvj.1) (Nat.le_of_ble_eq_true rfl) (Nat.le_of_ble_eq_true rfl) ⟨Nat.le_of_ble_eq_true rfl, Nat.le_of_ble_eq_true rfl⟩ ?_
      refine z_istore dX12_placeOf_26 (Nat.le_of_ble_eq_true rfl) rfl ?_
      refine z_iload dX12_placeOf_28 rfl ?_
      refine z_if_gt (tgt := 53) dX12_placeOf_30 (by decide) (fun c_30 => ?_) (fun c_30 => ?_)
      · have hge : ¬ l.getD j 0 < p * 64 + r := q1 c_30
        refine z_iload_n dX12_placeOf_53 rfl ?_
        refine z_ireturn dX12_placeOf_54 (Nat.le_of_ble_eq_true rfl) (Nat.le_of_ble_eq_true rfl) rfl ?_
        exact zi_r (by rw [pl_eq _ l j h_1 (by omega) (fun _ => hge)])
      · refine z_iload dX12_placeOf_33 rfl ?_
        refine z_if_ne (tgt := 55) dX12_placeOf_35 (by decide) (fun c_35 => ?_) (fun c_35 => ?_)
        · have hlt : l.getD j 0 < p * 64 + r := (q3 c_30 c_35).1
          refine z_incN dX12_placeOf_55 rfl rfl ?_
          refine z_goto (tgt := 2) dX12_placeOf_58 (by decide) ?_
          refine z_fg 4 ?_
          exact ih _ (by omega) (j + 1) rfl (by omega) (lt_s h_1 hlt)
        · obtain ⟨q4, q5⟩ := q2 c_35
          refine z_aload_n dX12_placeOf_38 rfl ?_
          refine z_getR dX12_placeOf_39 fX12_13 (by first | assumption | exact And.left (by assumption)) rfl ?_
          refine z_aload_n dX12_placeOf_42 rfl ?_
          refine z_iload_n dX12_placeOf_43 rfl ?_
          refine z_iload_n dX12_placeOf_44 rfl ?_
          refine z_callV2i dX12_placeOf_45 kX12_entryAt lX12_118 (by first | assumption | exact And.left (by assumption)) rfl (s_entAt (by omega) (by omega)) (Nat.le_of_ble_eq_true rfl) (Nat.le_of_ble_eq_true rfl) ⟨Nat.le_of_ble_eq_true rfl, Nat.le_of_ble_eq_true rfl⟩ ?_
          refine z_ialdN dX12_placeOf_48 (by first | assumption | exact And.left (by assumption)) (by omega) (by decide) k1 ?_
          refine z_iload_n dX12_placeOf_49 rfl ?_
          refine z_icmp_ltN (tgt := 55) dX12_placeOf_50 (by decide) (by omega) (by omega) (fun c_50 => ?_) (fun c_50 => ?_)
          · have hlt : l.getD j 0 < p * 64 + r := q4.mpr c_50
            refine z_incN dX12_placeOf_55 rfl rfl ?_
            refine z_goto (tgt := 2) dX12_placeOf_58 (by decide) ?_
            refine z_fg 4 ?_
            exact ih _ (by omega) (j + 1) rfl (by omega) (lt_s h_1 hlt)
          · have hge : ¬ l.getD j 0 < p * 64 + r := fun z => by have := q4.mp z; omega
            refine z_iload_n dX12_placeOf_53 rfl ?_
            refine z_ireturn dX12_placeOf_54 (Nat.le_of_ble_eq_true rfl) (Nat.le_of_ble_eq_true rfl) rfl ?_
            exact zi_r (by rw [pl_eq _ l j h_1 (by omega) (fun _ => hge)])

set_option maxHeartbeats 4000000 in
set_option maxRecDepth 100000 in
theorem s_pl {D : zD} {z0 nx : Nat} {L : zL} {V : zV} {m i p r : Nat} {d : Df} {l : List Nat} (hm : sM L m) (hi : i < 2) (hr : r < 48) (hd : MXd (V (m + 1)) (2140 + 1600 * i) d) (hb : Dfb d) (he : MXe (V (m + 1)) (2140 + 1600 * i) d l) (hl : l.length ≤ 48) (hv : ∀ c ∈ l, RV d (c / 64)) (hk : KR V m d p) (hp : RV d p) : Sp D z0 4 0 0 mX12_placeOf [.ref m, .int (nI i), .int (nI r)] L V nx (zi (nI (pl (p * 64 + r) l)) L V nx) := by
  refine Sp.of 2 (by decide) rfl rfl (Nat.le_of_ble_eq_true rfl) ?_
  refine z_iconst (v := nI 0) dX12_placeOf_0 rfl ?_
  refine z_istore_n dX12_placeOf_1 (Nat.le_of_ble_eq_true rfl) rfl ?_
  exact lp_pl hm hi hr hd hb he hl hv hk hp _ 0 rfl (by omega) (fun k hk => absurd hk (by omega))

set_option maxHeartbeats 4000000 in
set_option maxRecDepth 100000 in
theorem s_isAt {D : zD} {z0 nx : Nat} {L : zL} {V : zV} {m i p r k : Nat} {d : Df} {l : List Nat} (hm : sM L m) (hi : i < 2) (hr : r < 48) (hd : MXd (V (m + 1)) (2140 + 1600 * i) d) (hb : Dfb d) (he : MXe (V (m + 1)) (2140 + 1600 * i) d l) (hl : l.length ≤ 48) (hv : ∀ c ∈ l, RV d (c / 64)) (hk : KR V m d p) (hp : RV d p) (hk1 : k < 200) : Sp D z0 4 0 0 mX12_isAt [.ref m, .int (nI i), .int (nI k), .int (nI r)] L V nx (zi (zb (k < l.length ∧ l.getD k 0 = p * 64 + r)) L V nx) := by
  have hm0 := hm
  obtain ⟨a0, a1, a2, a3, a4, a5, a6, a7, a8, a9, a10, a11, a12, a13, a14, a15⟩ := hm
  have he0 := he
  obtain ⟨e1, e2⟩ := he
  refine Sp.of 0 (by decide) rfl rfl (Nat.le_of_ble_eq_true rfl) ?_
  refine z_iload_n dX12_isAt_0 rfl ?_
  refine z_aload_n dX12_isAt_1 rfl ?_
  refine z_iload_n dX12_isAt_2 rfl ?_
  refine z_bipush (v := nI 13) dX12_isAt_3 rfl ?_
  refine z_callV2i dX12_isAt_5 kX12_ofIndex lX12_104 (by first | assumption | exact And.left (by assumption)) rfl (s_ofIx hm0 hi (by omega) e1) (Nat.le_of_ble_eq_true rfl) (Nat.le_of_ble_eq_true rfl) ⟨Nat.le_of_ble_eq_true rfl, Nat.le_of_ble_eq_true rfl⟩ ?_
  refine z_icmp_geN (tgt := 46) dX12_isAt_8 (by decide) (by omega) (by omega) (fun c_8 => ?_) (fun c_8 => ?_)
  · have hF : ¬ (k < l.length ∧ l.getD k 0 = p * 64 + r) := fun z => by omega
    refine z_iconst (v := nI 0) dX12_isAt_46 rfl ?_
    refine z_zreturn dX12_isAt_47 (Nat.le_of_ble_eq_true rfl) (Nat.le_of_ble_eq_true rfl) rfl (by first | exact Or.inl rfl | exact Or.inr rfl | exact zb_01 _ | assumption) ?_
    exact zi_r (by first | exact (zb_t hY).symm | exact (zb_f hF).symm)
  · obtain ⟨k1, k2⟩ := e2 k (by omega)
    have hvj := hv _ (mem_getD (l := l) (k := k) (by omega))
    obtain ⟨q1, q2, q3⟩ := cK_code (r := r) hb hvj hp (by omega)
    refine z_aload_n dX12_isAt_11 rfl ?_
    refine z_getR dX12_isAt_12 fX12_13 (by first | assumption | exact And.left (by assumption)) rfl ?_
    refine z_aload_n dX12_isAt_15 rfl ?_
    refine z_iload_n dX12_isAt_16 rfl ?_
    refine z_iload_n dX12_isAt_17 rfl ?_
    refine z_callV2i dX12_isAt_18 kX12_entryAt lX12_118 (by first | assumption | exact And.left (by assumption)) rfl (s_entAt (by omega) (by omega)) (Nat.le_of_ble_eq_true rfl) (Nat.le_of_ble_eq_true rfl) ⟨Nat.le_of_ble_eq_true rfl, Nat.le_of_ble_eq_true rfl⟩ ?_
    refine z_ialdN dX12_isAt_21 (by first | assumption | exact And.left (by assumption)) (by omega) (by decide) k1 ?_
    refine z_iload_n dX12_isAt_22 rfl ?_
    refine z_icmp_neN (tgt := 46) dX12_isAt_23 (by decide) (by omega) (by omega) (fun c_23 => ?_) (fun c_23 => ?_)
    · have hF : ¬ (k < l.length ∧ l.getD k 0 = p * 64 + r) := fun z => by have := z.2; omega
      refine z_iconst (v := nI 0) dX12_isAt_46 rfl ?_
      refine z_zreturn dX12_isAt_47 (Nat.le_of_ble_eq_true rfl) (Nat.le_of_ble_eq_true rfl) rfl (by first | exact Or.inl rfl | exact Or.inr rfl | exact zb_01 _ | assumption) ?_
      exact zi_r (by first | exact (zb_t hY).symm | exact (zb_f hF).symm)
    · refine z_aload_n dX12_isAt_26 rfl ?_
      refine z_iload_n dX12_isAt_27 rfl ?_
      refine z_aload_n dX12_isAt_28 rfl ?_
      refine z_iload_n dX12_isAt_29 rfl ?_
      refine z_iload_n dX12_isAt_30 rfl ?_
      refine z_callV2i dX12_isAt_31 kX12_entryAt lX12_118 (by first | assumption | exact And.left (by assumption)) rfl (s_entAt (by omega) (by omega)) (Nat.le_of_ble_eq_true rfl) (Nat.le_of_ble_eq_true rfl) ⟨Nat.le_of_ble_eq_true rfl, Nat.le_of_ble_eq_true rfl⟩ ?_
      refine z_iconst (v := nI 1) dX12_isAt_34 rfl ?_
      refine z_addN dX12_isAt_35 ?_
      refine z_callV2i dX12_isAt_36 kX12_comparesKey lX12_121 (by first | assumption | exact And.left (by assumption)) rfl (s_ck hm0 hi hd hb (by omega) hk k2 hp.1 hvj.1) (Nat.le_of_ble_eq_true rfl) (Nat.le_of_ble_eq_true rfl) ⟨Nat.le_of_ble_eq_true rfl, Nat.le_of_ble_eq_true rfl⟩ ?_
      refine z_if_ne (tgt := 46) dX12_isAt_39 (by decide) (fun c_39 => ?_) (fun c_39 => ?_)
      · have hF : ¬ (k < l.length ∧ l.getD k 0 = p * 64 + r) := fun z => by
          have z2 := z.2
          by_cases z3 : 0 < cK (l.getD k 0 / 64) p d.1.length 0
          · rw [cK_rv hb hvj hp] at z3
            have := (cK_3 hvj.1 hp.1).2.2.mp z3
            omega
          · have := (q3 z3 c_39).2
            omega
        refine z_iconst (v := nI 0) dX12_isAt_46 rfl ?_
        refine z_zreturn dX12_isAt_47 (Nat.le_of_ble_eq_true rfl) (Nat.le_of_ble_eq_true rfl) rfl (by first | exact Or.inl rfl | exact Or.inr rfl | exact zb_01 _ | assumption) ?_
        exact zi_r (by first | exact (zb_t hY).symm | exact (zb_f hF).symm)
      · have hY : k < l.length ∧ l.getD k 0 = p * 64 + r := ⟨by omega, by have := (q2 c_39).2; omega⟩
        refine z_iconst (v := nI 1) dX12_isAt_42 rfl ?_
        refine z_goto (tgt := 47) dX12_isAt_43 (by decide) ?_
        refine z_zreturn dX12_isAt_47 (Nat.le_of_ble_eq_true rfl) (Nat.le_of_ble_eq_true rfl) rfl (by first | exact Or.inl rfl | exact Or.inr rfl | exact zb_01 _ | assumption) ?_
        exact zi_r (by first | exact (zb_t hY).symm | exact (zb_f hF).symm)

/-- entries from behind the n-th on, one place up -/
def insM (f : Nat → Int32) (b n many : Nat) : Nat → Int32 := fun j => if b + 16 + 4 * (n + 1) ≤ j ∧ j < b + 16 + 4 * (many + 1) then f (j - 4) else f j
theorem insM_0 (f : Nat → Int32) (b n : Nat) : insM f b n n = f := funext fun j => if_neg (by omega)
theorem insM_s {V : zV} {q b n many : Nat} (h1 : 1 ≤ n) (h2 : n ≤ many) : cpz (zset V q (insM (V q) b n many)) q q (b + 16 + 4 * (n - 1)) (b + 16 + 4 * n) 4 = zset V q (insM (V q) b (n - 1) many) := by
  funext x j
  unfold cpz zset
  by_cases e : x = q
  · subst e
    simp only [if_true]
    unfold insM
    by_cases c : b + 16 + 4 * n ≤ j ∧ j < b + 16 + 4 * n + 4
    · rw [if_pos c, if_neg (by omega), if_pos (by omega)]
      congr 1
      omega
    · rw [if_neg c]
      by_cases c2 : b + 16 + 4 * (n + 1) ≤ j ∧ j < b + 16 + 4 * (many + 1)
      · rw [if_pos c2, if_pos (by omega)]
      · rw [if_neg c2, if_neg (by omega)]
  · simp [e]
/-- only entries of an index, and how many, have changed -/
def oE (V V' : zV) (m b : Nat) : Prop := zEq V V' (m + 1) (m + 2) ∧ ∀ j, j ≠ b + 13 → ¬ (b + 16 ≤ j ∧ j < b + 208) → V' (m + 1) j = V (m + 1) j

set_option maxHeartbeats 4000000 in
set_option maxRecDepth 100000 in
theorem lp_ins {D : zD} {z0 nx : Nat} {L : zL} {V : zV} {m i p r k : Nat} {d : Df} {l : List Nat} (hm : sM L m) (hi : i < 2) (hr : r < 48) (hd : MXd (V (m + 1)) (2140 + 1600 * i) d) (hb : Dfb d) (he : MXe (V (m + 1)) (2140 + 1600 * i) d l) (hl : l.length ≤ 48) (hv : ∀ c ∈ l, RV d (c / 64)) (hk : KR V m d p) (hp : RV d p) (hkl : k ≤ l.length) (h48 : l.length < 48) {is : Int32} (hpk : pl (p * 64 + r) l = k) (hin : inc (p * 64 + r) l = l.take k ++ (p * 64 + r) :: l.drop k) : ∀ (fu : Nat) (n : Nat), n = fu → k ≤ n ∧ n ≤ l.length → Z D z0 5 0 0 mX12_does 0 0 41 [some (.ref m), some (.int (nI i)), some (.int (nI 1)), some (.int (nI r)), some (.int (nI k)), some (.int is), some (.int (nI l.length)), some (.int (nI n))] [] L (zset V (m + 1) (insM (V (m + 1)) (2140 + 1600 * i) n l.length)) nx (zq none L nx (fun V' => oE V V' m (2140 + 1600 * i) ∧ MXe (V' (m + 1)) (2140 + 1600 * i) d (if (1 : Nat) = 1 then inc (p * 64 + r) l else exc (p * 64 + r) l))) := by
  intro fu
  induction fu using Nat.strongRecOn with
  | ind fu ih =>
    intro n h_fu h_0
    have hm0 := hm
    obtain ⟨a0, a1, a2, a3, a4, a5, a6, a7, a8, a9, a10, a11, a12, a13, a14, a15⟩ := hm
    have he0 := he
    obtain ⟨e1, e2⟩ := he
    obtain ⟨n1, n2⟩ := h_0
    have hbl := hb.1
    refine z_iload dX12_does_41 rfl ?_
    refine z_iload dX12_does_43 rfl ?_
    refine z_icmp_leN (tgt := 82) dX12_does_45 (by decide) (by omega) (by omega) (fun c_45 => ?_) (fun c_45 => ?_)
    · have hnk : n = k := by omega
      subst hnk
      refine z_aload_n dX12_does_82 rfl ?_
      refine z_getR dX12_does_83 fX12_13 (by first | assumption | exact And.left (by assumption)) rfl ?_
      refine z_aload_n dX12_does_86 rfl ?_
      refine z_iload_n dX12_does_87 rfl ?_
      refine z_iload dX12_does_88 rfl ?_
      refine z_callV2i dX12_does_90 kX12_entryAt lX12_118 (by first | assumption | exact And.left (by assumption)) rfl (s_entAt (by omega) (by omega)) (Nat.le_of_ble_eq_true rfl) (Nat.le_of_ble_eq_true rfl) ⟨Nat.le_of_ble_eq_true rfl, Nat.le_of_ble_eq_true rfl⟩ ?_
      refine z_iload_n dX12_does_93 rfl ?_
      refine z_iastN dX12_does_94 (by first | assumption | exact And.left (by assumption)) (by omega) (by decide) ?_
      refine z_aload_n dX12_does_95 rfl ?_
      refine z_getR dX12_does_96 fX12_25 (by first | assumption | exact And.left (by assumption)) rfl ?_
      refine z_iconst (v := nI 0) dX12_does_99 rfl ?_
      refine z_aload_n dX12_does_100 rfl ?_
      refine z_getR dX12_does_101 fX12_13 (by first | assumption | exact And.left (by assumption)) rfl ?_
      refine z_aload_n dX12_does_104 rfl ?_
      refine z_iload_n dX12_does_105 rfl ?_
      refine z_iload dX12_does_106 rfl ?_
      refine z_callV2i dX12_does_108 kX12_entryAt lX12_118 (by first | assumption | exact And.left (by assumption)) rfl (s_entAt (by omega) (by omega)) (Nat.le_of_ble_eq_true rfl) (Nat.le_of_ble_eq_true rfl) ⟨Nat.le_of_ble_eq_true rfl, Nat.le_of_ble_eq_true rfl⟩ ?_
      refine z_iconst (v := nI 1) dX12_does_111 rfl ?_
      refine z_addN dX12_does_112 ?_
      refine z_iconst (v := nI 3) dX12_does_113 rfl ?_
      refine z_callS5w dX12_does_114 kX12_copies lX12_76 (s_cp a4 a1 (by omega) (by omega) (by omega) (Or.inl (by omega))) (Nat.le_of_ble_eq_true rfl) (Nat.le_of_ble_eq_true rfl) ⟨Nat.le_of_ble_eq_true rfl, Nat.le_of_ble_eq_true rfl⟩ ?_
      intro V3 hV3
      refine z_aload_n dX12_does_117 rfl ?_
      refine z_iload_n dX12_does_118 rfl ?_
      refine z_bipush (v := nI 13) dX12_does_119 rfl ?_
      refine z_iload dX12_does_121 rfl ?_
      refine z_iconst (v := nI 1) dX12_does_123 rfl ?_
      refine z_addN dX12_does_124 ?_
      refine z_callV3w dX12_does_125 kX12_laysIndex lX12_80 (by first | assumption | exact And.left (by assumption)) rfl (s_lays hm0 (by omega) (by omega)) (Nat.le_of_ble_eq_true rfl) (Nat.le_of_ble_eq_true rfl) ⟨Nat.le_of_ble_eq_true rfl, Nat.le_of_ble_eq_true rfl⟩ ?_
      intro V4 hV4
      refine z_iload_n dX12_does_128 rfl ?_
      refine z_if_neN (tgt := 184) dX12_does_129 (by decide) (by omega) (fun c_129 => ?_) (fun c_129 => ?_)
      · refine z_return dX12_does_184 (Nat.le_of_ble_eq_true rfl) (Nat.le_of_ble_eq_true rfl) rfl ?_
        subst hV4
        subst hV3
        have hq : ∀ j, ¬ j = 2140 + 1600 * i + 13 → ¬ j = 2140 + 1600 * i + 16 + 4 * n → ¬ (2140 + 1600 * i + 16 + 4 * n + 1 ≤ j ∧ j < 2140 + 1600 * i + 16 + 4 * n + 4) → (zup (cpz (zup (zset V (m + 1) (insM (V (m + 1)) (2140 + 1600 * i) n l.length)) (m + 1) (2140 + 1600 * i + 16 + 4 * n) (nI r)) (m + 4) (m + 1) 0 (2140 + 1600 * i + 16 + 4 * n + 1) 3) (m + 1) (2140 + 1600 * i + 13) (nI (l.length + 1))) (m + 1) j = insM (V (m + 1)) (2140 + 1600 * i) n l.length j := fun j j1 j2 j3 => by
          rw [zup_k j1]
          unfold cpz
          rw [zset_s, if_neg (by omega), zup_k j2, zset_s]
        refine ⟨rfl, rfl, rfl, ⟨fun q hq2 => ?_, fun j j1 j2 => ?_⟩, ?_⟩
        · rw [zup_a (by omega)]
          unfold cpz
          rw [zset_a (by omega), zup_a (by omega), zset_a (by omega)]
        · rw [hq j (by omega) (by omega) (by omega)]
          exact if_neg (by omega)
        · rw [if_pos rfl, hin]
          refine MXe_ins he0 hbl hkl (zup_s _ _ _ _) (fun j j1 j2 => ?_) (fun j j1 j2 => ?_) ?_ (fun j hj => ?_)
          · rw [hq j (by omega) (by omega) (by omega)]
            exact if_neg (by omega)
          · rw [hq j (by omega) (by omega) (by omega)]
            exact if_pos (by omega)
          · rw [zup_k (by omega)]
            unfold cpz
            rw [zset_s, if_neg (by omega), zup_s, show (p * 64 + r) % 64 = r by omega]
          · rw [zup_k (by omega)]
            unfold cpz
            rw [zset_s, if_pos (by omega), zup_a (by omega), zset_a (by omega), show 0 + (2140 + 1600 * i + 16 + 4 * n + 1 + j - (2140 + 1600 * i + 16 + 4 * n + 1)) = j by omega, show (p * 64 + r) / 64 = p by omega]
            exact hk j hj
      · exact absurd c_129 (by omega)
    · refine z_aload_n dX12_does_48 rfl ?_
      refine z_getR dX12_does_49 fX12_13 (by first | assumption | exact And.left (by assumption)) rfl ?_
      refine z_aload_n dX12_does_52 rfl ?_
      refine z_iload_n dX12_does_53 rfl ?_
      refine z_iload dX12_does_54 rfl ?_
      refine z_iconst (v := nI 1) dX12_does_56 rfl ?_
      refine z_subN dX12_does_57 (by omega) ?_
      refine z_callV2i dX12_does_58 kX12_entryAt lX12_118 (by first | assumption | exact And.left (by assumption)) rfl (s_entAt (by omega) (by omega)) (Nat.le_of_ble_eq_true rfl) (Nat.le_of_ble_eq_true rfl) ⟨Nat.le_of_ble_eq_true rfl, Nat.le_of_ble_eq_true rfl⟩ ?_
      refine z_aload_n dX12_does_61 rfl ?_
      refine z_getR dX12_does_62 fX12_13 (by first | assumption | exact And.left (by assumption)) rfl ?_
      refine z_aload_n dX12_does_65 rfl ?_
      refine z_iload_n dX12_does_66 rfl ?_
      refine z_iload dX12_does_67 rfl ?_
      refine z_callV2i dX12_does_69 kX12_entryAt lX12_118 (by first | assumption | exact And.left (by assumption)) rfl (s_entAt (by omega) (by omega)) (Nat.le_of_ble_eq_true rfl) (Nat.le_of_ble_eq_true rfl) ⟨Nat.le_of_ble_eq_true rfl, Nat.le_of_ble_eq_true rfl⟩ ?_
      refine z_iconst (v := nI 4) dX12_does_72 rfl ?_
      refine z_callS5w dX12_does_73 kX12_copies lX12_76 (s_cp a1 a1 (by omega) (by omega) (by omega) (Or.inr (Or.inr (by omega)))) (Nat.le_of_ble_eq_true rfl) (Nat.le_of_ble_eq_true rfl) ⟨Nat.le_of_ble_eq_true rfl, Nat.le_of_ble_eq_true rfl⟩ ?_
      intro V2 hV2
      rw [insM_s (by omega) n2] at hV2
      subst hV2
      refine z_decN dX12_does_76 rfl (by omega) rfl ?_
      refine z_goto (tgt := 41) dX12_does_79 (by decide) ?_
      exact ih _ (by omega) (n - 1) rfl ⟨by omega, by omega⟩

theorem does_era {L : zL} {V V3 V4 : zV} {m i p r nx : Nat} {d : Df} {l : List Nat} (h3 : V3 = cpz V (m + 1) (m + 1) (2140 + 1600 * i + 16 + 4 * (pl (p * 64 + r) l + 1)) (2140 + 1600 * i + 16 + 4 * pl (p * 64 + r) l) (4 * (l.length - 1 - pl (p * 64 + r) l))) (h4 : V4 = zup V3 (m + 1) (2140 + 1600 * i + 13) (nI (l.length - 1))) (he : MXe (V (m + 1)) (2140 + 1600 * i) d l) (hb : d.1.length ≤ 3) (hk : pl (p * 64 + r) l < l.length) (hl : l.length ≤ 48) (hex : exc (p * 64 + r) l = l.eraseIdx (pl (p * 64 + r) l)) : zq none L nx (fun V' => oE V V' m (2140 + 1600 * i) ∧ MXe (V' (m + 1)) (2140 + 1600 * i) d (if (0 : Nat) = 1 then inc (p * 64 + r) l else exc (p * 64 + r) l)) none L V4 nx := by
  subst h4
  subst h3
  generalize pl (p * 64 + r) l = k at *
  refine ⟨rfl, rfl, rfl, ⟨fun q hq => ?_, fun j j1 j2 => ?_⟩, ?_⟩
  · rw [zup_a (by omega)]
    unfold cpz
    rw [zset_a (by omega)]
  · rw [zup_k (by omega)]
    unfold cpz
    rw [zset_s, if_neg (by omega)]
  · rw [if_neg (by decide), hex]
    refine MXe_era he hb hk (zup_s _ _ _ _) (fun j j1 j2 => ?_) (fun j j1 j2 => ?_)
    · rw [zup_k (by omega)]
      unfold cpz
      rw [zset_s, if_neg (by omega)]
    · rw [zup_k (by omega)]
      unfold cpz
      rw [zset_s, if_pos (by omega)]
      congr 1
      omega

set_option maxHeartbeats 4000000 in
set_option maxRecDepth 100000 in
theorem s_does0 {D : zD} {z0 nx : Nat} {L : zL} {V : zV} {m i p r : Nat} {d : Df} {l : List Nat} (hm : sM L m) (hi : i < 2) (hr : r < 48) (hd : MXd (V (m + 1)) (2140 + 1600 * i) d) (hb : Dfb d) (he : MXe (V (m + 1)) (2140 + 1600 * i) d l) (hl : l.length ≤ 48) (hv : ∀ c ∈ l, RV d (c / 64)) (hk : KR V m d p) (hp : RV d p) : Sp D z0 5 0 0 mX12_does [.ref m, .int (nI i), .int (nI 0), .int (nI r)] L V nx (zq none L nx (fun V' => oE V V' m (2140 + 1600 * i) ∧ MXe (V' (m + 1)) (2140 + 1600 * i) d (if (0 : Nat) = 1 then inc (p * 64 + r) l else exc (p * 64 + r) l))) := by
  have hm0 := hm
  obtain ⟨a0, a1, a2, a3, a4, a5, a6, a7, a8, a9, a10, a11, a12, a13, a14, a15⟩ := hm
  have he0 := he
  obtain ⟨e1, e2⟩ := he
  have hpl := pl_le (p * 64 + r) l
  have hbl := hb.1
  refine Sp.of 4 (by decide) rfl rfl (Nat.le_of_ble_eq_true rfl) ?_
  refine z_aload_n dX12_does_0 rfl ?_
  refine z_iload_n dX12_does_1 rfl ?_
  refine z_iload_n dX12_does_2 rfl ?_
  refine z_callV2i dX12_does_3 kX12_placeOf lX12_124 (by first | assumption | exact And.left (by assumption)) rfl (s_pl hm0 hi hr hd hb he0 hl hv hk hp) (Nat.le_of_ble_eq_true rfl) (Nat.le_of_ble_eq_true rfl) ⟨Nat.le_of_ble_eq_true rfl, Nat.le_of_ble_eq_true rfl⟩ ?_
  refine z_istore dX12_does_6 (Nat.le_of_ble_eq_true rfl) rfl ?_
  refine z_aload_n dX12_does_8 rfl ?_
  refine z_iload_n dX12_does_9 rfl ?_
  refine z_iload dX12_does_10 rfl ?_
  refine z_iload_n dX12_does_12 rfl ?_
  refine z_callV3i dX12_does_13 kX12_isAt lX12_127 (by first | assumption | exact And.left (by assumption)) rfl (s_isAt hm0 hi hr hd hb he0 hl hv hk hp (by omega)) (Nat.le_of_ble_eq_true rfl) (Nat.le_of_ble_eq_true rfl) ⟨Nat.le_of_ble_eq_true rfl, Nat.le_of_ble_eq_true rfl⟩ ?_
  refine z_istore dX12_does_16 (Nat.le_of_ble_eq_true rfl) rfl ?_
  refine z_aload_n dX12_does_18 rfl ?_
  refine z_iload_n dX12_does_19 rfl ?_
  refine z_bipush (v := nI 13) dX12_does_20 rfl ?_
  refine z_callV2i dX12_does_22 kX12_ofIndex lX12_104 (by first | assumption | exact And.left (by assumption)) rfl (s_ofIx hm0 hi (by omega) e1) (Nat.le_of_ble_eq_true rfl) (Nat.le_of_ble_eq_true rfl) ⟨Nat.le_of_ble_eq_true rfl, Nat.le_of_ble_eq_true rfl⟩ ?_
  refine z_istore dX12_does_25 (Nat.le_of_ble_eq_true rfl) rfl ?_
  refine z_iload_n dX12_does_27 rfl ?_
  refine z_iconst (v := nI 1) dX12_does_28 rfl ?_
  refine z_icmp_neN (tgt := 128) dX12_does_29 (by decide) (by omega) (by omega) (fun c_29 => ?_) (fun c_29 => ?_)
  · refine z_iload_n dX12_does_128 rfl ?_
    refine z_if_neN (tgt := 184) dX12_does_129 (by decide) (by omega) (fun c_129 => ?_) (fun c_129 => ?_)
    · exact absurd c_129 (by omega)
    · refine z_iload dX12_does_132 rfl ?_
      refine z_if_eqB (tgt := 184) dX12_does_134 (by decide) (fun c_134 => ?_) (fun c_134 => ?_)
      · have hex : exc (p * 64 + r) l = l := by rw [exc, if_neg c_134]
        refine z_return dX12_does_184 (Nat.le_of_ble_eq_true rfl) (Nat.le_of_ble_eq_true rfl) rfl ?_
        first
          | exact ⟨rfl, rfl, rfl, ⟨zEq.rf, fun _ _ _ => rfl⟩, by rw [if_neg (by decide), hex]; exact he0⟩
          | exact does_era hV3 hV4 he0 hbl c1 hl hex
      · have hex : exc (p * 64 + r) l = l.eraseIdx (pl (p * 64 + r) l) := by rw [exc, if_pos c_134]
        obtain ⟨c1, c2⟩ := c_134
        refine z_aload_n dX12_does_137 rfl ?_
        refine z_getR dX12_does_138 fX12_13 (by first | assumption | exact And.left (by assumption)) rfl ?_
        refine z_aload_n dX12_does_141 rfl ?_
        refine z_iload_n dX12_does_142 rfl ?_
        refine z_iload dX12_does_143 rfl ?_
        refine z_iconst (v := nI 1) dX12_does_145 rfl ?_
        refine z_addN dX12_does_146 ?_
        refine z_callV2i dX12_does_147 kX12_entryAt lX12_118 (by first | assumption | exact And.left (by assumption)) rfl (s_entAt (by omega) (by omega)) (Nat.le_of_ble_eq_true rfl) (Nat.le_of_ble_eq_true rfl) ⟨Nat.le_of_ble_eq_true rfl, Nat.le_of_ble_eq_true rfl⟩ ?_
        refine z_aload_n dX12_does_150 rfl ?_
        refine z_getR dX12_does_151 fX12_13 (by first | assumption | exact And.left (by assumption)) rfl ?_
        refine z_aload_n dX12_does_154 rfl ?_
        refine z_iload_n dX12_does_155 rfl ?_
        refine z_iload dX12_does_156 rfl ?_
        refine z_callV2i dX12_does_158 kX12_entryAt lX12_118 (by first | assumption | exact And.left (by assumption)) rfl (s_entAt (by omega) (by omega)) (Nat.le_of_ble_eq_true rfl) (Nat.le_of_ble_eq_true rfl) ⟨Nat.le_of_ble_eq_true rfl, Nat.le_of_ble_eq_true rfl⟩ ?_
        refine z_iconst (v := nI 4) dX12_does_161 rfl ?_
        refine z_iload dX12_does_162 rfl ?_
        refine z_iconst (v := nI 1) dX12_does_164 rfl ?_
        refine z_subN dX12_does_165 (by omega) ?_
        refine z_iload dX12_does_166 rfl ?_
        refine z_subN dX12_does_168 (by omega) ?_
        refine z_mulN dX12_does_169 ?_
        refine z_callS5w dX12_does_170 kX12_copies lX12_76 (s_cp a1 a1 (by omega) (by omega) (by omega) (Or.inr (Or.inl (by omega)))) (Nat.le_of_ble_eq_true rfl) (Nat.le_of_ble_eq_true rfl) ⟨Nat.le_of_ble_eq_true rfl, Nat.le_of_ble_eq_true rfl⟩ ?_
        intro V3 hV3
        refine z_aload_n dX12_does_173 rfl ?_
        refine z_iload_n dX12_does_174 rfl ?_
        refine z_bipush (v := nI 13) dX12_does_175 rfl ?_
        refine z_iload dX12_does_177 rfl ?_
        refine z_iconst (v := nI 1) dX12_does_179 rfl ?_
        refine z_subN dX12_does_180 (by omega) ?_
        refine z_callV3w dX12_does_181 kX12_laysIndex lX12_80 (by first | assumption | exact And.left (by assumption)) rfl (s_lays hm0 (by omega) (by omega)) (Nat.le_of_ble_eq_true rfl) (Nat.le_of_ble_eq_true rfl) ⟨Nat.le_of_ble_eq_true rfl, Nat.le_of_ble_eq_true rfl⟩ ?_
        intro V4 hV4
        refine z_return dX12_does_184 (Nat.le_of_ble_eq_true rfl) (Nat.le_of_ble_eq_true rfl) rfl ?_
        first
          | exact ⟨rfl, rfl, rfl, ⟨zEq.rf, fun _ _ _ => rfl⟩, by rw [if_neg (by decide), hex]; exact he0⟩
          | exact does_era hV3 hV4 he0 hbl c1 hl hex
  · exact absurd c_29 (by omega)

set_option maxHeartbeats 4000000 in
set_option maxRecDepth 100000 in
theorem s_does1 {D : zD} {z0 nx : Nat} {L : zL} {V : zV} {m i p r : Nat} {d : Df} {l : List Nat} (hm : sM L m) (hi : i < 2) (hr : r < 48) (hd : MXd (V (m + 1)) (2140 + 1600 * i) d) (hb : Dfb d) (he : MXe (V (m + 1)) (2140 + 1600 * i) d l) (hl : l.length ≤ 48) (hv : ∀ c ∈ l, RV d (c / 64)) (hk : KR V m d p) (hp : RV d p) (hcap : (1 : Nat) = 1 → l.length < 48 ∨ (pl (p * 64 + r) l < l.length ∧ l.getD (pl (p * 64 + r) l) 0 = p * 64 + r)) : Sp D z0 5 0 0 mX12_does [.ref m, .int (nI i), .int (nI 1), .int (nI r)] L V nx (zq none L nx (fun V' => oE V V' m (2140 + 1600 * i) ∧ MXe (V' (m + 1)) (2140 + 1600 * i) d (if (1 : Nat) = 1 then inc (p * 64 + r) l else exc (p * 64 + r) l))) := by
  have hm0 := hm
  obtain ⟨a0, a1, a2, a3, a4, a5, a6, a7, a8, a9, a10, a11, a12, a13, a14, a15⟩ := hm
  have he0 := he
  obtain ⟨e1, e2⟩ := he
  have hpl := pl_le (p * 64 + r) l
  have hbl := hb.1
  refine Sp.of 4 (by decide) rfl rfl (Nat.le_of_ble_eq_true rfl) ?_
  refine z_aload_n dX12_does_0 rfl ?_
  refine z_iload_n dX12_does_1 rfl ?_
  refine z_iload_n dX12_does_2 rfl ?_
  refine z_callV2i dX12_does_3 kX12_placeOf lX12_124 (by first | assumption | exact And.left (by assumption)) rfl (s_pl hm0 hi hr hd hb he0 hl hv hk hp) (Nat.le_of_ble_eq_true rfl) (Nat.le_of_ble_eq_true rfl) ⟨Nat.le_of_ble_eq_true rfl, Nat.le_of_ble_eq_true rfl⟩ ?_
  refine z_istore dX12_does_6 (Nat.le_of_ble_eq_true rfl) rfl ?_
  refine z_aload_n dX12_does_8 rfl ?_
  refine z_iload_n dX12_does_9 rfl ?_
  refine z_iload dX12_does_10 rfl ?_
  refine z_iload_n dX12_does_12 rfl ?_
  refine z_callV3i dX12_does_13 kX12_isAt lX12_127 (by first | assumption | exact And.left (by assumption)) rfl (s_isAt hm0 hi hr hd hb he0 hl hv hk hp (by omega)) (Nat.le_of_ble_eq_true rfl) (Nat.le_of_ble_eq_true rfl) ⟨Nat.le_of_ble_eq_true rfl, Nat.le_of_ble_eq_true rfl⟩ ?_
  refine z_istore dX12_does_16 (Nat.le_of_ble_eq_true rfl) rfl ?_
  refine z_aload_n dX12_does_18 rfl ?_
  refine z_iload_n dX12_does_19 rfl ?_
  refine z_bipush (v := nI 13) dX12_does_20 rfl ?_
  refine z_callV2i dX12_does_22 kX12_ofIndex lX12_104 (by first | assumption | exact And.left (by assumption)) rfl (s_ofIx hm0 hi (by omega) e1) (Nat.le_of_ble_eq_true rfl) (Nat.le_of_ble_eq_true rfl) ⟨Nat.le_of_ble_eq_true rfl, Nat.le_of_ble_eq_true rfl⟩ ?_
  refine z_istore dX12_does_25 (Nat.le_of_ble_eq_true rfl) rfl ?_
  refine z_iload_n dX12_does_27 rfl ?_
  refine z_iconst (v := nI 1) dX12_does_28 rfl ?_
  refine z_icmp_neN (tgt := 128) dX12_does_29 (by decide) (by omega) (by omega) (fun c_29 => ?_) (fun c_29 => ?_)
  · exact absurd c_29 (by omega)
  · refine z_iload dX12_does_32 rfl ?_
    refine z_if_neB (tgt := 128) dX12_does_34 (by decide) (fun c_34 => ?_) (fun c_34 => ?_)
    · refine z_iload_n dX12_does_128 rfl ?_
      refine z_if_neN (tgt := 184) dX12_does_129 (by decide) (by omega) (fun c_129 => ?_) (fun c_129 => ?_)
      · refine z_return dX12_does_184 (Nat.le_of_ble_eq_true rfl) (Nat.le_of_ble_eq_true rfl) rfl ?_
        have hin : inc (p * 64 + r) l = l := by rw [inc, if_pos (Or.inr c_34)]
        exact ⟨rfl, rfl, rfl, ⟨zEq.rf, fun _ _ _ => rfl⟩, by rw [if_pos rfl, hin]; exact he0⟩
      · exact absurd c_129 (by omega)
    · refine z_iload dX12_does_37 rfl ?_
      refine z_istore dX12_does_39 (Nat.le_of_ble_eq_true rfl) rfl ?_
      have h48 : l.length < 48 := (hcap rfl).resolve_right c_34
      have hz := lp_ins (D := D) (z0 := z0) (nx := nx) (is := zb (pl (p * 64 + r) l < l.length ∧ l.getD (pl (p * 64 + r) l) 0 = p * 64 + r)) hm0 hi hr hd hb he0 hl hv hk hp hpl h48 rfl (by rw [inc, if_neg (fun q => q.elim (fun z => by omega) c_34)]) l.length l.length rfl (by omega)
      rw [insM_0, show zset V (m + 1) (V (m + 1)) = V from zset_self V (m + 1)] at hz
      exact hz

