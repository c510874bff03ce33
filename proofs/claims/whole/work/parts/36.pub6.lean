/-! LateIndex, on: the query, what it finds, its plan -/
def lcg (L L' : zL) (lo hi : Nat) : Prop := ∀ q, lo ≤ q → q < hi → L' q = L q
theorem lcg.in {L L' : zL} {lo hi lo2 hi2 : Nat} (h : lcg L L' lo hi) (h1 : lo ≤ lo2) (h2 : hi2 ≤ hi) : lcg L L' lo2 hi2 := fun q q1 q2 => h q (by omega) (by omega)
theorem sOr.cg {L L' : zL} {b : Nat} (h : sOr L b) (e : lcg L L' b (b + 3)) : sOr L' b := ⟨(e _ (by omega) (by omega)).trans h.1, (e _ (by omega) (by omega)).trans h.2.1, (e _ (by omega) (by omega)).trans h.2.2⟩
theorem sCo.cg {L L' : zL} {b : Nat} (h : sCo L b) (e : lcg L L' b (b + 1)) : sCo L' b := (e _ (by omega) (by omega)).trans h
theorem sSC.cg {L L' : zL} {b : Nat} (h : sSC L b) (e : lcg L L' b (b + 2)) : sSC L' b := ⟨(e _ (by omega) (by omega)).trans h.1, (e _ (by omega) (by omega)).trans h.2⟩
theorem sLg.cg {L L' : zL} {b : Nat} (h : sLg L b) (e : lcg L L' b (b + 2)) : sLg L' b := ⟨(e _ (by omega) (by omega)).trans h.1, (e _ (by omega) (by omega)).trans h.2⟩
theorem sTr.cg {L L' : zL} {b : Nat} (h : sTr L b) (e : lcg L L' b (b + 2)) : sTr L' b := ⟨(e _ (by omega) (by omega)).trans h.1, (e _ (by omega) (by omega)).trans h.2⟩
theorem sVe.cg {L L' : zL} {b : Nat} (h : sVe L b) (e : lcg L L' b (b + 4)) : sVe L' b := ⟨(e _ (by omega) (by omega)).trans h.1, (e _ (by omega) (by omega)).trans h.2.1, (e _ (by omega) (by omega)).trans h.2.2.1, (e _ (by omega) (by omega)).trans h.2.2.2⟩
theorem sTp.cg {L L' : zL} {b : Nat} (h : sTp L b) (e : lcg L L' b (b + 2)) : sTp L' b := ⟨(e _ (by omega) (by omega)).trans h.1, (e _ (by omega) (by omega)).trans h.2⟩
theorem sDf.cg {L L' : zL} {b : Nat} (h : sDf L b) (e : lcg L L' b (b + 5)) : sDf L' b := ⟨(e _ (by omega) (by omega)).trans h.1, h.2.1.cg (e.in (by omega) (by omega)), h.2.2.cg (e.in (by omega) (by omega))⟩
theorem sIx.cg {L L' : zL} {b : Nat} (h : sIx L b) (e : lcg L L' b (b + 12)) : sIx L' b := ⟨(e _ (by omega) (by omega)).trans h.1, h.2.1.cg (e.in (by omega) (by omega)), h.2.2.1.cg (e.in (by omega) (by omega)), h.2.2.2.1.cg (e.in (by omega) (by omega)), h.2.2.2.2.cg (e.in (by omega) (by omega))⟩
theorem sQu.cg {L L' : zL} {b : Nat} (h : sQu L b) (e : lcg L L' b (b + 9)) : sQu L' b := ⟨(e _ (by omega) (by omega)).trans h.1, (e _ (by omega) (by omega)).trans h.2.1, h.2.2.1.cg (e.in (by omega) (by omega)), fun k hk => (h.2.2.2 k hk).cg (e.in (by omega) (by omega))⟩
theorem sSt.cg {L L' : zL} {b : Nat} (h : sSt L b) (e : lcg L L' b (b + 40)) : sSt L' b := by
  obtain ⟨h1, h2, h3, h4, h5, h6, h7⟩ := h
  exact ⟨(e _ (by omega) (by omega)).trans h1, h2.cg (e.in (by omega) (by omega)), (e _ (by omega) (by omega)).trans h3, (e _ (by omega) (by omega)).trans h4, (e _ (by omega) (by omega)).trans h5, fun t ht => (h6 t ht).cg (e.in (by omega) (by omega)), fun i hi => (h7 i hi).cg (e.in (by omega) (by omega))⟩
theorem sLI_of {L L' : zL} {a : Nat} {sw sw2 : Bool} (h : sLI L a sw) (e : lcg L L' (a + 1) (a + 471)) (h0 : L' a = some (.inr (.inr (11, [some (.ref (a + 1)), some (.ref (a + 41)), none, none, some (.ref (a + 42)), some (.ref (a + 43)), some (.ref (a + 44)), none, some (.ref (qa a sw2)), some (.ref (qa a (!sw2))), none, some (.ref (a + 64)), some (.ref (a + 69))])))) : sLI L' a sw2 := by
  obtain ⟨-, l2, l3, l4, l5, l6, l7, l8, l9, l10, l11, l12⟩ := h
  exact ⟨h0, l2.cg (e.in (by omega) (by omega)), (e _ (by omega) (by omega)).trans l3, (e _ (by omega) (by omega)).trans l4, (e _ (by omega) (by omega)).trans l5, l6.cg (e.in (by omega) (by omega)), l7.cg (e.in (by omega) (by omega)), l8.cg (e.in (by omega) (by omega)), l9.cg (e.in (by omega) (by omega)), l10.cg (e.in (by omega) (by omega)), fun k hk => (l11 k hk).cg (e.in (by omega) (by omega)), fun k hk => (l12 k hk).cg (e.in (by omega) (by omega))⟩
theorem zsh_s (L : zL) (a : Nat) (x : Sh) : zsh L a x a = some x := by simp [zsh]
theorem zsh_o {L : zL} {a q : Nat} {x : Sh} (h : q ≠ a) : zsh L a x q = L q := by simp [zsh, h]
theorem sLI_sw {L : zL} {a : Nat} {sw : Bool} (h : sLI L a sw) : sLI (zsh (zsh L a (.inr (.inr (11, ([some (.ref (a + 1)), some (.ref (a + 41)), none, none, some (.ref (a + 42)), some (.ref (a + 43)), some (.ref (a + 44)), none, some (.ref (qa a sw)), some (.ref (qa a (!sw))), none, some (.ref (a + 64)), some (.ref (a + 69))] : List (Option Value)).set 8 (some (.ref (qa a (!sw)))))))) a (.inr (.inr (11, (([some (.ref (a + 1)), some (.ref (a + 41)), none, none, some (.ref (a + 42)), some (.ref (a + 43)), some (.ref (a + 44)), none, some (.ref (qa a sw)), some (.ref (qa a (!sw))), none, some (.ref (a + 64)), some (.ref (a + 69))] : List (Option Value)).set 8 (some (.ref (qa a (!sw))))).set 9 (some (.ref (qa a sw))))))) a (!sw) := by
  refine sLI_of h (fun q q1 q2 => by rw [zsh_o (by omega), zsh_o (by omega)]) ?_
  rw [zsh_s, Bool.not_not] <;> rfl
theorem sLI_so {L : zL} {a q : Nat} {sw : Bool} (h : q ≠ a) : (zsh (zsh L a (.inr (.inr (11, ([some (.ref (a + 1)), some (.ref (a + 41)), none, none, some (.ref (a + 42)), some (.ref (a + 43)), some (.ref (a + 44)), none, some (.ref (qa a sw)), some (.ref (qa a (!sw))), none, some (.ref (a + 64)), some (.ref (a + 69))] : List (Option Value)).set 8 (some (.ref (qa a (!sw)))))))) a (.inr (.inr (11, (([some (.ref (a + 1)), some (.ref (a + 41)), none, none, some (.ref (a + 42)), some (.ref (a + 43)), some (.ref (a + 44)), none, some (.ref (qa a sw)), some (.ref (qa a (!sw))), none, some (.ref (a + 64)), some (.ref (a + 69))] : List (Option Value)).set 8 (some (.ref (qa a (!sw))))).set 9 (some (.ref (qa a sw))))))) q = L q := by rw [zsh_o h, zsh_o h]

noncomputable def setQ (w : Wo) (q : Qu) : Wo := (w.1, w.2.1, w.2.2.1, w.2.2.2.1, w.2.2.2.2.1, some q)
noncomputable def qry (n : Nat) (w : Wo) : Int32 × Wo := if (rQ ((tpb w).take n)).1 = 0 then (nI (rQ ((tpb w).take n)).2.2.1.length, setQ (setTp w [] 0 (-1)) (rQ ((tpb w).take n)).2.2) else (-30 - nI (rQ ((tpb w).take n)).1, setTp w [] (rQ ((tpb w).take n)).1 (nI (rQ ((tpb w).take n)).2.1))
noncomputable def o_query (n : Int32) (w : Wo) : Int32 × Wo := cif (rng ((tpb w).length + 1) n) (qry (tn n) w) (-3, w)
/-- what a query finds of the first n rows, by its keys -/
noncomputable def gf (q : Qu) (f : Nat → Option Nat) : Nat → List Nat
  | 0 => []
  | r + 1 => match f r with
    | none => gf q f r
    | some p => cif (∀ k, k < q.1.length → fo (ck q.1 k) p) (inc (rk q.2 p 3 * 64 + r) (gf q f r)) (gf q f r)
noncomputable def o_find (t : Int32) (w : Wo) : Int32 × Wo := cif (vwr t) (cif (cvw w t) (match w.2.2.2.2.2 with | none => (-5, w) | some q => (nI (gf q (sv w t) 48).length, w)) (-5, w)) (-2, w)
noncomputable def o_found (t k : Int32) (w : Wo) : Int32 × Wo := cif (vwr t) (if k < 0 then (-3, w) else cif (cvw w t) (match w.2.2.2.2.2 with | none => (-5, w) | some q => (cif (rng (gf q (sv w t) 48).length k) (nI ((gf q (sv w t) 48).getD (tn k) 0 % 64)) (-1), w)) (-5, w)) (-2, w)
noncomputable def cst (q : Qu) (w : Wo) (i : Nat) : Nat := if i < 2 then rby q.1 (xof w i).2.1.1 (xof w i).2.2.1 else rth w
noncomputable def chs (q : Qu) (w : Wo) : Nat → Nat
  | 0 => 2
  | i + 1 => cif (srv q.1 (xof w i) ∧ cst q w i < cst q w (chs q w i)) i (chs q w i)
def bgn (o o2 : List (Nat × Bool)) : Prop := o2.length ≤ o.length ∧ ∀ k, k < o2.length → o.getD k (0, false) = o2.getD k (0, false)
def srt (q : Qu) (w : Wo) (i : Nat) : Prop := q.2.length = 0 ∨ (i < 2 ∧ bgn (xof w i).2.1.1 q.2)
noncomputable def svr (q : Qu) (w : Wo) : Nat → Nat → Int32 → Int32
  | 0, _, x => x
  | f + 1, i, x => svr q w f (i + 1) (cif (srv q.1 (xof w i)) (x ||| (nI 1 <<< (nI i &&& 31))) x)
noncomputable def pln (q : Qu) (w : Wo) (x : Nat) : Int32 := if x = 0 then i2n (chs q w 2) else if x = 1 then nI (cst q w (chs q w 2)) else if x = 2 then zb (srt q w (chs q w 2)) else if x = 3 then (if chs q w 2 < 2 then nI (stz q.1 (xof w (chs q w 2)).2.1.1) else nI 0) else svr q w 2 0 0
noncomputable def o_plan (x : Int32) (w : Wo) : Int32 × Wo := cif (rng 5 x) (match w.2.2.2.2.2 with | none => (-5, w) | some q => (pln q w (tn x), w)) (-2, w)
theorem LI_qr {V V1 : zV} {a k : Nat} {sw : Bool} {w : Wo} {p : Int32} {q : Qu} (h : LI V a sw w) (hf : fr V V1 (a + 44) (qa a (!sw)) (qa a (!sw) + 9)) (ht : TP V1 (a + 44) [] (nI k) p) (hk : k < 5) (hd : QU V1 (qa a (!sw)) q) : LI V1 a sw (setTp w [] k p) := by
  have hq := qa_or a sw
  obtain ⟨V2, e1, e2, e3⟩ := fr_split hf (by omega)
  have h2 : LI V2 a sw (setTp w [] k p) := LI_tp h (e1.wide (by omega) (by omega)) ⟨by rw [e3]; exact ht.1, by simp, fun j hj => absurd hj (by simp)⟩ hk
  obtain ⟨h1, h2, h3, ⟨h4, h40⟩, ⟨h5, h6⟩, ⟨q1, ⟨x, q2⟩, ⟨y, q3⟩, q4⟩, ⟨d, h8⟩, ⟨l, h9⟩⟩ := h2
  exact ⟨h1.eq e2 (by omega), h2.eq e2 (by omega) (by omega), h3.eq e2 (by omega) (by omega), ⟨h4.eq e2 (by omega), h40⟩, ⟨by rw [e2 a (by omega)]; exact h5, h6⟩, ⟨by rw [e2 a (by omega)]; exact q1, ⟨x, q2.eq e2 (by omega)⟩, ⟨q, hd⟩, fun z hz => (q4 z hz).eq e2 (by omega)⟩, ⟨d, h8.eq e2 (by omega)⟩, ⟨l, h9.eq e2 (by omega)⟩⟩
theorem LI_sq {V : zV} {a : Nat} {sw : Bool} {w : Wo} {q : Qu} (h : LI V a sw w) (hd : QU V (qa a (!sw)) q) : LI (zup V a 10 (nI 1)) a (!sw) (setQ w q) := by
  have hq := qa_or a sw
  have he : zEq V (zup V a 10 (nI 1)) a (a + 1) := zEq.rf.up (by omega) (by omega)
  obtain ⟨h1, ⟨u1, u2, el, u3, u4, u5, u6⟩, h3, ⟨h4, h40⟩, ⟨h5, h6⟩, ⟨q1, ⟨x, q2⟩, ⟨y, q3⟩, q4⟩, ⟨d, h8⟩, ⟨l, h9⟩⟩ := h
  refine ⟨h1.eq he (by omega), ⟨u1, by simp [zup]; exact u2, el, u3, by simp [zup]; exact u4, fun k hk => ?_, fun k hk => (u6 k hk).eq he (by omega)⟩, h3.eq he (by omega) (by omega), ⟨h4.eq he (by omega), h40⟩, ⟨by simp [zup]; exact h5, h6⟩, ⟨?_, ⟨q, hd.eq he (by omega)⟩, ⟨x, ?_⟩, fun z hz => ?_⟩, ⟨d, h8.eq he (by omega)⟩, ⟨l, h9.eq he (by omega)⟩⟩
  · obtain ⟨s, hs⟩ := u5 k hk
    exact ⟨s, hs.eq he (by omega)⟩
  · show zup V a 10 (nI 1) a 10 = zb (some q ≠ none)
    rw [zup_s, zb_t (by simp)] <;> rfl
  · rw [Bool.not_not]
    exact q2.eq he (by omega)
  · have hz2 : some q = some z := hz
    cases hz2
    exact hd.eq he (by omega)

set_option maxHeartbeats 4000000 in
set_option maxRecDepth 100000 in
theorem c_query {D : zD} {z0 nx : Nat} {L : zL} {V : zV} {a : Nat} {sw : Bool} {w : Wo} (hs : sLI L a sw) (h : LI V a sw w) {n : Int32} : Sp D z0 9 0 0 mX11_query [.ref a, .int n] L V nx (fun r L' V' nx' => r = some (.int (o_query n w).1) ∧ nx' = nx ∧ (∀ q, q ≠ a → L' q = L q) ∧ ∃ sw2, sLI L' a sw2 ∧ zEq V V' a (a + 471) ∧ LI V' a sw2 (o_query n w).2) := by
  have hs0 := hs
  have h0 := h
  obtain ⟨l1, l2, l3, l4, l5, l6, l7, l8, l9, l10, l11, l12⟩ := hs
  obtain ⟨k1, k2, k3, k4, k5, k6, k7, k8⟩ := h
  have l20 := l2
  obtain ⟨s1, s2, s3, s4, s5, s6, s7⟩ := l2
  have k10 := k1
  obtain ⟨v1, v2, v3, v4⟩ := k1
  have hl0 := k4.1.2.1
  obtain ⟨q1, ⟨x, q2⟩, ⟨y, q3⟩, q4⟩ := k6
  obtain ⟨l7b, l8b⟩ := sLI.q hs0
  have hq := qa_or a sw
  refine Sp.of 1 (by decide) rfl rfl (Nat.le_of_ble_eq_true rfl) ?_
  refine z_iload_n dX11_query_0 rfl ?_
  refine z_if_lt (tgt := 15) dX11_query_1 (by decide) (fun c_1 => ?_) (fun c_1 => ?_)
  · refine z_bipush (v := (-3)) dX11_query_15 rfl ?_
    refine z_ireturn dX11_query_17 (Nat.le_of_ble_eq_true rfl) (Nat.le_of_ble_eq_true rfl) rfl ?_
    rw [show o_query n w = (-3, w) from by unfold o_query; rw [cif_n (by first | exact rng_n1 (by unfold tpb; omega) c_1 | exact rng_gt (by unfold tpb; omega) c_12)]]
    exact ⟨rfl, rfl, fun _ _ => rfl, sw, hs0, zEq.rf, h0⟩
  · refine z_iload_n dX11_query_4 rfl ?_
    refine z_aload_n dX11_query_5 rfl ?_
    refine z_getR dX11_query_6 fX11_30 (by first | assumption | exact And.left (by assumption)) rfl ?_
    refine z_getIe dX11_query_9 fX11_138 (by first | assumption | exact And.left (by assumption)) rfl k4.1.1.1 ?_
    refine z_icmp_le (tgt := 18) dX11_query_12 (by decide) (fun c_12 => ?_) (fun c_12 => ?_)
    · have c_n : rng ((tpb w).length + 1) n := rng_le (n := (tpb w).length) (by unfold tpb; omega) c_1 c_12
      have hR : o_query n w = qry (tn n) w := by unfold o_query; rw [cif_y c_n]
      obtain ⟨j, hj, rfl⟩ := c_n
      have hJ : tn (nI j) = j := tn_k (by unfold tpb at hj; omega)
      rw [hJ] at hR
      refine z_aload_n dX11_query_18 rfl ?_
      refine z_getR dX11_query_19 fX11_30 (by first | assumption | exact And.left (by assumption)) rfl ?_
      refine z_iload_n dX11_query_22 rfl ?_
      refine z_aload_n dX11_query_23 rfl ?_
      refine z_getR dX11_query_24 fX11_41 (by first | assumption | exact And.left (by assumption)) rfl ?_
      refine z_callV2q dX11_query_27 kX8_readQuestion lX11_275 (by first | assumption | exact And.left (by assumption)) rfl (s_rQ l6 k4.1 (by unfold tpb at hj; omega) l8b (by omega) q3) (Nat.le_of_ble_eq_true rfl) (Nat.le_of_ble_eq_true rfl) ⟨Nat.le_of_ble_eq_true rfl, Nat.le_of_ble_eq_true rfl⟩ ?_
      intro V5 hV5
      obtain ⟨f5, a5, d5⟩ := hV5
      have hlt := rQ_lt ((tpb w).take j)
      have t5 := TP_PRS a5
      have g5 : LI V5 a sw (setTp w [] (rQ ((tpb w).take j)).1 (if (rQ ((tpb w).take j)).1 = 0 then -1 else nI (rQ ((tpb w).take j)).2.1)) := LI_qr h0 f5 t5 hlt d5
      have z5 : zEq V V5 a (a + 471) := fun q hq => f5 q (by omega) (by omega)
      clear h0
      refine z_if_neB (tgt := 44) dX11_query_30 (by decide) (fun c_30 => ?_) (fun c_30 => ?_)
      · have c_9 : (rQ ((tpb w).take j)).1 = 0 := c_30
        rw [c_9, if_pos rfl] at g5
        have h0 := LI_sq g5 d5
        have hs2 := sLI_sw hs0
        have z9 := z5.up (a := a) (k := 10) (x := nI 1) (by omega) (by omega)
        have hsq := (sLI.q hs2).1
        have hl1 := hs2.1
        have qn := (d5.eq (lo := a) (hi := a + 1) (zEq.rf.up (a := a) (k := 10) (x := nI 1) (by omega) (by omega)) (by omega)).1
        refine z_aload_n dX11_query_44 rfl ?_
        refine z_getR dX11_query_45 fX11_37 (by first | assumption | exact And.left (by assumption)) rfl ?_
        refine z_astore_n dX11_query_48 (Nat.le_of_ble_eq_true rfl) rfl ?_
        refine z_aload_n dX11_query_49 rfl ?_
        refine z_aload_n dX11_query_50 rfl ?_
        refine z_getR dX11_query_51 fX11_41 (by first | assumption | exact And.left (by assumption)) rfl ?_
        refine z_putR dX11_query_54 fX11_37 (Or.inl rfl) ⟨rfl, rfl⟩ (by first | assumption | exact And.left (by assumption)) (Nat.le_of_ble_eq_true rfl) ?_
        refine z_aload_n dX11_query_57 rfl ?_
        refine z_aload_n dX11_query_58 rfl ?_
        refine z_putR dX11_query_59 fX11_41 (Or.inl rfl) ⟨rfl, rfl⟩ (zsh_s _ _ _) (Nat.le_of_ble_eq_true rfl) ?_
        refine z_aload_n dX11_query_62 rfl ?_
        refine z_iconst (v := nI 1) dX11_query_63 rfl ?_
        refine z_putZ dX11_query_64 fX11_279 hl1 rfl (by first | exact Or.inl rfl | exact Or.inr rfl | assumption) ?_
        refine z_aload_n dX11_query_67 rfl ?_
        refine z_getR dX11_query_68 fX11_37 hl1 rfl ?_
        refine z_getIe dX11_query_71 fX11_282 hsq.1 rfl qn ?_
        refine z_ireturn dX11_query_74 (Nat.le_of_ble_eq_true rfl) (Nat.le_of_ble_eq_true rfl) rfl ?_
        rw [hR, qry, if_pos c_9]
        exact ⟨rfl, rfl, fun q hq => sLI_so hq, !sw, hs2, z9, h0⟩
      · refine z_bipush (v := (-30)) dX11_query_33 rfl ?_
        refine z_aload_n dX11_query_35 rfl ?_
        refine z_getR dX11_query_36 fX11_30 (by first | assumption | exact And.left (by assumption)) rfl ?_
        refine z_getIe dX11_query_39 fX11_160 (by first | assumption | exact And.left (by assumption)) rfl t5.1.2.1 ?_
        refine z_isub dX11_query_42 ?_
        refine z_ireturn dX11_query_43 (Nat.le_of_ble_eq_true rfl) (Nat.le_of_ble_eq_true rfl) rfl ?_
        have c_9 : ¬ (rQ ((tpb w).take j)).1 = 0 := c_30
        rw [if_neg c_9] at g5
        rw [hR, qry, if_neg c_9]
        exact ⟨rfl, rfl, fun _ _ => rfl, sw, hs0, z5, g5⟩
    · refine z_bipush (v := (-3)) dX11_query_15 rfl ?_
      refine z_ireturn dX11_query_17 (Nat.le_of_ble_eq_true rfl) (Nat.le_of_ble_eq_true rfl) rfl ?_
      rw [show o_query n w = (-3, w) from by unfold o_query; rw [cif_n (by first | exact rng_n1 (by unfold tpb; omega) c_1 | exact rng_gt (by unfold tpb; omega) c_12)]]
      exact ⟨rfl, rfl, fun _ _ => rfl, sw, hs0, zEq.rf, h0⟩

set_option maxHeartbeats 4000000 in
set_option maxRecDepth 100000 in
theorem lp_gf {D : zD} {z0 nx : Nat} {L : zL} {V : zV} {a : Nat} {sw : Bool} {w : Wo} (hs : sLI L a sw) (h : LI V a sw w) {q : Qu} {t : Int32} (hq0 : w.2.2.2.2.2 = some q) (ht : t = -1 ∨ rng 4 t) : ∀ (fu : Nat) (r : Nat) (V1 : zV), 48 - r = fu → r ≤ 48 → zEq V V1 (a + 69) (a + 71) → SC V1 (a + 69) (gf q (sv w t) r) → Z D z0 7 0 0 mX11_gatherFound 0 0 9 [some (.ref a), some (.int t), some (.int (nI r)), none] [] L V1 nx (zq none L nx (fun V' => zEq V V' (a + 69) (a + 71) ∧ SC V' (a + 69) (gf q (sv w t) 48))) := by
  intro fu
  induction fu using Nat.strongRecOn with
  | ind fu ih =>
    intro r V1 h_fu h_0 h_1 h_2
    have hs0 := hs
    have h0 := h
    obtain ⟨l1, l2, l3, l4, l5, l6, l7, l8, l9, l10, l11, l12⟩ := hs
    obtain ⟨k1, k2, k3, k4, k5, k6, k7, k8⟩ := h
    have l20 := l2
    obtain ⟨s1, s2, s3, s4, s5, s6, s7⟩ := l2
    have k10 := k1
    obtain ⟨v1, v2, v3, v4⟩ := k1
    obtain ⟨q1, -, -, q4⟩ := k6
    have qu0 := q4 q hq0
    have l7b := (sLI.q hs0).1
    have hqa := qa_or a sw
    have k1b := k10.eq h_1 (by omega)
    have quB := qu0.eq h_1 (by omega)
    have hvl := sv_lt (r := r) k1b ht
    obtain ⟨quo1, quo2, quo3, quo4⟩ := quB
    have quB : QU V1 (qa a sw) q := ⟨quo1, quo2, quo3, quo4⟩
    have l7o := l7b.2.2.1
    refine z_iload_n dX11_gatherFound_9 rfl ?_
    refine z_bipush (v := nI 48) dX11_gatherFound_10 rfl ?_
    refine z_icmp_geN (tgt := 69) dX11_gatherFound_12 (by decide) (by omega) (by omega) (fun c_12 => ?_) (fun c_12 => ?_)
    · refine z_return dX11_gatherFound_69 (Nat.le_of_ble_eq_true rfl) (Nat.le_of_ble_eq_true rfl) rfl ?_
      have e48 : r = 48 := by omega
      subst e48
      exact ⟨rfl, rfl, rfl, h_1, h_2⟩
    · refine z_aload_n dX11_gatherFound_15 rfl ?_
      refine z_getR dX11_gatherFound_16 fX11_10 (by first | assumption | exact And.left (by assumption)) rfl ?_
      refine z_iload_n dX11_gatherFound_19 rfl ?_
      refine z_iload_n dX11_gatherFound_20 rfl ?_
      refine z_callV2i dX11_gatherFound_21 kX7_valueSeen lX11_108 (by first | assumption | exact And.left (by assumption)) rfl (s_sv l20 k1b ht (by omega)) (Nat.le_of_ble_eq_true rfl) (Nat.le_of_ble_eq_true rfl) ⟨Nat.le_of_ble_eq_true rfl, Nat.le_of_ble_eq_true rfl⟩ ?_
      refine z_istore_n dX11_gatherFound_24 (Nat.le_of_ble_eq_true rfl) rfl ?_
      refine z_iload_n dX11_gatherFound_25 rfl ?_
      refine z_iconst (v := (-1)) dX11_gatherFound_26 rfl ?_
      refine z_icmp_eq (tgt := 63) dX11_gatherFound_27 (by decide) (fun c_27 => ?_) (fun c_27 => ?_)
      · have hsn : sv w t r = none := (vv_m1' (fun p hp => by have := hvl (by omega) p hp; omega)).mp c_27
        have eN : gf q (sv w t) (r + 1) = gf q (sv w t) r := by
          show (match sv w t r with | none => _ | some p => _) = _
          rw [hsn]
        refine z_incN dX11_gatherFound_63 rfl rfl ?_
        refine z_goto (tgt := 9) dX11_gatherFound_66 (by decide) ?_
        refine z_fg 3 ?_
        first
          | exact ih _ (by omega) (r + 1) V1 rfl (by omega) h_1 (by rw [eN]; exact h_2)
          | exact ih _ (by omega) (r + 1) V2 rfl (by omega) (h_1.trans hV2.1) (by rw [eN]; exact hV2.2)
      · obtain ⟨p, hp⟩ := Option.ne_none_iff_exists'.mp (fun z => c_27 (by rw [z] <;> rfl) : ¬ sv w t r = none)
        have hp9 := hvl (by omega) p hp
        rw [hp, show vv (some p) = nI p from rfl]
        have eM : gf q (sv w t) (r + 1) = cif (∀ k, k < q.1.length → fo (ck q.1 k) p) (inc (rk q.2 p 3 * 64 + r) (gf q (sv w t) r)) (gf q (sv w t) r) := by
          show (match sv w t r with | none => _ | some p => _) = _
          rw [hp]
        refine z_aload_n dX11_gatherFound_30 rfl ?_
        refine z_getR dX11_gatherFound_31 fX11_37 (by first | assumption | exact And.left (by assumption)) rfl ?_
        refine z_iload_n dX11_gatherFound_34 rfl ?_
        refine z_callV1i dX11_gatherFound_35 kX5_holdsFor lX11_359 l7b.1 rfl (s_QUholds l7b quB hp9) (Nat.le_of_ble_eq_true rfl) (Nat.le_of_ble_eq_true rfl) ⟨Nat.le_of_ble_eq_true rfl, Nat.le_of_ble_eq_true rfl⟩ ?_
        refine z_if_eqB (tgt := 63) dX11_gatherFound_38 (by decide) (fun c_38 => ?_) (fun c_38 => ?_)
        · have eN := eM.trans (cif_n c_38)
          refine z_incN dX11_gatherFound_63 rfl rfl ?_
          refine z_goto (tgt := 9) dX11_gatherFound_66 (by decide) ?_
          refine z_fg 3 ?_
          first
            | exact ih _ (by omega) (r + 1) V1 rfl (by omega) h_1 (by rw [eN]; exact h_2)
            | exact ih _ (by omega) (r + 1) V2 rfl (by omega) (h_1.trans hV2.1) (by rw [eN]; exact hV2.2)
        · have eN := eM.trans (cif_y c_38)
          refine z_aload_n dX11_gatherFound_41 rfl ?_
          refine z_getR dX11_gatherFound_42 fX11_54 (by first | assumption | exact And.left (by assumption)) rfl ?_
          refine z_aload_n dX11_gatherFound_45 rfl ?_
          refine z_getR dX11_gatherFound_46 fX11_37 (by first | assumption | exact And.left (by assumption)) rfl ?_
          refine z_getR dX11_gatherFound_49 fX11_362 l7b.1 rfl ?_
          refine z_iload_n dX11_gatherFound_52 rfl ?_
          have hrk := (rk_3 q.2 hp9).2.2
          refine z_callV1i dX11_gatherFound_53 kX4_rankOf lX11_250 l7o.1 rfl (s_rankOf l7o quo4 hp9) (Nat.le_of_ble_eq_true rfl) (Nat.le_of_ble_eq_true rfl) ⟨Nat.le_of_ble_eq_true rfl, Nat.le_of_ble_eq_true rfl⟩ ?_
          refine z_iload_n dX11_gatherFound_56 rfl ?_
          refine z_callS2i dX11_gatherFound_57 kX6_codeOf lX11_365 (s_codeOf (by omega) (by omega)) (Nat.le_of_ble_eq_true rfl) (Nat.le_of_ble_eq_true rfl) ⟨Nat.le_of_ble_eq_true rfl, Nat.le_of_ble_eq_true rfl⟩ ?_
          refine z_callV1w dX11_gatherFound_60 kX6_include lX11_368 l10.1 rfl (s_include l10 h_2 (by omega)) (Nat.le_of_ble_eq_true rfl) (Nat.le_of_ble_eq_true rfl) ⟨Nat.le_of_ble_eq_true rfl, Nat.le_of_ble_eq_true rfl⟩ ?_
          intro V2 hV2
          refine z_incN dX11_gatherFound_63 rfl rfl ?_
          refine z_goto (tgt := 9) dX11_gatherFound_66 (by decide) ?_
          refine z_fg 3 ?_
          first
            | exact ih _ (by omega) (r + 1) V1 rfl (by omega) h_1 (by rw [eN]; exact h_2)
            | exact ih _ (by omega) (r + 1) V2 rfl (by omega) (h_1.trans hV2.1) (by rw [eN]; exact hV2.2)

set_option maxHeartbeats 4000000 in
set_option maxRecDepth 100000 in
theorem s_gf {D : zD} {z0 nx : Nat} {L : zL} {V : zV} {a : Nat} {sw : Bool} {w : Wo} (hs : sLI L a sw) (h : LI V a sw w) {q : Qu} {t : Int32} (hq0 : w.2.2.2.2.2 = some q) (ht : t = -1 ∨ rng 4 t) : Sp D z0 7 0 0 mX11_gatherFound [.ref a, .int t] L V nx (zq none L nx (fun V' => zEq V V' (a + 69) (a + 71) ∧ SC V' (a + 69) (gf q (sv w t) 48))) := by
  have hs0 := hs
  have h0 := h
  obtain ⟨l1, l2, l3, l4, l5, l6, l7, l8, l9, l10, l11, l12⟩ := hs
  obtain ⟨k1, k2, k3, k4, k5, k6, k7, k8⟩ := h
  have l20 := l2
  obtain ⟨s1, s2, s3, s4, s5, s6, s7⟩ := l2
  have k10 := k1
  obtain ⟨v1, v2, v3, v4⟩ := k1
  obtain ⟨q1, -, -, q4⟩ := k6
  have qu0 := q4 q hq0
  have l7b := (sLI.q hs0).1
  have hqa := qa_or a sw
  refine Sp.of 2 (by decide) rfl rfl (Nat.le_of_ble_eq_true rfl) ?_
  refine z_aload_n dX11_gatherFound_0 rfl ?_
  refine z_getR dX11_gatherFound_1 fX11_54 (by first | assumption | exact And.left (by assumption)) rfl ?_
  refine z_callV0w dX11_gatherFound_4 kX6_clearAll lX11_356 l10.1 rfl (s_SCclear l10) (Nat.le_of_ble_eq_true rfl) (Nat.le_of_ble_eq_true rfl) ⟨Nat.le_of_ble_eq_true rfl, Nat.le_of_ble_eq_true rfl⟩ ?_
  intro V1 hV1
  refine z_iconst (v := nI 0) dX11_gatherFound_7 rfl ?_
  refine z_istore_n dX11_gatherFound_8 (Nat.le_of_ble_eq_true rfl) rfl ?_
  exact lp_gf hs0 h0 hq0 ht _ 0 V1 rfl (by omega) hV1.1 hV1.2

set_option maxHeartbeats 4000000 in
set_option maxRecDepth 100000 in
theorem c_find {D : zD} {z0 nx : Nat} {L : zL} {V : zV} {a : Nat} {sw : Bool} {w : Wo} (hs : sLI L a sw) (h : LI V a sw w) {t : Int32} : Sp D z0 8 0 0 mX11_find [.ref a, .int t] L V nx (zq (some (.int (o_find t w).1)) L nx (fun V' => zEq V V' a (a + 471) ∧ LI V' a sw (o_find t w).2)) := by
  have hs0 := hs
  have h0 := h
  obtain ⟨l1, l2, l3, l4, l5, l6, l7, l8, l9, l10, l11, l12⟩ := hs
  obtain ⟨k1, k2, k3, k4, k5, k6, k7, k8⟩ := h
  have l20 := l2
  obtain ⟨s1, s2, s3, s4, s5, s6, s7⟩ := l2
  have k10 := k1
  obtain ⟨v1, v2, v3, v4⟩ := k1
  refine Sp.of 0 (by decide) rfl rfl (Nat.le_of_ble_eq_true rfl) ?_
  refine z_iload_n dX11_find_0 rfl ?_
  refine z_callS1i dX11_find_1 kX11_isViewer lX11_125 s_vwr (Nat.le_of_ble_eq_true rfl) (Nat.le_of_ble_eq_true rfl) ⟨Nat.le_of_ble_eq_true rfl, Nat.le_of_ble_eq_true rfl⟩ ?_
  refine z_if_neB (tgt := 10) dX11_find_4 (by decide) (fun c_4 => ?_) (fun c_4 => ?_)
  · refine z_aload_n dX11_find_10 rfl ?_
    refine z_iload_n dX11_find_11 rfl ?_
    refine z_callV1i dX11_find_12 kX11_canView lX11_128 (by first | assumption | exact And.left (by assumption)) rfl (s_cvw hs0 h0) (Nat.le_of_ble_eq_true rfl) (Nat.le_of_ble_eq_true rfl) ⟨Nat.le_of_ble_eq_true rfl, Nat.le_of_ble_eq_true rfl⟩ ?_
    refine z_if_eqB (tgt := 25) dX11_find_15 (by decide) (fun c_15 => ?_) (fun c_15 => ?_)
    · refine z_bipush (v := (-5)) dX11_find_25 rfl ?_
      refine z_ireturn dX11_find_27 (Nat.le_of_ble_eq_true rfl) (Nat.le_of_ble_eq_true rfl) rfl ?_
      first
        | (rw [show o_find t w = (-5, w) from by unfold o_find; rw [cif_y c_4, cif_n c_15]]; exact ⟨rfl, rfl, rfl, zEq.rf, h0⟩)
        | (rw [show o_find t w = (-5, w) from by unfold o_find; rw [cif_y c_4, cif_y c_15, hN]]; exact ⟨rfl, rfl, rfl, zEq.rf, h0⟩)
    · refine z_aload_n dX11_find_18 rfl ?_
      refine z_getIe dX11_find_19 fX11_279 (by first | assumption | exact And.left (by assumption)) rfl k6.1 ?_
      refine z_if_neB (tgt := 28) dX11_find_22 (by decide) (fun c_22 => ?_) (fun c_22 => ?_)
      · obtain ⟨q, hq0⟩ := Option.ne_none_iff_exists'.mp c_22
        refine z_aload_n dX11_find_28 rfl ?_
        refine z_iload_n dX11_find_29 rfl ?_
        refine z_callV1w dX11_find_30 kX11_gatherFound lX11_283 (by first | assumption | exact And.left (by assumption)) rfl (s_gf hs0 h0 hq0 (cvw_v c_15)) (Nat.le_of_ble_eq_true rfl) (Nat.le_of_ble_eq_true rfl) ⟨Nat.le_of_ble_eq_true rfl, Nat.le_of_ble_eq_true rfl⟩ ?_
        intro V2 hV2
        obtain ⟨e2, t2⟩ := hV2
        have n2 := t2.1
        refine z_aload_n dX11_find_33 rfl ?_
        refine z_getR dX11_find_34 fX11_54 (by first | assumption | exact And.left (by assumption)) rfl ?_
        refine z_getIe dX11_find_37 fX11_200 l10.1 rfl n2 ?_
        refine z_ireturn dX11_find_40 (Nat.le_of_ble_eq_true rfl) (Nat.le_of_ble_eq_true rfl) rfl ?_
        rw [show o_find t w = (nI (gf q (sv w t) 48).length, w) from by unfold o_find; rw [cif_y c_4, cif_y c_15, hq0]]
        exact ⟨rfl, rfl, rfl, e2.wide (by omega) (by omega), LI_sc h0 e2 ⟨_, t2⟩⟩
      · have hN : w.2.2.2.2.2 = none := Classical.byContradiction (fun z => c_22 z)
        refine z_bipush (v := (-5)) dX11_find_25 rfl ?_
        refine z_ireturn dX11_find_27 (Nat.le_of_ble_eq_true rfl) (Nat.le_of_ble_eq_true rfl) rfl ?_
        first
          | (rw [show o_find t w = (-5, w) from by unfold o_find; rw [cif_y c_4, cif_n c_15]]; exact ⟨rfl, rfl, rfl, zEq.rf, h0⟩)
          | (rw [show o_find t w = (-5, w) from by unfold o_find; rw [cif_y c_4, cif_y c_15, hN]]; exact ⟨rfl, rfl, rfl, zEq.rf, h0⟩)
  · refine z_bipush (v := (-2)) dX11_find_7 rfl ?_
    refine z_ireturn dX11_find_9 (Nat.le_of_ble_eq_true rfl) (Nat.le_of_ble_eq_true rfl) rfl ?_
    rw [show o_find t w = (-2, w) from by unfold o_find; rw [cif_n c_4]]
    exact ⟨rfl, rfl, rfl, zEq.rf, h0⟩

set_option maxHeartbeats 4000000 in
set_option maxRecDepth 100000 in
theorem c_found {D : zD} {z0 nx : Nat} {L : zL} {V : zV} {a : Nat} {sw : Bool} {w : Wo} (hs : sLI L a sw) (h : LI V a sw w) {t : Int32} {k : Int32} : Sp D z0 8 0 0 mX11_found [.ref a, .int t, .int k] L V nx (zq (some (.int (o_found t k w).1)) L nx (fun V' => zEq V V' a (a + 471) ∧ LI V' a sw (o_found t k w).2)) := by
  have hs0 := hs
  have h0 := h
  obtain ⟨l1, l2, l3, l4, l5, l6, l7, l8, l9, l10, l11, l12⟩ := hs
  obtain ⟨k1, k2, k3, k4, k5, k6, k7, k8⟩ := h
  have l20 := l2
  obtain ⟨s1, s2, s3, s4, s5, s6, s7⟩ := l2
  have k10 := k1
  obtain ⟨v1, v2, v3, v4⟩ := k1
  refine Sp.of 0 (by decide) rfl rfl (Nat.le_of_ble_eq_true rfl) ?_
  refine z_iload_n dX11_found_0 rfl ?_
  refine z_callS1i dX11_found_1 kX11_isViewer lX11_125 s_vwr (Nat.le_of_ble_eq_true rfl) (Nat.le_of_ble_eq_true rfl) ⟨Nat.le_of_ble_eq_true rfl, Nat.le_of_ble_eq_true rfl⟩ ?_
  refine z_if_neB (tgt := 10) dX11_found_4 (by decide) (fun c_4 => ?_) (fun c_4 => ?_)
  · refine z_iload_n dX11_found_10 rfl ?_
    refine z_if_ge (tgt := 17) dX11_found_11 (by decide) (fun c_11 => ?_) (fun c_11 => ?_)
    · have hge : ¬ k < 0 := Int32.not_lt.mpr c_11
      refine z_aload_n dX11_found_17 rfl ?_
      refine z_iload_n dX11_found_18 rfl ?_
      refine z_callV1i dX11_found_19 kX11_canView lX11_128 (by first | assumption | exact And.left (by assumption)) rfl (s_cvw hs0 h0) (Nat.le_of_ble_eq_true rfl) (Nat.le_of_ble_eq_true rfl) ⟨Nat.le_of_ble_eq_true rfl, Nat.le_of_ble_eq_true rfl⟩ ?_
      refine z_if_eqB (tgt := 32) dX11_found_22 (by decide) (fun c_22 => ?_) (fun c_22 => ?_)
      · refine z_bipush (v := (-5)) dX11_found_32 rfl ?_
        refine z_ireturn dX11_found_34 (Nat.le_of_ble_eq_true rfl) (Nat.le_of_ble_eq_true rfl) rfl ?_
        first
          | (rw [show o_found t k w = (-5, w) from by unfold o_found; rw [cif_y c_4, if_neg hge, cif_n c_22]]; exact ⟨rfl, rfl, rfl, zEq.rf, h0⟩)
          | (rw [show o_found t k w = (-5, w) from by unfold o_found; rw [cif_y c_4, if_neg hge, cif_y c_22, hN]]; exact ⟨rfl, rfl, rfl, zEq.rf, h0⟩)
      · refine z_aload_n dX11_found_25 rfl ?_
        refine z_getIe dX11_found_26 fX11_279 (by first | assumption | exact And.left (by assumption)) rfl k6.1 ?_
        refine z_if_neB (tgt := 35) dX11_found_29 (by decide) (fun c_29 => ?_) (fun c_29 => ?_)
        · obtain ⟨q, hq0⟩ := Option.ne_none_iff_exists'.mp c_29
          refine z_aload_n dX11_found_35 rfl ?_
          refine z_iload_n dX11_found_36 rfl ?_
          refine z_callV1w dX11_found_37 kX11_gatherFound lX11_283 (by first | assumption | exact And.left (by assumption)) rfl (s_gf hs0 h0 hq0 (cvw_v c_22)) (Nat.le_of_ble_eq_true rfl) (Nat.le_of_ble_eq_true rfl) ⟨Nat.le_of_ble_eq_true rfl, Nat.le_of_ble_eq_true rfl⟩ ?_
          intro V2 hV2
          obtain ⟨e2, t2⟩ := hV2
          have hR : o_found t k w = (cif (rng (gf q (sv w t) 48).length k) (nI ((gf q (sv w t) 48).getD (tn k) 0 % 64)) (-1), w) := by unfold o_found; rw [cif_y c_4, if_neg hge, cif_y c_22, hq0]
          have hF := LI_sc h0 e2 ⟨_, t2⟩
          obtain ⟨n2, n3, n4, n5⟩ := t2
          obtain ⟨hk1, hk2⟩ := nn_k hge
          generalize htk : tn k = kk at *
          subst hk1
          refine z_iload_n dX11_found_40 rfl ?_
          refine z_aload_n dX11_found_41 rfl ?_
          refine z_getR dX11_found_42 fX11_54 (by first | assumption | exact And.left (by assumption)) rfl ?_
          refine z_getIe dX11_found_45 fX11_200 l10.1 rfl n2 ?_
          refine z_icmp_geN (tgt := 66) dX11_found_48 (by decide) (by omega) (by omega) (fun c_48 => ?_) (fun c_48 => ?_)
          · refine z_iconst (v := (-1)) dX11_found_66 rfl ?_
            refine z_ireturn dX11_found_67 (Nat.le_of_ble_eq_true rfl) (Nat.le_of_ble_eq_true rfl) rfl ?_
            rw [hR]
            first
              | (rw [cif_n (show ¬ rng (gf q (sv w t) 48).length (nI kk) from fun z => by obtain ⟨z1, z2, z3⟩ := z; have z4 := nI_inj (by omega) (by omega) z3; omega)]; exact ⟨rfl, rfl, rfl, e2.wide (by omega) (by omega), hF⟩)
              | (rw [cif_y (show rng (gf q (sv w t) 48).length (nI kk) from ⟨kk, by omega, rfl⟩)]; exact ⟨rfl, rfl, rfl, e2.wide (by omega) (by omega), hF⟩)
          · refine z_aload_n dX11_found_51 rfl ?_
            refine z_getR dX11_found_52 fX11_54 (by first | assumption | exact And.left (by assumption)) rfl ?_
            refine z_getR dX11_found_55 fX11_226 l10.1 rfl ?_
            refine z_iload_n dX11_found_58 rfl ?_
            refine z_ialdN dX11_found_59 l10.2 (by omega) (by decide) (n3 kk (by omega)) ?_
            have hcc := n5 _ (mem_getD (l := gf q (sv w t) 48) (k := kk) (by omega))
            refine z_callS1i dX11_found_60 kX6_rowIn lX11_286 (s_rowIn (by omega)) (Nat.le_of_ble_eq_true rfl) (Nat.le_of_ble_eq_true rfl) ⟨Nat.le_of_ble_eq_true rfl, Nat.le_of_ble_eq_true rfl⟩ ?_
            refine z_goto (tgt := 67) dX11_found_63 (by decide) ?_
            refine z_ireturn dX11_found_67 (Nat.le_of_ble_eq_true rfl) (Nat.le_of_ble_eq_true rfl) rfl ?_
            rw [hR]
            first
              | (rw [cif_n (show ¬ rng (gf q (sv w t) 48).length (nI kk) from fun z => by obtain ⟨z1, z2, z3⟩ := z; have z4 := nI_inj (by omega) (by omega) z3; omega)]; exact ⟨rfl, rfl, rfl, e2.wide (by omega) (by omega), hF⟩)
              | (rw [cif_y (show rng (gf q (sv w t) 48).length (nI kk) from ⟨kk, by omega, rfl⟩)]; exact ⟨rfl, rfl, rfl, e2.wide (by omega) (by omega), hF⟩)
        · have hN : w.2.2.2.2.2 = none := Classical.byContradiction (fun z => c_29 z)
          refine z_bipush (v := (-5)) dX11_found_32 rfl ?_
          refine z_ireturn dX11_found_34 (Nat.le_of_ble_eq_true rfl) (Nat.le_of_ble_eq_true rfl) rfl ?_
          first
            | (rw [show o_found t k w = (-5, w) from by unfold o_found; rw [cif_y c_4, if_neg hge, cif_n c_22]]; exact ⟨rfl, rfl, rfl, zEq.rf, h0⟩)
            | (rw [show o_found t k w = (-5, w) from by unfold o_found; rw [cif_y c_4, if_neg hge, cif_y c_22, hN]]; exact ⟨rfl, rfl, rfl, zEq.rf, h0⟩)
    · refine z_bipush (v := (-3)) dX11_found_14 rfl ?_
      refine z_ireturn dX11_found_16 (Nat.le_of_ble_eq_true rfl) (Nat.le_of_ble_eq_true rfl) rfl ?_
      rw [show o_found t k w = (-3, w) from by unfold o_found; rw [cif_y c_4]; rw [if_pos (Int32.not_le.mp c_11)]]
      exact ⟨rfl, rfl, rfl, zEq.rf, h0⟩
  · refine z_bipush (v := (-2)) dX11_found_7 rfl ?_
    refine z_ireturn dX11_found_9 (Nat.le_of_ble_eq_true rfl) (Nat.le_of_ble_eq_true rfl) rfl ?_
    rw [show o_found t k w = (-2, w) from by unfold o_found; rw [cif_n c_4]]
    exact ⟨rfl, rfl, rfl, zEq.rf, h0⟩

theorem i2n_r {c : Nat} (h : rng 2 (i2n c)) : c < 2 := by
  unfold i2n at h
  by_cases e : c < 2
  · exact e
  · rw [if_neg e] at h
    exact absurd h (rng_n1 (by decide) (by decide))
theorem i2n_y {c : Nat} (h : c < 2) : i2n c = nI c := if_pos h
theorem i2n_k {c : Nat} (h : c < 2) : rng 2 (i2n c) := by rw [i2n_y h]; exact rng_k h

set_option maxHeartbeats 4000000 in
set_option maxRecDepth 100000 in
theorem s_cst {D : zD} {z0 nx : Nat} {L : zL} {V : zV} {a c : Nat} {sw : Bool} {w : Wo} (hs : sLI L a sw) (h : LI V a sw w) {q : Qu} (hq0 : w.2.2.2.2.2 = some q) (hcd : ∀ i, i < 2 → cdb (xof w i)) : Sp D z0 6 0 0 mX11_readsBy [.ref a, .int (i2n c)] L V nx (zi (nI (cst q w c)) L V nx) := by
  have hs0 := hs
  have h0 := h
  obtain ⟨l1, l2, l3, l4, l5, l6, l7, l8, l9, l10, l11, l12⟩ := hs
  obtain ⟨k1, k2, k3, k4, k5, k6, k7, k8⟩ := h
  have l20 := l2
  obtain ⟨s1, s2, s3, s4, s5, s6, s7⟩ := l2
  have k10 := k1
  obtain ⟨v1, v2, v3, v4⟩ := k1
  obtain ⟨q1, -, -, q4⟩ := k6
  have qu0 := q4 q hq0
  have l7b := (sLI.q hs0).1
  have hqa := qa_or a sw
  refine Sp.of 0 (by decide) rfl rfl (Nat.le_of_ble_eq_true rfl) ?_
  refine z_iload_n dX11_readsBy_0 rfl ?_
  refine z_callS1i dX11_readsBy_1 kX11_isIndex lX11_144 s_isIx (Nat.le_of_ble_eq_true rfl) (Nat.le_of_ble_eq_true rfl) ⟨Nat.le_of_ble_eq_true rfl, Nat.le_of_ble_eq_true rfl⟩ ?_
  refine z_if_eqB (tgt := 26) dX11_readsBy_4 (by decide) (fun c_4 => ?_) (fun c_4 => ?_)
  · have hc : ¬ c < 2 := fun z => c_4 (i2n_k z)
    refine z_aload_n dX11_readsBy_26 rfl ?_
    refine z_getR dX11_readsBy_27 fX11_10 (by first | assumption | exact And.left (by assumption)) rfl ?_
    refine z_getR dX11_readsBy_30 fX11_174 (by first | assumption | exact And.left (by assumption)) rfl ?_
    refine z_callV0i dX11_readsBy_33 kX10_rowsThere lX11_267 (by first | assumption | exact And.left (by assumption)) rfl (s_rowsThere s2 v2) (Nat.le_of_ble_eq_true rfl) (Nat.le_of_ble_eq_true rfl) ⟨Nat.le_of_ble_eq_true rfl, Nat.le_of_ble_eq_true rfl⟩ ?_
    refine z_ireturn dX11_readsBy_36 (Nat.le_of_ble_eq_true rfl) (Nat.le_of_ble_eq_true rfl) rfl ?_
    exact zi_r (by unfold cst; first | rw [if_pos hc] <;> rfl | rw [if_neg hc] <;> rfl)
  · have hc := i2n_r c_4
    rw [i2n_y hc]
    have q1 := i2_at (a + 1) c (by omega)
    have p1 := s7 c (by omega)
    have p2 := p1.1
    have x0 := v4 c (by omega)
    obtain ⟨⟨⟨x1, x2, x3, x4, x5⟩, x6, x7, x8, x9, x10⟩, xd, xe, xn, xl⟩ := v4 c (by omega)
    refine z_aload_n dX11_readsBy_7 rfl ?_
    refine z_getR dX11_readsBy_8 fX11_37 (by first | assumption | exact And.left (by assumption)) rfl ?_
    refine z_aload_n dX11_readsBy_11 rfl ?_
    refine z_getR dX11_readsBy_12 fX11_10 (by first | assumption | exact And.left (by assumption)) rfl ?_
    refine z_getR dX11_readsBy_15 fX11_147 (by first | assumption | exact And.left (by assumption)) rfl ?_
    refine z_iload_n dX11_readsBy_18 rfl ?_
    refine z_aaldN dX11_readsBy_19 (by first | assumption | exact And.left (by assumption)) (fun _ => rfl) (by exact Nat.le_of_ble_eq_true rfl) (by assumption) ?_
    refine z_callV1i dX11_readsBy_20 kX5_readsBy lX11_371 l7b.1 rfl (s_rby l7b qu0 p1 x0 (hcd c hc).1) (Nat.le_of_ble_eq_true rfl) (Nat.le_of_ble_eq_true rfl) ⟨Nat.le_of_ble_eq_true rfl, Nat.le_of_ble_eq_true rfl⟩ ?_
    refine z_goto (tgt := 36) dX11_readsBy_23 (by decide) ?_
    refine z_ireturn dX11_readsBy_36 (Nat.le_of_ble_eq_true rfl) (Nat.le_of_ble_eq_true rfl) rfl ?_
    exact zi_r (by unfold cst; first | rw [if_pos hc] <;> rfl | rw [if_neg hc] <;> rfl)

theorem s_cstN {D : zD} {z0 nx : Nat} {L : zL} {V : zV} {a c : Nat} {sw : Bool} {w : Wo} (hs : sLI L a sw) (h : LI V a sw w) {q : Qu} (hq0 : w.2.2.2.2.2 = some q) (hcd : ∀ i, i < 2 → cdb (xof w i)) (hc : c < 2) : Sp D z0 6 0 0 mX11_readsBy [.ref a, .int (nI c)] L V nx (zi (nI (cst q w c)) L V nx) := by
  have hz := s_cst (D := D) (z0 := z0) (nx := nx) hs h hq0 hcd (c := c)
  rw [i2n_y hc] at hz
  exact hz

theorem cst_lt {V : zV} {a : Nat} {sw : Bool} {w : Wo} (h : LI V a sw w) (q : Qu) (c : Nat) : cst q w c < 100 := by
  unfold cst
  split
  · rename_i hc
    obtain ⟨-, xd, xe, -, -⟩ := h.1.2.2.2 c hc
    have h48 := xe.2.2.1
    have := cn_le (p := fun k => isR q.1 (xof w c).2.1.1 (stc q.1 (xof w c).2.1.1 + 1) ((xof w c).2.2.1.getD k 0 / 64)) (n := (xof w c).2.2.1.length)
    unfold rby
    have e : (xof w c).2.2.1.length ≤ 48 := h48
    omega
  · have := cn_le (p := fun r => (lst w.1.2.1 r).2 ≠ none) (n := 48)
    unfold rth
    omega

set_option maxHeartbeats 4000000 in
set_option maxRecDepth 100000 in
theorem lp_chs {D : zD} {z0 nx : Nat} {L : zL} {V : zV} {a : Nat} {sw : Bool} {w : Wo} (hs : sLI L a sw) (h : LI V a sw w) {q : Qu} (hq0 : w.2.2.2.2.2 = some q) (hcd : ∀ i, i < 2 → cdb (xof w i)) : ∀ (fu : Nat) (i : Nat), 2 - i = fu → i ≤ 2 → Z D z0 7 0 0 mX11_cheapestIndex 0 0 10 [some (.ref a), some (.int (i2n (chs q w i))), some (.int (nI (cst q w (chs q w i)))), some (.int (nI i))] [] L V nx (zi (i2n (chs q w 2)) L V nx) := by
  intro fu
  induction fu using Nat.strongRecOn with
  | ind fu ih =>
    intro i h_fu h_0
    have hs0 := hs
    have h0 := h
    obtain ⟨l1, l2, l3, l4, l5, l6, l7, l8, l9, l10, l11, l12⟩ := hs
    obtain ⟨k1, k2, k3, k4, k5, k6, k7, k8⟩ := h
    have l20 := l2
    obtain ⟨s1, s2, s3, s4, s5, s6, s7⟩ := l2
    have k10 := k1
    obtain ⟨v1, v2, v3, v4⟩ := k1
    obtain ⟨q1, -, -, q4⟩ := k6
    have qu0 := q4 q hq0
    have l7b := (sLI.q hs0).1
    have hqa := qa_or a sw
    have b1 := cst_lt h0 q i
    have b2 := cst_lt h0 q (chs q w i)
    refine z_iload_n dX11_cheapestIndex_10 rfl ?_
    refine z_iconst (v := nI 2) dX11_cheapestIndex_11 rfl ?_
    refine z_icmp_geN (tgt := 57) dX11_cheapestIndex_12 (by decide) (by omega) (by omega) (fun c_12 => ?_) (fun c_12 => ?_)
    · refine z_iload_n dX11_cheapestIndex_57 rfl ?_
      refine z_ireturn dX11_cheapestIndex_58 (Nat.le_of_ble_eq_true rfl) (Nat.le_of_ble_eq_true rfl) rfl ?_
      have e2 : i = 2 := by omega
      subst e2
      exact zi_r rfl
    · have q1 := i2_at (a + 1) i (by omega)
      have p1 := s7 i (by omega)
      have p2 := p1.1
      have x0 := v4 i (by omega)
      obtain ⟨⟨⟨x1, x2, x3, x4, x5⟩, x6, x7, x8, x9, x10⟩, xd, xe, xn, xl⟩ := v4 i (by omega)
      refine z_aload_n dX11_cheapestIndex_15 rfl ?_
      refine z_getR dX11_cheapestIndex_16 fX11_37 (by first | assumption | exact And.left (by assumption)) rfl ?_
      refine z_aload_n dX11_cheapestIndex_19 rfl ?_
      refine z_getR dX11_cheapestIndex_20 fX11_10 (by first | assumption | exact And.left (by assumption)) rfl ?_
      refine z_getR dX11_cheapestIndex_23 fX11_147 (by first | assumption | exact And.left (by assumption)) rfl ?_
      refine z_iload_n dX11_cheapestIndex_26 rfl ?_
      refine z_aaldN dX11_cheapestIndex_27 (by first | assumption | exact And.left (by assumption)) (fun _ => rfl) (by exact Nat.le_of_ble_eq_true rfl) (by assumption) ?_
      refine z_callV1i dX11_cheapestIndex_28 kX5_isServedBy lX11_374 l7b.1 rfl (s_srv l7b qu0 p1 x0) (Nat.le_of_ble_eq_true rfl) (Nat.le_of_ble_eq_true rfl) ⟨Nat.le_of_ble_eq_true rfl, Nat.le_of_ble_eq_true rfl⟩ ?_
      refine z_if_eqB (tgt := 51) dX11_cheapestIndex_31 (by decide) (fun c_31 => ?_) (fun c_31 => ?_)
      · have eN : chs q w (i + 1) = chs q w i := cif_n (fun z => c_31 z.1)
        refine z_incN dX11_cheapestIndex_51 rfl rfl ?_
        refine z_goto (tgt := 10) dX11_cheapestIndex_54 (by decide) ?_
        have hz := ih _ (by omega) (i + 1) rfl (by omega)
        rw [eN] at hz
        first | exact hz | (rw [i2n_y (c := i) (by omega)] at hz; exact hz)
      · refine z_aload_n dX11_cheapestIndex_34 rfl ?_
        refine z_iload_n dX11_cheapestIndex_35 rfl ?_
        refine z_callV1i dX11_cheapestIndex_36 kX11_readsBy lX11_292 (by first | assumption | exact And.left (by assumption)) rfl (s_cstN (c := i) hs0 h0 hq0 hcd (by omega)) (Nat.le_of_ble_eq_true rfl) (Nat.le_of_ble_eq_true rfl) ⟨Nat.le_of_ble_eq_true rfl, Nat.le_of_ble_eq_true rfl⟩ ?_
        refine z_iload_n dX11_cheapestIndex_39 rfl ?_
        refine z_icmp_geN (tgt := 51) dX11_cheapestIndex_40 (by decide) (by omega) (by omega) (fun c_40 => ?_) (fun c_40 => ?_)
        · have eN : chs q w (i + 1) = chs q w i := cif_n (fun z => by omega)
          refine z_incN dX11_cheapestIndex_51 rfl rfl ?_
          refine z_goto (tgt := 10) dX11_cheapestIndex_54 (by decide) ?_
          have hz := ih _ (by omega) (i + 1) rfl (by omega)
          rw [eN] at hz
          first | exact hz | (rw [i2n_y (c := i) (by omega)] at hz; exact hz)
        · have eN : chs q w (i + 1) = i := cif_y ⟨c_31, by omega⟩
          refine z_iload_n dX11_cheapestIndex_43 rfl ?_
          refine z_istore_n dX11_cheapestIndex_44 (Nat.le_of_ble_eq_true rfl) rfl ?_
          refine z_aload_n dX11_cheapestIndex_45 rfl ?_
          refine z_iload_n dX11_cheapestIndex_46 rfl ?_
          refine z_callV1i dX11_cheapestIndex_47 kX11_readsBy lX11_292 (by first | assumption | exact And.left (by assumption)) rfl (s_cstN (c := i) hs0 h0 hq0 hcd (by omega)) (Nat.le_of_ble_eq_true rfl) (Nat.le_of_ble_eq_true rfl) ⟨Nat.le_of_ble_eq_true rfl, Nat.le_of_ble_eq_true rfl⟩ ?_
          refine z_istore_n dX11_cheapestIndex_50 (Nat.le_of_ble_eq_true rfl) rfl ?_
          refine z_incN dX11_cheapestIndex_51 rfl rfl ?_
          refine z_goto (tgt := 10) dX11_cheapestIndex_54 (by decide) ?_
          have hz := ih _ (by omega) (i + 1) rfl (by omega)
          rw [eN] at hz
          first | exact hz | (rw [i2n_y (c := i) (by omega)] at hz; exact hz)

set_option maxHeartbeats 4000000 in
set_option maxRecDepth 100000 in
theorem s_chs {D : zD} {z0 nx : Nat} {L : zL} {V : zV} {a : Nat} {sw : Bool} {w : Wo} (hs : sLI L a sw) (h : LI V a sw w) {q : Qu} (hq0 : w.2.2.2.2.2 = some q) (hcd : ∀ i, i < 2 → cdb (xof w i)) : Sp D z0 7 0 0 mX11_cheapestIndex [.ref a] L V nx (zi (i2n (chs q w 2)) L V nx) := by
  have hs0 := hs
  have h0 := h
  obtain ⟨l1, l2, l3, l4, l5, l6, l7, l8, l9, l10, l11, l12⟩ := hs
  obtain ⟨k1, k2, k3, k4, k5, k6, k7, k8⟩ := h
  have l20 := l2
  obtain ⟨s1, s2, s3, s4, s5, s6, s7⟩ := l2
  have k10 := k1
  obtain ⟨v1, v2, v3, v4⟩ := k1
  obtain ⟨q1, -, -, q4⟩ := k6
  have qu0 := q4 q hq0
  have l7b := (sLI.q hs0).1
  have hqa := qa_or a sw
  refine Sp.of 3 (by decide) rfl rfl (Nat.le_of_ble_eq_true rfl) ?_
  refine z_iconst (v := (-1)) dX11_cheapestIndex_0 rfl ?_
  refine z_istore_n dX11_cheapestIndex_1 (Nat.le_of_ble_eq_true rfl) rfl ?_
  refine z_aload_n dX11_cheapestIndex_2 rfl ?_
  refine z_iconst (v := (-1)) dX11_cheapestIndex_3 rfl ?_
  rw [show (-1 : Int32) = i2n 2 from rfl]
  refine z_callV1i dX11_cheapestIndex_4 kX11_readsBy lX11_292 (by first | assumption | exact And.left (by assumption)) rfl (s_cst hs0 h0 hq0 hcd) (Nat.le_of_ble_eq_true rfl) (Nat.le_of_ble_eq_true rfl) ⟨Nat.le_of_ble_eq_true rfl, Nat.le_of_ble_eq_true rfl⟩ ?_
  refine z_istore_n dX11_cheapestIndex_7 (Nat.le_of_ble_eq_true rfl) rfl ?_
  refine z_iconst (v := nI 0) dX11_cheapestIndex_8 rfl ?_
  refine z_istore_n dX11_cheapestIndex_9 (Nat.le_of_ble_eq_true rfl) rfl ?_
  exact lp_chs hs0 h0 hq0 hcd _ 0 rfl (by omega)

set_option maxHeartbeats 4000000 in
set_option maxRecDepth 100000 in
theorem s_srt {D : zD} {z0 nx : Nat} {L : zL} {V : zV} {a c : Nat} {sw : Bool} {w : Wo} (hs : sLI L a sw) (h : LI V a sw w) {q : Qu} (hq0 : w.2.2.2.2.2 = some q) : Sp D z0 2 0 0 mX11_isSortedBy [.ref a, .int (i2n c)] L V nx (zi (zb (srt q w c)) L V nx) := by
  have hs0 := hs
  have h0 := h
  obtain ⟨l1, l2, l3, l4, l5, l6, l7, l8, l9, l10, l11, l12⟩ := hs
  obtain ⟨k1, k2, k3, k4, k5, k6, k7, k8⟩ := h
  have l20 := l2
  obtain ⟨s1, s2, s3, s4, s5, s6, s7⟩ := l2
  have k10 := k1
  obtain ⟨v1, v2, v3, v4⟩ := k1
  obtain ⟨q1, -, -, q4⟩ := k6
  have qu0 := q4 q hq0
  have l7b := (sLI.q hs0).1
  have hqa := qa_or a sw
  obtain ⟨quo1, quo2, quo3, quo4⟩ := qu0
  have l7o := l7b.2.2.1
  have hn0 := quo4.1
  have hn3 := quo4.2.1
  refine Sp.of 0 (by decide) rfl rfl (Nat.le_of_ble_eq_true rfl) ?_
  refine z_aload_n dX11_isSortedBy_0 rfl ?_
  refine z_getR dX11_isSortedBy_1 fX11_37 (by first | assumption | exact And.left (by assumption)) rfl ?_
  refine z_getR dX11_isSortedBy_4 fX11_362 l7b.1 rfl ?_
  refine z_getIe dX11_isSortedBy_7 fX11_378 l7o.1 rfl hn0 ?_
  refine z_if_neN (tgt := 15) dX11_isSortedBy_10 (by decide) (by omega) (fun c_10 => ?_) (fun c_10 => ?_)
  · refine z_iload_n dX11_isSortedBy_15 rfl ?_
    refine z_callS1i dX11_isSortedBy_16 kX11_isIndex lX11_144 s_isIx (Nat.le_of_ble_eq_true rfl) (Nat.le_of_ble_eq_true rfl) ⟨Nat.le_of_ble_eq_true rfl, Nat.le_of_ble_eq_true rfl⟩ ?_
    refine z_if_eqB (tgt := 54) dX11_isSortedBy_19 (by decide) (fun c_19 => ?_) (fun c_19 => ?_)
    · have hF : ¬ srt q w c := fun z => z.elim c_10 (fun z2 => c_19 (i2n_k z2.1))
      refine z_iconst (v := nI 0) dX11_isSortedBy_54 rfl ?_
      refine z_zreturn dX11_isSortedBy_55 (Nat.le_of_ble_eq_true rfl) (Nat.le_of_ble_eq_true rfl) rfl (by first | exact Or.inl rfl | exact Or.inr rfl | exact zb_01 _ | assumption) ?_
      exact zi_r (by first | exact (zb_t hY).symm | exact (zb_f hF).symm)
    · have hc := i2n_r c_19
      rw [i2n_y hc]
      have q1 := i2_at (a + 1) c (by omega)
      have p1 := s7 c (by omega)
      have p2 := p1.1
      have x0 := v4 c (by omega)
      obtain ⟨⟨⟨x1, x2, x3, x4, x5⟩, x6, x7, x8, x9, x10⟩, xd, xe, xn, xl⟩ := v4 c (by omega)
      obtain ⟨xd1, xd2⟩ := id xd
      refine z_aload_n dX11_isSortedBy_22 rfl ?_
      refine z_getR dX11_isSortedBy_23 fX11_10 (by first | assumption | exact And.left (by assumption)) rfl ?_
      refine z_getR dX11_isSortedBy_26 fX11_147 (by first | assumption | exact And.left (by assumption)) rfl ?_
      refine z_iload_n dX11_isSortedBy_29 rfl ?_
      refine z_aaldN dX11_isSortedBy_30 (by first | assumption | exact And.left (by assumption)) (fun _ => rfl) (by exact Nat.le_of_ble_eq_true rfl) (by assumption) ?_
      refine z_getR dX11_isSortedBy_31 fX11_219 (by first | assumption | exact And.left (by assumption)) rfl ?_
      refine z_getR dX11_isSortedBy_34 fX11_246 p1.2.1.1 rfl ?_
      refine z_aload_n dX11_isSortedBy_37 rfl ?_
      refine z_getR dX11_isSortedBy_38 fX11_37 (by first | assumption | exact And.left (by assumption)) rfl ?_
      refine z_getR dX11_isSortedBy_41 fX11_362 l7b.1 rfl ?_
      refine z_callV1i dX11_isSortedBy_44 kX4_beginsWith lX11_379 p1.2.1.2.1.1 rfl (s_begins p1.2.1.2.1 l7o xd1 quo4) (Nat.le_of_ble_eq_true rfl) (Nat.le_of_ble_eq_true rfl) ⟨Nat.le_of_ble_eq_true rfl, Nat.le_of_ble_eq_true rfl⟩ ?_
      refine z_if_eqB (tgt := 54) dX11_isSortedBy_47 (by decide) (fun c_47 => ?_) (fun c_47 => ?_)
      · have hF : ¬ srt q w c := fun z => z.elim c_10 (fun z2 => c_47 z2.2)
        refine z_iconst (v := nI 0) dX11_isSortedBy_54 rfl ?_
        refine z_zreturn dX11_isSortedBy_55 (Nat.le_of_ble_eq_true rfl) (Nat.le_of_ble_eq_true rfl) rfl (by first | exact Or.inl rfl | exact Or.inr rfl | exact zb_01 _ | assumption) ?_
        exact zi_r (by first | exact (zb_t hY).symm | exact (zb_f hF).symm)
      · have hY : srt q w c := Or.inr ⟨hc, c_47⟩
        refine z_iconst (v := nI 1) dX11_isSortedBy_50 rfl ?_
        refine z_goto (tgt := 55) dX11_isSortedBy_51 (by decide) ?_
        refine z_zreturn dX11_isSortedBy_55 (Nat.le_of_ble_eq_true rfl) (Nat.le_of_ble_eq_true rfl) rfl (by first | exact Or.inl rfl | exact Or.inr rfl | exact zb_01 _ | assumption) ?_
        exact zi_r (by first | exact (zb_t hY).symm | exact (zb_f hF).symm)
  · have hY : srt q w c := Or.inl c_10
    refine z_iconst (v := nI 1) dX11_isSortedBy_13 rfl ?_
    refine z_zreturn dX11_isSortedBy_14 (Nat.le_of_ble_eq_true rfl) (Nat.le_of_ble_eq_true rfl) rfl (by first | exact Or.inl rfl | exact Or.inr rfl | exact zb_01 _ | assumption) ?_
    exact zi_r (by first | exact (zb_t hY).symm | exact (zb_f hF).symm)

set_option maxHeartbeats 4000000 in
set_option maxRecDepth 100000 in
theorem lp_svr {D : zD} {z0 nx : Nat} {L : zL} {V : zV} {a : Nat} {sw : Bool} {w : Wo} (hs : sLI L a sw) (h : LI V a sw w) {q : Qu} (hq0 : w.2.2.2.2.2 = some q) : ∀ (fu : Nat) (i : Nat) (x : Int32), 2 - i = fu → i ≤ 2 → Z D z0 5 0 0 mX11_servingIndexes 0 0 4 [some (.ref a), some (.int x), some (.int (nI i))] [] L V nx (zi (svr q w (2 - i) i x) L V nx) := by
  intro fu
  induction fu using Nat.strongRecOn with
  | ind fu ih =>
    intro i x h_fu h_0
    have hs0 := hs
    have h0 := h
    obtain ⟨l1, l2, l3, l4, l5, l6, l7, l8, l9, l10, l11, l12⟩ := hs
    obtain ⟨k1, k2, k3, k4, k5, k6, k7, k8⟩ := h
    have l20 := l2
    obtain ⟨s1, s2, s3, s4, s5, s6, s7⟩ := l2
    have k10 := k1
    obtain ⟨v1, v2, v3, v4⟩ := k1
    obtain ⟨q1, -, -, q4⟩ := k6
    have qu0 := q4 q hq0
    have l7b := (sLI.q hs0).1
    have hqa := qa_or a sw
    refine z_iload_n dX11_servingIndexes_4 rfl ?_
    refine z_iconst (v := nI 2) dX11_servingIndexes_5 rfl ?_
    refine z_icmp_geN (tgt := 40) dX11_servingIndexes_6 (by decide) (by omega) (by omega) (fun c_6 => ?_) (fun c_6 => ?_)
    · refine z_iload_n dX11_servingIndexes_40 rfl ?_
      refine z_ireturn dX11_servingIndexes_41 (Nat.le_of_ble_eq_true rfl) (Nat.le_of_ble_eq_true rfl) rfl ?_
      exact zi_r (by rw [show 2 - i = 0 by omega] <;> rfl)
    · have q1 := i2_at (a + 1) i (by omega)
      have p1 := s7 i (by omega)
      have p2 := p1.1
      have x0 := v4 i (by omega)
      obtain ⟨⟨⟨x1, x2, x3, x4, x5⟩, x6, x7, x8, x9, x10⟩, xd, xe, xn, xl⟩ := v4 i (by omega)
      have eC : svr q w (2 - i) i x = svr q w (2 - (i + 1)) (i + 1) (cif (srv q.1 (xof w i)) (x ||| (nI 1 <<< (nI i &&& 31))) x) := by
        rw [show 2 - i = (2 - (i + 1)) + 1 by omega]
        rfl
      refine z_aload_n dX11_servingIndexes_9 rfl ?_
      refine z_getR dX11_servingIndexes_10 fX11_37 (by first | assumption | exact And.left (by assumption)) rfl ?_
      refine z_aload_n dX11_servingIndexes_13 rfl ?_
      refine z_getR dX11_servingIndexes_14 fX11_10 (by first | assumption | exact And.left (by assumption)) rfl ?_
      refine z_getR dX11_servingIndexes_17 fX11_147 (by first | assumption | exact And.left (by assumption)) rfl ?_
      refine z_iload_n dX11_servingIndexes_20 rfl ?_
      refine z_aaldN dX11_servingIndexes_21 (by first | assumption | exact And.left (by assumption)) (fun _ => rfl) (by exact Nat.le_of_ble_eq_true rfl) (by assumption) ?_
      refine z_callV1i dX11_servingIndexes_22 kX5_isServedBy lX11_374 l7b.1 rfl (s_srv l7b qu0 p1 x0) (Nat.le_of_ble_eq_true rfl) (Nat.le_of_ble_eq_true rfl) ⟨Nat.le_of_ble_eq_true rfl, Nat.le_of_ble_eq_true rfl⟩ ?_
      refine z_if_eqB (tgt := 34) dX11_servingIndexes_25 (by decide) (fun c_25 => ?_) (fun c_25 => ?_)
      · rw [cif_n (show ¬ srv q.1 (xof w i) from c_25)] at eC
        refine z_incN dX11_servingIndexes_34 rfl rfl ?_
        refine z_goto (tgt := 4) dX11_servingIndexes_37 (by decide) ?_
        rw [eC]
        exact ih _ (by omega) (i + 1) _ rfl (by omega)
      · rw [cif_y (show srv q.1 (xof w i) from c_25)] at eC
        refine z_iload_n dX11_servingIndexes_28 rfl ?_
        refine z_iconst (v := nI 1) dX11_servingIndexes_29 rfl ?_
        refine z_iload_n dX11_servingIndexes_30 rfl ?_
        refine z_ishl dX11_servingIndexes_31 ?_
        refine z_ior dX11_servingIndexes_32 ?_
        refine z_istore_n dX11_servingIndexes_33 (Nat.le_of_ble_eq_true rfl) rfl ?_
        refine z_incN dX11_servingIndexes_34 rfl rfl ?_
        refine z_goto (tgt := 4) dX11_servingIndexes_37 (by decide) ?_
        rw [eC]
        exact ih _ (by omega) (i + 1) _ rfl (by omega)

set_option maxHeartbeats 4000000 in
set_option maxRecDepth 100000 in
theorem s_svr {D : zD} {z0 nx : Nat} {L : zL} {V : zV} {a : Nat} {sw : Bool} {w : Wo} (hs : sLI L a sw) (h : LI V a sw w) {q : Qu} (hq0 : w.2.2.2.2.2 = some q) : Sp D z0 5 0 0 mX11_servingIndexes [.ref a] L V nx (zi (svr q w 2 0 0) L V nx) := by
  refine Sp.of 2 (by decide) rfl rfl (Nat.le_of_ble_eq_true rfl) ?_
  refine z_iconst (v := nI 0) dX11_servingIndexes_0 rfl ?_
  refine z_istore_n dX11_servingIndexes_1 (Nat.le_of_ble_eq_true rfl) rfl ?_
  refine z_iconst (v := nI 0) dX11_servingIndexes_2 rfl ?_
  refine z_istore_n dX11_servingIndexes_3 (Nat.le_of_ble_eq_true rfl) rfl ?_
  exact lp_svr hs h hq0 _ 0 (nI 0) rfl (by omega)

set_option maxHeartbeats 4000000 in
set_option maxRecDepth 100000 in
theorem c_plan0 {D : zD} {z0 nx : Nat} {L : zL} {V : zV} {a : Nat} {sw : Bool} {w : Wo} (hs : sLI L a sw) (h : LI V a sw w) (hcd : ∀ i, i < 2 → cdb (xof w i)) {q : Qu} (hq0 : w.2.2.2.2.2 = some q) (hR : o_plan (nI 0) w = (pln q w 0, w)) : Z D z0 8 0 0 mX11_plan 0 0 28 [some (.ref a), some (.int (nI 0)), some (.int (i2n (chs q w 2)))] [.int (nI 0)] L V nx (zq (some (.int (o_plan (nI 0) w).1)) L nx (fun V' => zEq V V' a (a + 471) ∧ LI V' a sw (o_plan (nI 0) w).2)) := by
  have hs0 := hs
  have h0 := h
  obtain ⟨l1, l2, l3, l4, l5, l6, l7, l8, l9, l10, l11, l12⟩ := hs
  obtain ⟨k1, k2, k3, k4, k5, k6, k7, k8⟩ := h
  have l20 := l2
  obtain ⟨s1, s2, s3, s4, s5, s6, s7⟩ := l2
  have k10 := k1
  obtain ⟨v1, v2, v3, v4⟩ := k1
  obtain ⟨q1, -, -, q4⟩ := k6
  have qu0 := q4 q hq0
  have l7b := (sLI.q hs0).1
  have hqa := qa_or a sw
  refine z_tableIn (tgt := 60) dX11_plan_28 (by decide) (by decide) rfl (by decide) ?_
  refine z_iload_n dX11_plan_60 rfl ?_
  refine z_ireturn dX11_plan_61 (Nat.le_of_ble_eq_true rfl) (Nat.le_of_ble_eq_true rfl) rfl ?_
  rw [hR]
  exact ⟨rfl, rfl, rfl, zEq.rf, h0⟩

set_option maxHeartbeats 4000000 in
set_option maxRecDepth 100000 in
theorem c_plan1 {D : zD} {z0 nx : Nat} {L : zL} {V : zV} {a : Nat} {sw : Bool} {w : Wo} (hs : sLI L a sw) (h : LI V a sw w) (hcd : ∀ i, i < 2 → cdb (xof w i)) {q : Qu} (hq0 : w.2.2.2.2.2 = some q) (hR : o_plan (nI 1) w = (pln q w 1, w)) : Z D z0 8 0 0 mX11_plan 0 0 28 [some (.ref a), some (.int (nI 1)), some (.int (i2n (chs q w 2)))] [.int (nI 1)] L V nx (zq (some (.int (o_plan (nI 1) w).1)) L nx (fun V' => zEq V V' a (a + 471) ∧ LI V' a sw (o_plan (nI 1) w).2)) := by
  have hs0 := hs
  have h0 := h
  obtain ⟨l1, l2, l3, l4, l5, l6, l7, l8, l9, l10, l11, l12⟩ := hs
  obtain ⟨k1, k2, k3, k4, k5, k6, k7, k8⟩ := h
  have l20 := l2
  obtain ⟨s1, s2, s3, s4, s5, s6, s7⟩ := l2
  have k10 := k1
  obtain ⟨v1, v2, v3, v4⟩ := k1
  obtain ⟨q1, -, -, q4⟩ := k6
  have qu0 := q4 q hq0
  have l7b := (sLI.q hs0).1
  have hqa := qa_or a sw
  refine z_tableIn (tgt := 62) dX11_plan_28 (by decide) (by decide) rfl (by decide) ?_
  refine z_aload_n dX11_plan_62 rfl ?_
  refine z_iload_n dX11_plan_63 rfl ?_
  refine z_callV1i dX11_plan_64 kX11_readsBy lX11_292 (by first | assumption | exact And.left (by assumption)) rfl (s_cst hs0 h0 hq0 hcd) (Nat.le_of_ble_eq_true rfl) (Nat.le_of_ble_eq_true rfl) ⟨Nat.le_of_ble_eq_true rfl, Nat.le_of_ble_eq_true rfl⟩ ?_
  refine z_ireturn dX11_plan_67 (Nat.le_of_ble_eq_true rfl) (Nat.le_of_ble_eq_true rfl) rfl ?_
  rw [hR]
  exact ⟨rfl, rfl, rfl, zEq.rf, h0⟩

set_option maxHeartbeats 4000000 in
set_option maxRecDepth 100000 in
theorem c_plan2 {D : zD} {z0 nx : Nat} {L : zL} {V : zV} {a : Nat} {sw : Bool} {w : Wo} (hs : sLI L a sw) (h : LI V a sw w) (hcd : ∀ i, i < 2 → cdb (xof w i)) {q : Qu} (hq0 : w.2.2.2.2.2 = some q) (hR : o_plan (nI 2) w = (pln q w 2, w)) : Z D z0 8 0 0 mX11_plan 0 0 28 [some (.ref a), some (.int (nI 2)), some (.int (i2n (chs q w 2)))] [.int (nI 2)] L V nx (zq (some (.int (o_plan (nI 2) w).1)) L nx (fun V' => zEq V V' a (a + 471) ∧ LI V' a sw (o_plan (nI 2) w).2)) := by
  have hs0 := hs
  have h0 := h
  obtain ⟨l1, l2, l3, l4, l5, l6, l7, l8, l9, l10, l11, l12⟩ := hs
  obtain ⟨k1, k2, k3, k4, k5, k6, k7, k8⟩ := h
  have l20 := l2
  obtain ⟨s1, s2, s3, s4, s5, s6, s7⟩ := l2
  have k10 := k1
  obtain ⟨v1, v2, v3, v4⟩ := k1
  obtain ⟨q1, -, -, q4⟩ := k6
  have qu0 := q4 q hq0
  have l7b := (sLI.q hs0).1
  have hqa := qa_or a sw
  refine z_tableIn (tgt := 68) dX11_plan_28 (by decide) (by decide) rfl (by decide) ?_
  refine z_aload_n dX11_plan_68 rfl ?_
  refine z_iload_n dX11_plan_69 rfl ?_
  refine z_callV1i dX11_plan_70 kX11_isSortedBy lX11_295 (by first | assumption | exact And.left (by assumption)) rfl (s_srt hs0 h0 hq0) (Nat.le_of_ble_eq_true rfl) (Nat.le_of_ble_eq_true rfl) ⟨Nat.le_of_ble_eq_true rfl, Nat.le_of_ble_eq_true rfl⟩ ?_
  refine z_if_eqB (tgt := 80) dX11_plan_73 (by decide) (fun c_73 => ?_) (fun c_73 => ?_)
  · refine z_iconst (v := nI 0) dX11_plan_80 rfl ?_
    refine z_ireturn dX11_plan_81 (Nat.le_of_ble_eq_true rfl) (Nat.le_of_ble_eq_true rfl) rfl ?_
    rw [hR]
    refine ⟨?_, rfl, rfl, zEq.rf, h0⟩
    first
      | rw [show pln q w 2 = nI 1 from zb_t c_73]
      | rw [show pln q w 2 = nI 0 from zb_f c_73]
  · refine z_iconst (v := nI 1) dX11_plan_76 rfl ?_
    refine z_goto (tgt := 81) dX11_plan_77 (by decide) ?_
    refine z_ireturn dX11_plan_81 (Nat.le_of_ble_eq_true rfl) (Nat.le_of_ble_eq_true rfl) rfl ?_
    rw [hR]
    refine ⟨?_, rfl, rfl, zEq.rf, h0⟩
    first
      | rw [show pln q w 2 = nI 1 from zb_t c_73]
      | rw [show pln q w 2 = nI 0 from zb_f c_73]

set_option maxHeartbeats 4000000 in
set_option maxRecDepth 100000 in
theorem c_plan3 {D : zD} {z0 nx : Nat} {L : zL} {V : zV} {a : Nat} {sw : Bool} {w : Wo} (hs : sLI L a sw) (h : LI V a sw w) (hcd : ∀ i, i < 2 → cdb (xof w i)) {q : Qu} (hq0 : w.2.2.2.2.2 = some q) (hR : o_plan (nI 3) w = (pln q w 3, w)) : Z D z0 8 0 0 mX11_plan 0 0 28 [some (.ref a), some (.int (nI 3)), some (.int (i2n (chs q w 2)))] [.int (nI 3)] L V nx (zq (some (.int (o_plan (nI 3) w).1)) L nx (fun V' => zEq V V' a (a + 471) ∧ LI V' a sw (o_plan (nI 3) w).2)) := by
  have hs0 := hs
  have h0 := h
  obtain ⟨l1, l2, l3, l4, l5, l6, l7, l8, l9, l10, l11, l12⟩ := hs
  obtain ⟨k1, k2, k3, k4, k5, k6, k7, k8⟩ := h
  have l20 := l2
  obtain ⟨s1, s2, s3, s4, s5, s6, s7⟩ := l2
  have k10 := k1
  obtain ⟨v1, v2, v3, v4⟩ := k1
  obtain ⟨q1, -, -, q4⟩ := k6
  have qu0 := q4 q hq0
  have l7b := (sLI.q hs0).1
  have hqa := qa_or a sw
  refine z_tableIn (tgt := 82) dX11_plan_28 (by decide) (by decide) rfl (by decide) ?_
  refine z_iload_n dX11_plan_82 rfl ?_
  refine z_iconst (v := (-1)) dX11_plan_83 rfl ?_
  refine z_icmp_ne (tgt := 91) dX11_plan_84 (by decide) (fun c_84 => ?_) (fun c_84 => ?_)
  · have hc : chs q w 2 < 2 := Classical.byContradiction (fun z => c_84 (if_neg z))
    rw [i2n_y hc]
    have q1 := i2_at (a + 1) (chs q w 2) (by omega)
    have p1 := s7 (chs q w 2) (by omega)
    have p2 := p1.1
    have x0 := v4 (chs q w 2) (by omega)
    obtain ⟨⟨⟨x1, x2, x3, x4, x5⟩, x6, x7, x8, x9, x10⟩, xd, xe, xn, xl⟩ := v4 (chs q w 2) (by omega)
    obtain ⟨xd1, xd2⟩ := id xd
    refine z_aload_n dX11_plan_91 rfl ?_
    refine z_getR dX11_plan_92 fX11_37 (by first | assumption | exact And.left (by assumption)) rfl ?_
    refine z_aload_n dX11_plan_95 rfl ?_
    refine z_getR dX11_plan_96 fX11_10 (by first | assumption | exact And.left (by assumption)) rfl ?_
    refine z_getR dX11_plan_99 fX11_147 (by first | assumption | exact And.left (by assumption)) rfl ?_
    refine z_iload_n dX11_plan_102 rfl ?_
    refine z_aaldN dX11_plan_103 (by first | assumption | exact And.left (by assumption)) (fun _ => rfl) (by exact Nat.le_of_ble_eq_true rfl) (by assumption) ?_
    refine z_getR dX11_plan_104 fX11_219 (by first | assumption | exact And.left (by assumption)) rfl ?_
    refine z_getR dX11_plan_107 fX11_246 p1.2.1.1 rfl ?_
    refine z_callV1i dX11_plan_110 kX5_stretchSize lX11_298 l7b.1 rfl (s_stz l7b qu0 p1.2.1.2.1 xd1) (Nat.le_of_ble_eq_true rfl) (Nat.le_of_ble_eq_true rfl) ⟨Nat.le_of_ble_eq_true rfl, Nat.le_of_ble_eq_true rfl⟩ ?_
    refine z_ireturn dX11_plan_113 (Nat.le_of_ble_eq_true rfl) (Nat.le_of_ble_eq_true rfl) rfl ?_
    rw [hR]
    refine ⟨?_, rfl, rfl, zEq.rf, h0⟩
    first
      | (rw [show pln q w 3 = _ from if_pos hc] <;> rfl)
      | (rw [show pln q w 3 = _ from if_neg hc] <;> rfl)
  · have hc : ¬ chs q w 2 < 2 := fun z => by rw [i2n_y z] at c_84; exact nI_ne_m1 (by omega) c_84
    refine z_iconst (v := nI 0) dX11_plan_87 rfl ?_
    refine z_goto (tgt := 113) dX11_plan_88 (by decide) ?_
    refine z_ireturn dX11_plan_113 (Nat.le_of_ble_eq_true rfl) (Nat.le_of_ble_eq_true rfl) rfl ?_
    rw [hR]
    refine ⟨?_, rfl, rfl, zEq.rf, h0⟩
    first
      | (rw [show pln q w 3 = _ from if_pos hc] <;> rfl)
      | (rw [show pln q w 3 = _ from if_neg hc] <;> rfl)

set_option maxHeartbeats 4000000 in
set_option maxRecDepth 100000 in
theorem c_plan4 {D : zD} {z0 nx : Nat} {L : zL} {V : zV} {a : Nat} {sw : Bool} {w : Wo} (hs : sLI L a sw) (h : LI V a sw w) (hcd : ∀ i, i < 2 → cdb (xof w i)) {q : Qu} (hq0 : w.2.2.2.2.2 = some q) (hR : o_plan (nI 4) w = (pln q w 4, w)) : Z D z0 8 0 0 mX11_plan 0 0 28 [some (.ref a), some (.int (nI 4)), some (.int (i2n (chs q w 2)))] [.int (nI 4)] L V nx (zq (some (.int (o_plan (nI 4) w).1)) L nx (fun V' => zEq V V' a (a + 471) ∧ LI V' a sw (o_plan (nI 4) w).2)) := by
  have hs0 := hs
  have h0 := h
  obtain ⟨l1, l2, l3, l4, l5, l6, l7, l8, l9, l10, l11, l12⟩ := hs
  obtain ⟨k1, k2, k3, k4, k5, k6, k7, k8⟩ := h
  have l20 := l2
  obtain ⟨s1, s2, s3, s4, s5, s6, s7⟩ := l2
  have k10 := k1
  obtain ⟨v1, v2, v3, v4⟩ := k1
  obtain ⟨q1, -, -, q4⟩ := k6
  have qu0 := q4 q hq0
  have l7b := (sLI.q hs0).1
  have hqa := qa_or a sw
  refine z_tableOut (tgt := 114) dX11_plan_28 (by decide) (by decide) ?_
  refine z_aload_n dX11_plan_114 rfl ?_
  refine z_callV0i dX11_plan_115 kX11_servingIndexes lX11_302 (by first | assumption | exact And.left (by assumption)) rfl (s_svr hs0 h0 hq0) (Nat.le_of_ble_eq_true rfl) (Nat.le_of_ble_eq_true rfl) ⟨Nat.le_of_ble_eq_true rfl, Nat.le_of_ble_eq_true rfl⟩ ?_
  refine z_ireturn dX11_plan_118 (Nat.le_of_ble_eq_true rfl) (Nat.le_of_ble_eq_true rfl) rfl ?_
  rw [hR]
  exact ⟨rfl, rfl, rfl, zEq.rf, h0⟩

set_option maxHeartbeats 4000000 in
set_option maxRecDepth 100000 in
theorem c_plan {D : zD} {z0 nx : Nat} {L : zL} {V : zV} {a : Nat} {sw : Bool} {w : Wo} (hs : sLI L a sw) (h : LI V a sw w) {x : Int32} (hcd : ∀ i, i < 2 → cdb (xof w i)) : Sp D z0 8 0 0 mX11_plan [.ref a, .int x] L V nx (zq (some (.int (o_plan x w).1)) L nx (fun V' => zEq V V' a (a + 471) ∧ LI V' a sw (o_plan x w).2)) := by
  have hs0 := hs
  have h0 := h
  obtain ⟨l1, l2, l3, l4, l5, l6, l7, l8, l9, l10, l11, l12⟩ := hs
  obtain ⟨k1, k2, k3, k4, k5, k6, k7, k8⟩ := h
  have l20 := l2
  obtain ⟨s1, s2, s3, s4, s5, s6, s7⟩ := l2
  have k10 := k1
  obtain ⟨v1, v2, v3, v4⟩ := k1
  refine Sp.of 1 (by decide) rfl rfl (Nat.le_of_ble_eq_true rfl) ?_
  refine z_iload_n dX11_plan_0 rfl ?_
  refine z_if_lt (tgt := 9) dX11_plan_1 (by decide) (fun c_1 => ?_) (fun c_1 => ?_)
  · refine z_bipush (v := (-2)) dX11_plan_9 rfl ?_
    refine z_ireturn dX11_plan_11 (Nat.le_of_ble_eq_true rfl) (Nat.le_of_ble_eq_true rfl) rfl ?_
    rw [show o_plan x w = (-2, w) from by unfold o_plan; rw [cif_n (fun q => by first | exact rng_n1 (by decide) c_1 q | exact rng_gt (by decide) c_6 q)]]
    exact ⟨rfl, rfl, rfl, zEq.rf, h0⟩
  · refine z_iload_n dX11_plan_4 rfl ?_
    refine z_iconst (v := nI 4) dX11_plan_5 rfl ?_
    refine z_icmp_le (tgt := 12) dX11_plan_6 (by decide) (fun c_6 => ?_) (fun c_6 => ?_)
    · have c_x : rng 5 x := rng_le (n := 4) (by decide) c_1 c_6
      refine z_aload_n dX11_plan_12 rfl ?_
      refine z_getIe dX11_plan_13 fX11_279 (by first | assumption | exact And.left (by assumption)) rfl k6.1 ?_
      refine z_if_neB (tgt := 22) dX11_plan_16 (by decide) (fun c_16 => ?_) (fun c_16 => ?_)
      · obtain ⟨q, hq0⟩ := Option.ne_none_iff_exists'.mp c_16
        have hR : o_plan x w = (pln q w (tn x), w) := by unfold o_plan; rw [cif_y c_x, hq0]
        refine z_aload_n dX11_plan_22 rfl ?_
        refine z_callV0i dX11_plan_23 kX11_cheapestIndex lX11_289 (by first | assumption | exact And.left (by assumption)) rfl (s_chs hs0 h0 hq0 hcd) (Nat.le_of_ble_eq_true rfl) (Nat.le_of_ble_eq_true rfl) ⟨Nat.le_of_ble_eq_true rfl, Nat.le_of_ble_eq_true rfl⟩ ?_
        refine z_istore_n dX11_plan_26 (Nat.le_of_ble_eq_true rfl) rfl ?_
        refine z_iload_n dX11_plan_27 rfl ?_
        obtain ⟨j, hj, rfl⟩ := c_x
        rw [tn_k (k := j) (by omega)] at hR
        rcases (show j = 0 ∨ j = 1 ∨ j = 2 ∨ j = 3 ∨ j = 4 by omega) with rfl | rfl | rfl | rfl | rfl
        · exact c_plan0 hs0 h0 hcd hq0 hR
        · exact c_plan1 hs0 h0 hcd hq0 hR
        · exact c_plan2 hs0 h0 hcd hq0 hR
        · exact c_plan3 hs0 h0 hcd hq0 hR
        · exact c_plan4 hs0 h0 hcd hq0 hR
      · have hN : w.2.2.2.2.2 = none := Classical.byContradiction (fun z => c_16 z)
        refine z_bipush (v := (-5)) dX11_plan_19 rfl ?_
        refine z_ireturn dX11_plan_21 (Nat.le_of_ble_eq_true rfl) (Nat.le_of_ble_eq_true rfl) rfl ?_
        rw [show o_plan x w = (-5, w) from by unfold o_plan; rw [cif_y c_x]; rw [hN]]
        exact ⟨rfl, rfl, rfl, zEq.rf, h0⟩
    · refine z_bipush (v := (-2)) dX11_plan_9 rfl ?_
      refine z_ireturn dX11_plan_11 (Nat.le_of_ble_eq_true rfl) (Nat.le_of_ble_eq_true rfl) rfl ?_
      rw [show o_plan x w = (-2, w) from by unfold o_plan; rw [cif_n (fun q => by first | exact rng_n1 (by decide) c_1 q | exact rng_gt (by decide) c_6 q)]]
      exact ⟨rfl, rfl, rfl, zEq.rf, h0⟩

