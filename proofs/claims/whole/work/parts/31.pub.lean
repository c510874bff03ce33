theorem cn_pos {p : Nat → Prop} : ∀ {n r : Nat}, r < n → p r → ¬ cn p n = 0
  | 0, _, h, _ => absurd h (by omega)
  | n + 1, r, h, hp => by
    by_cases e : r = n
    · subst e
      rw [cn_y hp]
      omega
    · have ih := cn_pos (p := p) (n := n) (r := r) (by omega) hp
      by_cases c : p n
      · rw [cn_y c]; omega
      · rw [cn_n c]; exact ih

/-! LateIndex: what each call answers and what is there behind it (o_..), and that the class does so; transactions -/
noncomputable def cif {α : Type} (c : Prop) (x y : α) : α := @ite α c (Classical.propDecidable c) x y
theorem cif_y {α : Type} {c : Prop} {x y : α} (h : c) : cif c x y = x := if_pos h
theorem cif_n {α : Type} {c : Prop} {x y : α} (h : ¬ c) : cif c x y = y := if_neg h
def wst (w : Wo) (S : St) : Wo := (S, (wrem w).2)
def setT (S : St) (k : Nat) (x : Tr) : St := (S.1, S.2.1, up1 S.2.2.1 k x, S.2.2.2)
def setX (S : St) (i : Nat) (x : Ix) : St := (S.1, S.2.1, S.2.2.1, up1 S.2.2.2 i x)
def setY (w : Wo) (h : Nat) : Wo := (w.1, w.2.1, w.2.2.1, w.2.2.2.1, h, w.2.2.2.2.2)
def tof (w : Wo) (k : Nat) : Tr := w.1.2.2.1 k
noncomputable def nwr (t : Tr) : Nat := cn (fun r => t.2.2 r ≠ none) 48
def tEnd : Tr := (false, 0, fun _ => none)
def tWr (t : Tr) (r : Nat) (v : Option Nat) : Tr := (t.1, t.2.1, fun q => if q = r then some v else t.2.2 q)
def room (w : Wo) (k r : Nat) : Prop := (tof w k).2.2 r ≠ none ∨ nwr (tof w k) < 8
noncomputable def rfw (t r : Int32) (w : Wo) : Int32 := cif (rng 4 t ∧ rng 48 r) (cif (opn w t) (cif (room w (tn t) (tn r)) 0 (-4)) (-5)) (-2)
noncomputable def o_begin (t : Int32) (w : Wo) : Int32 × Wo := cif (rng 4 t) (cif (opn w t) (-5, w) (nI w.1.1.1, wst w (setT w.1 (tn t) (true, w.1.1.1, (tof w (tn t)).2.2)))) (-2, w)
noncomputable def o_put (t r x y z : Int32) (w : Wo) : Int32 × Wo := cif (rng 4 t ∧ rng 48 r) (cif (nums x y z) (cif (rfw t r w = 0) (nI (nwr (tWr (tof w (tn t)) (tn r) (some ((tn x * 100 + tn y) * 100 + tn z)))), wst w (setT w.1 (tn t) (tWr (tof w (tn t)) (tn r) (some ((tn x * 100 + tn y) * 100 + tn z))))) (rfw t r w, w)) (-3, w)) (-2, w)
noncomputable def o_erase (t r : Int32) (w : Wo) : Int32 × Wo := cif (rfw t r w = 0) (if seen w.1 (tn t) (tn r) = none then 0 else 1, wst w (setT w.1 (tn t) (tWr (tof w (tn t)) (tn r) none))) (rfw t r w, w)
noncomputable def cmt (k : Nat) (w : Wo) : Int32 × Wo := (if hnd w.1 (tof w k) = 0 then nI (stl w.1 k).1.1 else 0, setY (wst w (if hnd w.1 (tof w k) = 0 then stl w.1 k else if hnd w.1 (tof w k) = 1 ∨ hnd w.1 (tof w k) = 3 then setT w.1 k tEnd else w.1)) (hnd w.1 (tof w k)))
noncomputable def o_commit (t : Int32) (w : Wo) : Int32 × Wo := cif (rng 4 t) (cif (opn w t) (cmt (tn t) w) (-5, w)) (-2, w)
def o_why (w : Wo) : Int32 × Wo := (nI w.2.2.2.2.1, w)
noncomputable def o_roll (t : Int32) (w : Wo) : Int32 × Wo := cif (rng 4 t) (cif (opn w t) (nI (nwr (tof w (tn t))), wst w (setT w.1 (tn t) tEnd)) (-5, w)) (-2, w)
noncomputable def sv (w : Wo) (t : Int32) (r : Nat) : Option Nat := cif (t = -1) (lst w.1.2.1 r).2 (seen w.1 (tn t) r)
def seev (v : Option Nat) (x : Nat) : Int32 := match v with
  | none => if x = 0 then 0 else -1
  | some p => if x = 0 then 1 else nI (pt p (x - 1))
noncomputable def o_see (t r x : Int32) (w : Wo) : Int32 × Wo := cif (vwr t ∧ rng 48 r ∧ rng 4 x) (cif (cvw w t) (seev (sv w t (tn r)) (tn x), w) (-5, w)) (-2, w)
noncomputable def o_sweep (w : Wo) : Int32 × Wo := (nI (sm (gone w.1.2.1 (isn w.1 2)) 48), wst w (swp w.1))
theorem hnd_lt (s : St) (t : Tr) : hnd s t < 5 := by
  unfold hnd
  repeat' split
  all_goals omega
theorem hnd_full {s : St} {t : Tr} (h : hnd s t = 0) : ∀ r, r < 48 → t.2.2 r ≠ none → (s.2.1 r).length < 8 := by
  intro r hr hw
  unfold hnd at h
  split at h
  · rename_i h0
    exact absurd h0 (fun q => cn_pos (p := fun r => t.2.2 r ≠ none) hr hw q)
  · split at h
    · cases h
    · split at h
      · cases h
      · split at h
        · cases h
        · rename_i h4
          rcases Nat.lt_or_ge (s.2.1 r).length 8 with q | q
          · exact q
          · exact absurd ⟨r, hr, hw, q⟩ h4

set_option maxHeartbeats 4000000 in
set_option maxRecDepth 100000 in
theorem c_begin {D : zD} {z0 nx : Nat} {L : zL} {V : zV} {a : Nat} {sw : Bool} {w : Wo} (hs : sLI L a sw) (h : LI V a sw w) {t : Int32} : Sp D z0 7 0 0 mX11_begin [.ref a, .int t] L V nx (zq (some (.int (o_begin t w).1)) L nx (fun V' => zEq V V' a (a + 471) ∧ LI V' a sw (o_begin t w).2)) := by
  have hs0 := hs
  have h0 := h
  obtain ⟨l1, l2, l3, l4, l5, l6, l7, l8, l9, l10, l11, l12⟩ := hs
  obtain ⟨k1, k2, k3, k4, k5, k6, k7, k8⟩ := h
  have l20 := l2
  obtain ⟨s1, s2, s3, s4, s5, s6, s7⟩ := l2
  have k10 := k1
  obtain ⟨v1, v2, v3, v4⟩ := k1
  refine Sp.of 1 (by decide) rfl rfl (Nat.le_of_ble_eq_true rfl) ?_
  refine z_iload_n dX11_begin_0 rfl ?_
  refine z_callS1i dX11_begin_1 kX11_isTransaction lX11_58 s_isT (Nat.le_of_ble_eq_true rfl) (Nat.le_of_ble_eq_true rfl) ⟨Nat.le_of_ble_eq_true rfl, Nat.le_of_ble_eq_true rfl⟩ ?_
  refine z_if_neB (tgt := 10) dX11_begin_4 (by decide) (fun c_4 => ?_) (fun c_4 => ?_)
  · obtain ⟨k, hk, rfl⟩ := c_4
    have hT := tn_k (k := k) (by omega)
    have q1 := t4_at (a + 1) k (by omega)
    have p1 := s6 k (by omega)
    obtain ⟨p2, p3⟩ := s6 k (by omega)
    have m0 := v3 k (by omega)
    obtain ⟨m1, m2, m3, m4, m5, m6⟩ := v3 k (by omega)
    refine z_aload_n dX11_begin_10 rfl ?_
    refine z_getR dX11_begin_11 fX11_10 (by first | assumption | exact And.left (by assumption)) rfl ?_
    refine z_getR dX11_begin_14 fX11_62 (by first | assumption | exact And.left (by assumption)) rfl ?_
    refine z_iload_n dX11_begin_17 rfl ?_
    refine z_aaldN dX11_begin_18 (by first | assumption | exact And.left (by assumption)) (fun _ => rfl) (by exact Nat.le_of_ble_eq_true rfl) (by assumption) ?_
    refine z_astore_n dX11_begin_19 (Nat.le_of_ble_eq_true rfl) rfl ?_
    refine z_aload_n dX11_begin_20 rfl ?_
    refine z_getIe dX11_begin_21 fX11_66 (by first | assumption | exact And.left (by assumption)) rfl (by first | assumption | exact zup_s _ _ _ _ | rfl) ?_
    refine z_if_eqB (tgt := 30) dX11_begin_24 (by decide) (fun c_24 => ?_) (fun c_24 => ?_)
    · refine z_aload_n dX11_begin_30 rfl ?_
      refine z_callV0w dX11_begin_31 kX11_remember lX11_72 (by first | assumption | exact And.left (by assumption)) rfl (s_rem hs0 h0) (Nat.le_of_ble_eq_true rfl) (Nat.le_of_ble_eq_true rfl) ⟨Nat.le_of_ble_eq_true rfl, Nat.le_of_ble_eq_true rfl⟩ ?_
      intro V1 hV1
      obtain ⟨e1, h0⟩ := hV1
      have k10 : ST V1 (a + 1) w.1 := h0.1
      have k11 := k10
      obtain ⟨v1, v2, v3, v4⟩ := k11
      obtain ⟨p2, p3⟩ := s6 k (by omega)
      have q9 := v1.1
      have q8 := v1.2.2.2.1
      refine z_aload_n dX11_begin_34 rfl ?_
      refine z_aload_n dX11_begin_35 rfl ?_
      refine z_getR dX11_begin_36 fX11_10 (by first | assumption | exact And.left (by assumption)) rfl ?_
      refine z_getIe dX11_begin_39 fX11_75 (by first | assumption | exact And.left (by assumption)) rfl (by first | assumption | exact zup_s _ _ _ _ | rfl) ?_
      refine z_callV1w dX11_begin_42 kX9_start lX11_79 (by first | assumption | exact And.left (by assumption)) rfl (s_start p1 (v3 k (by omega)) (by omega)) (Nat.le_of_ble_eq_true rfl) (Nat.le_of_ble_eq_true rfl) ⟨Nat.le_of_ble_eq_true rfl, Nat.le_of_ble_eq_true rfl⟩ ?_
      intro V2 hV2
      have n2 := hV2.2.2.1
      refine z_aload_n dX11_begin_45 rfl ?_
      refine z_getIe dX11_begin_46 fX11_83 (by first | assumption | exact And.left (by assumption)) rfl (by first | assumption | exact zup_s _ _ _ _ | rfl) ?_
      refine z_ireturn dX11_begin_49 (Nat.le_of_ble_eq_true rfl) (Nat.le_of_ble_eq_true rfl) rfl ?_
      rw [show o_begin (nI k) w = (nI w.1.1.1, wst w (setT w.1 k (true, w.1.1.1, (tof w k).2.2))) from by unfold o_begin; rw [cif_y (rng_k hk), cif_n (fun q => c_24 ((opn_k hk).mp q)), hT]]
      exact ⟨rfl, rfl, rfl, e1.trans (hV2.1.wide (by omega) (by omega)), LI_st h0 (hV2.1.wide (by omega) (by omega)) (ST_tr k10 (by omega) hV2.1 hV2.2)⟩
    · refine z_bipush (v := (-5)) dX11_begin_27 rfl ?_
      refine z_ireturn dX11_begin_29 (Nat.le_of_ble_eq_true rfl) (Nat.le_of_ble_eq_true rfl) rfl ?_
      rw [show o_begin (nI k) w = (-5, w) from by unfold o_begin; rw [cif_y (rng_k hk)]; rw [cif_y ((opn_k hk).mpr c_24)]]
      exact ⟨rfl, rfl, rfl, zEq.rf, h0⟩
  · refine z_bipush (v := (-2)) dX11_begin_7 rfl ?_
    refine z_ireturn dX11_begin_9 (Nat.le_of_ble_eq_true rfl) (Nat.le_of_ble_eq_true rfl) rfl ?_
    rw [show o_begin t w = (-2, w) from by unfold o_begin; rw [cif_n c_4]]
    exact ⟨rfl, rfl, rfl, zEq.rf, h0⟩

set_option maxHeartbeats 4000000 in
set_option maxRecDepth 100000 in
theorem s_rfw {D : zD} {z0 nx : Nat} {L : zL} {V : zV} {a : Nat} {sw : Bool} {w : Wo} (hs : sLI L a sw) (h : LI V a sw w) {t r : Int32} : Sp D z0 3 0 0 mX11_refusalOfWrite [.ref a, .int t, .int r] L V nx (zi (rfw t r w) L V nx) := by
  have hs0 := hs
  have h0 := h
  obtain ⟨l1, l2, l3, l4, l5, l6, l7, l8, l9, l10, l11, l12⟩ := hs
  obtain ⟨k1, k2, k3, k4, k5, k6, k7, k8⟩ := h
  have l20 := l2
  obtain ⟨s1, s2, s3, s4, s5, s6, s7⟩ := l2
  have k10 := k1
  obtain ⟨v1, v2, v3, v4⟩ := k1
  refine Sp.of 1 (by decide) rfl rfl (Nat.le_of_ble_eq_true rfl) ?_
  refine z_iload_n dX11_refusalOfWrite_0 rfl ?_
  refine z_callS1i dX11_refusalOfWrite_1 kX11_isTransaction lX11_58 s_isT (Nat.le_of_ble_eq_true rfl) (Nat.le_of_ble_eq_true rfl) ⟨Nat.le_of_ble_eq_true rfl, Nat.le_of_ble_eq_true rfl⟩ ?_
  refine z_if_eqB (tgt := 14) dX11_refusalOfWrite_4 (by decide) (fun c_4 => ?_) (fun c_4 => ?_)
  · refine z_bipush (v := (-2)) dX11_refusalOfWrite_14 rfl ?_
    refine z_ireturn dX11_refusalOfWrite_16 (Nat.le_of_ble_eq_true rfl) (Nat.le_of_ble_eq_true rfl) rfl ?_
    exact zi_r (by unfold rfw; rw [cif_n (fun q => by first | exact c_4 q.1 | exact c_11 q.2)] <;> rfl)
  · refine z_iload_n dX11_refusalOfWrite_7 rfl ?_
    refine z_callS1i dX11_refusalOfWrite_8 kX11_isRow lX11_86 s_isRow (Nat.le_of_ble_eq_true rfl) (Nat.le_of_ble_eq_true rfl) ⟨Nat.le_of_ble_eq_true rfl, Nat.le_of_ble_eq_true rfl⟩ ?_
    refine z_if_neB (tgt := 17) dX11_refusalOfWrite_11 (by decide) (fun c_11 => ?_) (fun c_11 => ?_)
    · obtain ⟨j, hj, rfl⟩ := c_11
      obtain ⟨k, hk, rfl⟩ := c_4
      have hT := tn_k (k := k) (by omega)
      have q1 := t4_at (a + 1) k (by omega)
      have p1 := s6 k (by omega)
      obtain ⟨p2, p3⟩ := s6 k (by omega)
      have m0 := v3 k (by omega)
      obtain ⟨m1, m2, m3, m4, m5, m6⟩ := v3 k (by omega)
      have hJ := tn_k (k := j) (by omega)
      have hy : rng 4 (nI k) ∧ rng 48 (nI j) := ⟨rng_k hk, rng_k hj⟩
      refine z_aload_n dX11_refusalOfWrite_17 rfl ?_
      refine z_getR dX11_refusalOfWrite_18 fX11_10 (by first | assumption | exact And.left (by assumption)) rfl ?_
      refine z_getR dX11_refusalOfWrite_21 fX11_62 (by first | assumption | exact And.left (by assumption)) rfl ?_
      refine z_iload_n dX11_refusalOfWrite_24 rfl ?_
      refine z_aaldN dX11_refusalOfWrite_25 (by first | assumption | exact And.left (by assumption)) (fun _ => rfl) (by exact Nat.le_of_ble_eq_true rfl) (by assumption) ?_
      refine z_astore_n dX11_refusalOfWrite_26 (Nat.le_of_ble_eq_true rfl) rfl ?_
      refine z_aload_n dX11_refusalOfWrite_27 rfl ?_
      refine z_getIe dX11_refusalOfWrite_28 fX11_66 (by first | assumption | exact And.left (by assumption)) rfl (by first | assumption | exact zup_s _ _ _ _ | rfl) ?_
      refine z_if_neB (tgt := 37) dX11_refusalOfWrite_31 (by decide) (fun c_31 => ?_) (fun c_31 => ?_)
      · refine z_aload_n dX11_refusalOfWrite_37 rfl ?_
        refine z_iload_n dX11_refusalOfWrite_38 rfl ?_
        refine z_callV1i dX11_refusalOfWrite_39 kX9_hasRoomFor lX11_347 (by first | assumption | exact And.left (by assumption)) rfl (s_hasRoom p1 m0 (by omega)) (Nat.le_of_ble_eq_true rfl) (Nat.le_of_ble_eq_true rfl) ⟨Nat.le_of_ble_eq_true rfl, Nat.le_of_ble_eq_true rfl⟩ ?_
        refine z_if_eqB (tgt := 49) dX11_refusalOfWrite_42 (by decide) (fun c_42 => ?_) (fun c_42 => ?_)
        · refine z_bipush (v := (-4)) dX11_refusalOfWrite_49 rfl ?_
          refine z_ireturn dX11_refusalOfWrite_51 (Nat.le_of_ble_eq_true rfl) (Nat.le_of_ble_eq_true rfl) rfl ?_
          exact zi_r (by unfold rfw; rw [cif_y hy, cif_y ((opn_k hk).mpr c_31)]; first | (rw [cif_y (by unfold room; rw [hT, hJ]; exact c_42)] <;> rfl) | (rw [cif_n (by unfold room; rw [hT, hJ]; exact c_42)]))
        · refine z_iconst (v := nI 0) dX11_refusalOfWrite_45 rfl ?_
          refine z_goto (tgt := 51) dX11_refusalOfWrite_46 (by decide) ?_
          refine z_ireturn dX11_refusalOfWrite_51 (Nat.le_of_ble_eq_true rfl) (Nat.le_of_ble_eq_true rfl) rfl ?_
          exact zi_r (by unfold rfw; rw [cif_y hy, cif_y ((opn_k hk).mpr c_31)]; first | (rw [cif_y (by unfold room; rw [hT, hJ]; exact c_42)] <;> rfl) | (rw [cif_n (by unfold room; rw [hT, hJ]; exact c_42)]))
      · refine z_bipush (v := (-5)) dX11_refusalOfWrite_34 rfl ?_
        refine z_ireturn dX11_refusalOfWrite_36 (Nat.le_of_ble_eq_true rfl) (Nat.le_of_ble_eq_true rfl) rfl ?_
        exact zi_r (by unfold rfw; rw [cif_y hy, cif_n (fun q => c_31 ((opn_k hk).mp q))])
    · refine z_bipush (v := (-2)) dX11_refusalOfWrite_14 rfl ?_
      refine z_ireturn dX11_refusalOfWrite_16 (Nat.le_of_ble_eq_true rfl) (Nat.le_of_ble_eq_true rfl) rfl ?_
      exact zi_r (by unfold rfw; rw [cif_n (fun q => by first | exact c_4 q.1 | exact c_11 q.2)] <;> rfl)

theorem rfw_0 {t r : Int32} {w : Wo} (h : rfw t r w = 0) : rng 4 t ∧ rng 48 r := Classical.byContradiction (fun q => by
  unfold rfw at h
  rw [cif_n q] at h
  exact absurd h (by decide))
theorem pk3_lt {x y z : Nat} (h1 : x < 100) (h2 : y < 100) (h3 : z < 100) : (x * 100 + y) * 100 + z < 1000000 := by omega

set_option maxHeartbeats 4000000 in
set_option maxRecDepth 100000 in
theorem c_put {D : zD} {z0 nx : Nat} {L : zL} {V : zV} {a : Nat} {sw : Bool} {w : Wo} (hs : sLI L a sw) (h : LI V a sw w) {t : Int32} {r : Int32} {x : Int32} {y : Int32} {z : Int32} : Sp D z0 7 0 0 mX11_put [.ref a, .int t, .int r, .int x, .int y, .int z] L V nx (zq (some (.int (o_put t r x y z w).1)) L nx (fun V' => zEq V V' a (a + 471) ∧ LI V' a sw (o_put t r x y z w).2)) := by
  have hs0 := hs
  have h0 := h
  obtain ⟨l1, l2, l3, l4, l5, l6, l7, l8, l9, l10, l11, l12⟩ := hs
  obtain ⟨k1, k2, k3, k4, k5, k6, k7, k8⟩ := h
  have l20 := l2
  obtain ⟨s1, s2, s3, s4, s5, s6, s7⟩ := l2
  have k10 := k1
  obtain ⟨v1, v2, v3, v4⟩ := k1
  refine Sp.of 2 (by decide) rfl rfl (Nat.le_of_ble_eq_true rfl) ?_
  refine z_iload_n dX11_put_0 rfl ?_
  refine z_callS1i dX11_put_1 kX11_isTransaction lX11_58 s_isT (Nat.le_of_ble_eq_true rfl) (Nat.le_of_ble_eq_true rfl) ⟨Nat.le_of_ble_eq_true rfl, Nat.le_of_ble_eq_true rfl⟩ ?_
  refine z_if_eqB (tgt := 14) dX11_put_4 (by decide) (fun c_4 => ?_) (fun c_4 => ?_)
  · refine z_bipush (v := (-2)) dX11_put_14 rfl ?_
    refine z_ireturn dX11_put_16 (Nat.le_of_ble_eq_true rfl) (Nat.le_of_ble_eq_true rfl) rfl ?_
    rw [show o_put t r x y z w = (-2, w) from by unfold o_put; rw [cif_n (fun q => by first | exact c_4 q.1 | exact c_11 q.2)]]
    exact ⟨rfl, rfl, rfl, zEq.rf, h0⟩
  · refine z_iload_n dX11_put_7 rfl ?_
    refine z_callS1i dX11_put_8 kX11_isRow lX11_86 s_isRow (Nat.le_of_ble_eq_true rfl) (Nat.le_of_ble_eq_true rfl) ⟨Nat.le_of_ble_eq_true rfl, Nat.le_of_ble_eq_true rfl⟩ ?_
    refine z_if_neB (tgt := 17) dX11_put_11 (by decide) (fun c_11 => ?_) (fun c_11 => ?_)
    · refine z_iload_n dX11_put_17 rfl ?_
      refine z_iload dX11_put_18 rfl ?_
      refine z_iload dX11_put_20 rfl ?_
      refine z_callS3i dX11_put_22 kX11_areNumbers lX11_89 s_nums (Nat.le_of_ble_eq_true rfl) (Nat.le_of_ble_eq_true rfl) ⟨Nat.le_of_ble_eq_true rfl, Nat.le_of_ble_eq_true rfl⟩ ?_
      refine z_if_neB (tgt := 31) dX11_put_25 (by decide) (fun c_25 => ?_) (fun c_25 => ?_)
      · refine z_aload_n dX11_put_31 rfl ?_
        refine z_iload_n dX11_put_32 rfl ?_
        refine z_iload_n dX11_put_33 rfl ?_
        refine z_callV2i dX11_put_34 kX11_refusalOfWrite lX11_93 (by first | assumption | exact And.left (by assumption)) rfl (s_rfw hs0 h0) (Nat.le_of_ble_eq_true rfl) (Nat.le_of_ble_eq_true rfl) ⟨Nat.le_of_ble_eq_true rfl, Nat.le_of_ble_eq_true rfl⟩ ?_
        refine z_istore dX11_put_37 (Nat.le_of_ble_eq_true rfl) rfl ?_
        refine z_iload dX11_put_39 rfl ?_
        refine z_if_eq (tgt := 47) dX11_put_41 (by decide) (fun cc => ?_) (fun cc => ?_)
        · refine z_aload_n dX11_put_47 rfl ?_
          have hR : o_put t r x y z w = (nI (nwr (tWr (tof w (tn t)) (tn r) (some ((tn x * 100 + tn y) * 100 + tn z)))), wst w (setT w.1 (tn t) (tWr (tof w (tn t)) (tn r) (some ((tn x * 100 + tn y) * 100 + tn z))))) := by unfold o_put; rw [cif_y ⟨c_4, c_11⟩, cif_y c_25, cif_y cc]
          clear cc
          obtain ⟨x0, hx0, rfl⟩ := c_25.1
          obtain ⟨y0, hy0, rfl⟩ := c_25.2.1
          obtain ⟨z1, hz1, rfl⟩ := c_25.2.2
          obtain ⟨j, hj, rfl⟩ := c_11
          obtain ⟨k, hk, rfl⟩ := c_4
          have hT := tn_k (k := k) (by omega)
          have q1 := t4_at (a + 1) k (by omega)
          have p1 := s6 k (by omega)
          obtain ⟨p2, p3⟩ := s6 k (by omega)
          have m0 := v3 k (by omega)
          obtain ⟨m1, m2, m3, m4, m5, m6⟩ := v3 k (by omega)
          rw [hT, tn_k (k := j) (by omega), tn_k (k := x0) (by omega), tn_k (k := y0) (by omega), tn_k (k := z1) (by omega)] at hR
          refine z_callV0w dX11_put_48 kX11_remember lX11_72 (by first | assumption | exact And.left (by assumption)) rfl (s_rem hs0 h0) (Nat.le_of_ble_eq_true rfl) (Nat.le_of_ble_eq_true rfl) ⟨Nat.le_of_ble_eq_true rfl, Nat.le_of_ble_eq_true rfl⟩ ?_
          intro V1 hV1
          obtain ⟨e1, h0⟩ := hV1
          have k10 : ST V1 (a + 1) w.1 := h0.1
          have k11 := k10
          obtain ⟨v1, v2, v3, v4⟩ := k11
          refine z_aload_n dX11_put_51 rfl ?_
          refine z_getR dX11_put_52 fX11_10 (by first | assumption | exact And.left (by assumption)) rfl ?_
          refine z_getR dX11_put_55 fX11_62 (by first | assumption | exact And.left (by assumption)) rfl ?_
          refine z_iload_n dX11_put_58 rfl ?_
          refine z_aaldN dX11_put_59 (by first | assumption | exact And.left (by assumption)) (fun _ => rfl) (by exact Nat.le_of_ble_eq_true rfl) (by assumption) ?_
          refine z_astore dX11_put_60 (Nat.le_of_ble_eq_true rfl) rfl ?_
          refine z_aload dX11_put_62 rfl ?_
          refine z_iload_n dX11_put_64 rfl ?_
          refine z_iload_n dX11_put_65 rfl ?_
          refine z_iload dX11_put_66 rfl ?_
          refine z_iload dX11_put_68 rfl ?_
          refine z_callS3i dX11_put_70 kX11_packed lX11_97 (s_packed hx0 hy0 hz1) (Nat.le_of_ble_eq_true rfl) (Nat.le_of_ble_eq_true rfl) ⟨Nat.le_of_ble_eq_true rfl, Nat.le_of_ble_eq_true rfl⟩ ?_
          refine z_callV2w dX11_put_73 kX9_write lX11_101 (by first | assumption | exact And.left (by assumption)) rfl (s_write (v := some ((x0 * 100 + y0) * 100 + z1)) p1 (v3 k (by omega)) hj (fun p hp => by cases hp; exact pk3_lt hx0 hy0 hz1)) (Nat.le_of_ble_eq_true rfl) (Nat.le_of_ble_eq_true rfl) ⟨Nat.le_of_ble_eq_true rfl, Nat.le_of_ble_eq_true rfl⟩ ?_
          intro V2 hV2
          have n2 := hV2.2.2.2.1
          obtain ⟨p2, p3⟩ := s6 k (by omega)
          refine z_aload dX11_put_76 rfl ?_
          refine z_getIe dX11_put_78 fX11_105 (by first | assumption | exact And.left (by assumption)) rfl (by first | assumption | exact zup_s _ _ _ _ | rfl) ?_
          refine z_ireturn dX11_put_81 (Nat.le_of_ble_eq_true rfl) (Nat.le_of_ble_eq_true rfl) rfl ?_
          rw [hR]
          exact ⟨rfl, rfl, rfl, e1.trans (hV2.1.wide (by omega) (by omega)), LI_st h0 (hV2.1.wide (by omega) (by omega)) (ST_tr k10 (by omega) hV2.1 hV2.2)⟩
        · refine z_iload dX11_put_44 rfl ?_
          refine z_ireturn dX11_put_46 (Nat.le_of_ble_eq_true rfl) (Nat.le_of_ble_eq_true rfl) rfl ?_
          rw [show o_put t r x y z w = (rfw t r w, w) from by unfold o_put; rw [cif_y ⟨c_4, c_11⟩]; rw [cif_y c_25]; rw [cif_n cc]]
          exact ⟨rfl, rfl, rfl, zEq.rf, h0⟩
      · refine z_bipush (v := (-3)) dX11_put_28 rfl ?_
        refine z_ireturn dX11_put_30 (Nat.le_of_ble_eq_true rfl) (Nat.le_of_ble_eq_true rfl) rfl ?_
        rw [show o_put t r x y z w = (-3, w) from by unfold o_put; rw [cif_y ⟨c_4, c_11⟩]; rw [cif_n c_25]]
        exact ⟨rfl, rfl, rfl, zEq.rf, h0⟩
    · refine z_bipush (v := (-2)) dX11_put_14 rfl ?_
      refine z_ireturn dX11_put_16 (Nat.le_of_ble_eq_true rfl) (Nat.le_of_ble_eq_true rfl) rfl ?_
      rw [show o_put t r x y z w = (-2, w) from by unfold o_put; rw [cif_n (fun q => by first | exact c_4 q.1 | exact c_11 q.2)]]
      exact ⟨rfl, rfl, rfl, zEq.rf, h0⟩

theorem seen_lt {V : zV} {a k r : Nat} {s : St} (h : ST V a s) (hk : k < 4) (hr : r < 48) : ∀ p, seen s k r = some p → p < 64000000 := by
  intro p hp
  obtain ⟨-, h2, h3, -⟩ := h
  have h6 := (h3 k hk).2.2.2.2.2 r
  unfold seen at hp
  split at hp
  · rename_i x hx
    rw [hp] at hx
    have := h6 p hx
    omega
  · have := h2.vat hr _ p hp
    omega

set_option maxHeartbeats 4000000 in
set_option maxRecDepth 100000 in
theorem c_erase {D : zD} {z0 nx : Nat} {L : zL} {V : zV} {a : Nat} {sw : Bool} {w : Wo} (hs : sLI L a sw) (h : LI V a sw w) {t : Int32} {r : Int32} : Sp D z0 7 0 0 mX11_erase [.ref a, .int t, .int r] L V nx (zq (some (.int (o_erase t r w).1)) L nx (fun V' => zEq V V' a (a + 471) ∧ LI V' a sw (o_erase t r w).2)) := by
  have hs0 := hs
  have h0 := h
  obtain ⟨l1, l2, l3, l4, l5, l6, l7, l8, l9, l10, l11, l12⟩ := hs
  obtain ⟨k1, k2, k3, k4, k5, k6, k7, k8⟩ := h
  have l20 := l2
  obtain ⟨s1, s2, s3, s4, s5, s6, s7⟩ := l2
  have k10 := k1
  obtain ⟨v1, v2, v3, v4⟩ := k1
  refine Sp.of 2 (by decide) rfl rfl (Nat.le_of_ble_eq_true rfl) ?_
  refine z_aload_n dX11_erase_0 rfl ?_
  refine z_iload_n dX11_erase_1 rfl ?_
  refine z_iload_n dX11_erase_2 rfl ?_
  refine z_callV2i dX11_erase_3 kX11_refusalOfWrite lX11_93 (by first | assumption | exact And.left (by assumption)) rfl (s_rfw hs0 h0) (Nat.le_of_ble_eq_true rfl) (Nat.le_of_ble_eq_true rfl) ⟨Nat.le_of_ble_eq_true rfl, Nat.le_of_ble_eq_true rfl⟩ ?_
  refine z_istore_n dX11_erase_6 (Nat.le_of_ble_eq_true rfl) rfl ?_
  refine z_iload_n dX11_erase_7 rfl ?_
  refine z_if_eq (tgt := 13) dX11_erase_8 (by decide) (fun cc => ?_) (fun cc => ?_)
  · refine z_aload_n dX11_erase_13 rfl ?_
    have hR : o_erase t r w = (if seen w.1 (tn t) (tn r) = none then 0 else 1, wst w (setT w.1 (tn t) (tWr (tof w (tn t)) (tn r) none))) := by unfold o_erase; rw [cif_y cc]
    obtain ⟨c_a, c_b⟩ := rfw_0 cc
    clear cc
    obtain ⟨j, hj, rfl⟩ := c_b
    obtain ⟨k, hk, rfl⟩ := c_a
    have hT := tn_k (k := k) (by omega)
    have q1 := t4_at (a + 1) k (by omega)
    have p1 := s6 k (by omega)
    obtain ⟨p2, p3⟩ := s6 k (by omega)
    have m0 := v3 k (by omega)
    obtain ⟨m1, m2, m3, m4, m5, m6⟩ := v3 k (by omega)
    rw [hT, tn_k (k := j) (by omega)] at hR
    refine z_callV0w dX11_erase_14 kX11_remember lX11_72 (by first | assumption | exact And.left (by assumption)) rfl (s_rem hs0 h0) (Nat.le_of_ble_eq_true rfl) (Nat.le_of_ble_eq_true rfl) ⟨Nat.le_of_ble_eq_true rfl, Nat.le_of_ble_eq_true rfl⟩ ?_
    intro V1 hV1
    obtain ⟨e1, h0⟩ := hV1
    have k10 : ST V1 (a + 1) w.1 := h0.1
    have k11 := k10
    obtain ⟨v1, v2, v3, v4⟩ := k11
    refine z_aload_n dX11_erase_17 rfl ?_
    refine z_getR dX11_erase_18 fX11_10 (by first | assumption | exact And.left (by assumption)) rfl ?_
    refine z_iload_n dX11_erase_21 rfl ?_
    refine z_iload_n dX11_erase_22 rfl ?_
    refine z_callV2i dX11_erase_23 kX7_valueSeen lX11_108 (by first | assumption | exact And.left (by assumption)) rfl (s_seenT l20 k10 hk hj) (Nat.le_of_ble_eq_true rfl) (Nat.le_of_ble_eq_true rfl) ⟨Nat.le_of_ble_eq_true rfl, Nat.le_of_ble_eq_true rfl⟩ ?_
    refine z_istore dX11_erase_26 (Nat.le_of_ble_eq_true rfl) rfl ?_
    refine z_aload_n dX11_erase_28 rfl ?_
    refine z_getR dX11_erase_29 fX11_10 (by first | assumption | exact And.left (by assumption)) rfl ?_
    refine z_getR dX11_erase_32 fX11_62 (by first | assumption | exact And.left (by assumption)) rfl ?_
    refine z_iload_n dX11_erase_35 rfl ?_
    refine z_aaldN dX11_erase_36 (by first | assumption | exact And.left (by assumption)) (fun _ => rfl) (by exact Nat.le_of_ble_eq_true rfl) (by assumption) ?_
    refine z_iload_n dX11_erase_37 rfl ?_
    refine z_iconst (v := (-1)) dX11_erase_38 rfl ?_
    refine z_callV2w dX11_erase_39 kX9_write lX11_101 (by first | assumption | exact And.left (by assumption)) rfl (s_write (v := none) p1 (v3 k (by omega)) hj (fun p hp => by cases hp)) (Nat.le_of_ble_eq_true rfl) (Nat.le_of_ble_eq_true rfl) ⟨Nat.le_of_ble_eq_true rfl, Nat.le_of_ble_eq_true rfl⟩ ?_
    intro V2 hV2
    refine z_iload dX11_erase_42 rfl ?_
    refine z_iconst (v := (-1)) dX11_erase_44 rfl ?_
    refine z_icmp_ne (tgt := 52) dX11_erase_45 (by decide) (fun c_45 => ?_) (fun c_45 => ?_)
    · have hsn : ¬ seen w.1 k j = none := fun q => c_45 (by rw [q] <;> rfl)
      rw [if_neg hsn] at hR
      refine z_iconst (v := nI 1) dX11_erase_52 rfl ?_
      refine z_ireturn dX11_erase_53 (Nat.le_of_ble_eq_true rfl) (Nat.le_of_ble_eq_true rfl) rfl ?_
      rw [hR]
      exact ⟨rfl, rfl, rfl, e1.trans (hV2.1.wide (by omega) (by omega)), LI_st h0 (hV2.1.wide (by omega) (by omega)) (ST_tr k10 (by omega) hV2.1 hV2.2)⟩
    · have hsn : seen w.1 k j = none := (vv_m1' (seen_lt k10 hk hj)).mp c_45
      rw [if_pos hsn] at hR
      refine z_iconst (v := nI 0) dX11_erase_48 rfl ?_
      refine z_goto (tgt := 53) dX11_erase_49 (by decide) ?_
      refine z_ireturn dX11_erase_53 (Nat.le_of_ble_eq_true rfl) (Nat.le_of_ble_eq_true rfl) rfl ?_
      rw [hR]
      exact ⟨rfl, rfl, rfl, e1.trans (hV2.1.wide (by omega) (by omega)), LI_st h0 (hV2.1.wide (by omega) (by omega)) (ST_tr k10 (by omega) hV2.1 hV2.2)⟩
  · refine z_iload_n dX11_erase_11 rfl ?_
    refine z_ireturn dX11_erase_12 (Nat.le_of_ble_eq_true rfl) (Nat.le_of_ble_eq_true rfl) rfl ?_
    rw [show o_erase t r w = (rfw t r w, w) from by unfold o_erase; rw [cif_n cc]]
    exact ⟨rfl, rfl, rfl, zEq.rf, h0⟩

set_option maxHeartbeats 4000000 in
set_option maxRecDepth 100000 in
theorem c_commit {D : zD} {z0 nx : Nat} {L : zL} {V : zV} {a : Nat} {sw : Bool} {w : Wo} (hs : sLI L a sw) (h : LI V a sw w) {t : Int32} (hq : w.1.1.1 < 899999) : Sp D z0 9 0 0 mX11_commit [.ref a, .int t] L V nx (zq (some (.int (o_commit t w).1)) L nx (fun V' => zEq V V' a (a + 471) ∧ LI V' a sw (o_commit t w).2)) := by
  have hs0 := hs
  have h0 := h
  obtain ⟨l1, l2, l3, l4, l5, l6, l7, l8, l9, l10, l11, l12⟩ := hs
  obtain ⟨k1, k2, k3, k4, k5, k6, k7, k8⟩ := h
  have l20 := l2
  obtain ⟨s1, s2, s3, s4, s5, s6, s7⟩ := l2
  have k10 := k1
  obtain ⟨v1, v2, v3, v4⟩ := k1
  refine Sp.of 1 (by decide) rfl rfl (Nat.le_of_ble_eq_true rfl) ?_
  refine z_iload_n dX11_commit_0 rfl ?_
  refine z_callS1i dX11_commit_1 kX11_isTransaction lX11_58 s_isT (Nat.le_of_ble_eq_true rfl) (Nat.le_of_ble_eq_true rfl) ⟨Nat.le_of_ble_eq_true rfl, Nat.le_of_ble_eq_true rfl⟩ ?_
  refine z_if_neB (tgt := 10) dX11_commit_4 (by decide) (fun c_4 => ?_) (fun c_4 => ?_)
  · obtain ⟨k, hk, rfl⟩ := c_4
    have hT := tn_k (k := k) (by omega)
    have q1 := t4_at (a + 1) k (by omega)
    have p1 := s6 k (by omega)
    obtain ⟨p2, p3⟩ := s6 k (by omega)
    have m0 := v3 k (by omega)
    obtain ⟨m1, m2, m3, m4, m5, m6⟩ := v3 k (by omega)
    refine z_aload_n dX11_commit_10 rfl ?_
    refine z_getR dX11_commit_11 fX11_10 (by first | assumption | exact And.left (by assumption)) rfl ?_
    refine z_getR dX11_commit_14 fX11_62 (by first | assumption | exact And.left (by assumption)) rfl ?_
    refine z_iload_n dX11_commit_17 rfl ?_
    refine z_aaldN dX11_commit_18 (by first | assumption | exact And.left (by assumption)) (fun _ => rfl) (by exact Nat.le_of_ble_eq_true rfl) (by assumption) ?_
    refine z_astore_n dX11_commit_19 (Nat.le_of_ble_eq_true rfl) rfl ?_
    refine z_aload_n dX11_commit_20 rfl ?_
    refine z_getIe dX11_commit_21 fX11_66 (by first | assumption | exact And.left (by assumption)) rfl (by first | assumption | exact zup_s _ _ _ _ | rfl) ?_
    refine z_if_neB (tgt := 30) dX11_commit_24 (by decide) (fun c_24 => ?_) (fun c_24 => ?_)
    · refine z_aload_n dX11_commit_30 rfl ?_
      refine z_callV0w dX11_commit_31 kX11_remember lX11_72 (by first | assumption | exact And.left (by assumption)) rfl (s_rem hs0 h0) (Nat.le_of_ble_eq_true rfl) (Nat.le_of_ble_eq_true rfl) ⟨Nat.le_of_ble_eq_true rfl, Nat.le_of_ble_eq_true rfl⟩ ?_
      intro V1 hV1
      obtain ⟨e1, h0⟩ := hV1
      have k10 : ST V1 (a + 1) w.1 := h0.1
      have k11 := k10
      obtain ⟨v1, v2, v3, v4⟩ := k11
      have hR : o_commit (nI k) w = cmt k w := by unfold o_commit; rw [cif_y (rng_k hk), cif_y ((opn_k hk).mpr c_24), hT]
      obtain ⟨l, k80⟩ := h0.2.2.2.2.2.2.2
      have hh := hnd_lt w.1 (tof w k)
      refine z_aload_n dX11_commit_34 rfl ?_
      refine z_aload_n dX11_commit_35 rfl ?_
      refine z_getR dX11_commit_36 fX11_10 (by first | assumption | exact And.left (by assumption)) rfl ?_
      refine z_aload_n dX11_commit_39 rfl ?_
      refine z_aload_n dX11_commit_40 rfl ?_
      refine z_getR dX11_commit_41 fX11_54 (by first | assumption | exact And.left (by assumption)) rfl ?_
      refine z_callV2q dX11_commit_44 kX7_hindrance lX11_111 (by first | assumption | exact And.left (by assumption)) rfl (s_hnd l20 k10 p1 (v3 k (by omega)) l10 k80 (by omega) (by omega)) (Nat.le_of_ble_eq_true rfl) (Nat.le_of_ble_eq_true rfl) ⟨Nat.le_of_ble_eq_true rfl, Nat.le_of_ble_eq_true rfl⟩ ?_
      intro V2 hV2
      have h2 := LI_sc h0 hV2.1 hV2.2
      clear h0
      rw [show w.1.2.2.1 k = tof w k from rfl]
      refine z_putI dX11_commit_47 fX11_115 (by first | assumption | exact And.left (by assumption)) rfl ?_
      have h0 := LI_wy h2 hh
      have e3 : zEq V (zup V2 a 7 (nI (hnd w.1 (tof w k)))) a (a + 471) := e1.trans ((hV2.1.wide (by omega) (by omega)).up (by omega) (by omega))
      have k12 : ST (zup V2 a 7 (nI (hnd w.1 (tof w k)))) (a + 1) w.1 := h0.1
      refine z_aload_n dX11_commit_50 rfl ?_
      refine z_getIe dX11_commit_51 fX11_115 (by first | assumption | exact And.left (by assumption)) rfl (by first | assumption | exact zup_s _ _ _ _ | rfl) ?_
      refine z_if_neN (tgt := 73) dX11_commit_54 (by decide) (by omega) (fun c_54 => ?_) (fun c_54 => ?_)
      · refine z_aload_n dX11_commit_73 rfl ?_
        refine z_getIe dX11_commit_74 fX11_115 (by first | assumption | exact And.left (by assumption)) rfl (by first | assumption | exact zup_s _ _ _ _ | rfl) ?_
        refine z_iconst (v := nI 1) dX11_commit_77 rfl ?_
        refine z_icmp_eqN (tgt := 89) dX11_commit_78 (by decide) (by omega) (by omega) (fun c_78 => ?_) (fun c_78 => ?_)
        · refine z_aload_n dX11_commit_89 rfl ?_
          refine z_callV0w dX11_commit_90 kX9_end lX11_122 (by first | assumption | exact And.left (by assumption)) rfl (s_end p1) (Nat.le_of_ble_eq_true rfl) (Nat.le_of_ble_eq_true rfl) ⟨Nat.le_of_ble_eq_true rfl, Nat.le_of_ble_eq_true rfl⟩ ?_
          intro V3 hV3
          refine z_iconst (v := nI 0) dX11_commit_93 rfl ?_
          refine z_ireturn dX11_commit_94 (Nat.le_of_ble_eq_true rfl) (Nat.le_of_ble_eq_true rfl) rfl ?_
          rw [hR, cmt, if_neg c_54, if_neg c_54]
          first
            | (rw [if_pos (Or.inl c_78)]; exact ⟨rfl, rfl, rfl, e3.trans (hV3.1.wide (by omega) (by omega)), LI_st h0 (hV3.1.wide (by omega) (by omega)) (ST_tr k12 (by omega) hV3.1 hV3.2)⟩)
            | (rw [if_pos (Or.inr c_86)]; exact ⟨rfl, rfl, rfl, e3.trans (hV3.1.wide (by omega) (by omega)), LI_st h0 (hV3.1.wide (by omega) (by omega)) (ST_tr k12 (by omega) hV3.1 hV3.2)⟩)
            | (rw [if_neg (fun q => q.elim c_78 c_86)]; exact ⟨rfl, rfl, rfl, e3, h0⟩)
        · refine z_aload_n dX11_commit_81 rfl ?_
          refine z_getIe dX11_commit_82 fX11_115 (by first | assumption | exact And.left (by assumption)) rfl (by first | assumption | exact zup_s _ _ _ _ | rfl) ?_
          refine z_iconst (v := nI 3) dX11_commit_85 rfl ?_
          refine z_icmp_neN (tgt := 93) dX11_commit_86 (by decide) (by omega) (by omega) (fun c_86 => ?_) (fun c_86 => ?_)
          · refine z_iconst (v := nI 0) dX11_commit_93 rfl ?_
            refine z_ireturn dX11_commit_94 (Nat.le_of_ble_eq_true rfl) (Nat.le_of_ble_eq_true rfl) rfl ?_
            rw [hR, cmt, if_neg c_54, if_neg c_54]
            first
              | (rw [if_pos (Or.inl c_78)]; exact ⟨rfl, rfl, rfl, e3.trans (hV3.1.wide (by omega) (by omega)), LI_st h0 (hV3.1.wide (by omega) (by omega)) (ST_tr k12 (by omega) hV3.1 hV3.2)⟩)
              | (rw [if_pos (Or.inr c_86)]; exact ⟨rfl, rfl, rfl, e3.trans (hV3.1.wide (by omega) (by omega)), LI_st h0 (hV3.1.wide (by omega) (by omega)) (ST_tr k12 (by omega) hV3.1 hV3.2)⟩)
              | (rw [if_neg (fun q => q.elim c_78 c_86)]; exact ⟨rfl, rfl, rfl, e3, h0⟩)
          · refine z_aload_n dX11_commit_89 rfl ?_
            refine z_callV0w dX11_commit_90 kX9_end lX11_122 (by first | assumption | exact And.left (by assumption)) rfl (s_end p1) (Nat.le_of_ble_eq_true rfl) (Nat.le_of_ble_eq_true rfl) ⟨Nat.le_of_ble_eq_true rfl, Nat.le_of_ble_eq_true rfl⟩ ?_
            intro V3 hV3
            refine z_iconst (v := nI 0) dX11_commit_93 rfl ?_
            refine z_ireturn dX11_commit_94 (Nat.le_of_ble_eq_true rfl) (Nat.le_of_ble_eq_true rfl) rfl ?_
            rw [hR, cmt, if_neg c_54, if_neg c_54]
            first
              | (rw [if_pos (Or.inl c_78)]; exact ⟨rfl, rfl, rfl, e3.trans (hV3.1.wide (by omega) (by omega)), LI_st h0 (hV3.1.wide (by omega) (by omega)) (ST_tr k12 (by omega) hV3.1 hV3.2)⟩)
              | (rw [if_pos (Or.inr c_86)]; exact ⟨rfl, rfl, rfl, e3.trans (hV3.1.wide (by omega) (by omega)), LI_st h0 (hV3.1.wide (by omega) (by omega)) (ST_tr k12 (by omega) hV3.1 hV3.2)⟩)
              | (rw [if_neg (fun q => q.elim c_78 c_86)]; exact ⟨rfl, rfl, rfl, e3, h0⟩)
      · refine z_aload_n dX11_commit_57 rfl ?_
        refine z_getR dX11_commit_58 fX11_10 (by first | assumption | exact And.left (by assumption)) rfl ?_
        refine z_aload_n dX11_commit_61 rfl ?_
        refine z_callV1w dX11_commit_62 kX7_settle lX11_118 (by first | assumption | exact And.left (by assumption)) rfl (s_settle l20 k12 hk (by omega) (hnd_full c_54)) (Nat.le_of_ble_eq_true rfl) (Nat.le_of_ble_eq_true rfl) ⟨Nat.le_of_ble_eq_true rfl, Nat.le_of_ble_eq_true rfl⟩ ?_
        intro V3 hV3
        have n3 := hV3.2.1.1
        refine z_aload_n dX11_commit_65 rfl ?_
        refine z_getR dX11_commit_66 fX11_10 (by first | assumption | exact And.left (by assumption)) rfl ?_
        refine z_getIe dX11_commit_69 fX11_75 (by first | assumption | exact And.left (by assumption)) rfl (by first | assumption | exact zup_s _ _ _ _ | rfl) ?_
        refine z_ireturn dX11_commit_72 (Nat.le_of_ble_eq_true rfl) (Nat.le_of_ble_eq_true rfl) rfl ?_
        rw [hR, cmt, if_pos c_54, if_pos c_54]
        exact ⟨rfl, rfl, rfl, e3.trans (hV3.1.wide (by omega) (by omega)), LI_st h0 (hV3.1.wide (by omega) (by omega)) hV3.2⟩
    · refine z_bipush (v := (-5)) dX11_commit_27 rfl ?_
      refine z_ireturn dX11_commit_29 (Nat.le_of_ble_eq_true rfl) (Nat.le_of_ble_eq_true rfl) rfl ?_
      rw [show o_commit (nI k) w = (-5, w) from by unfold o_commit; rw [cif_y (rng_k hk)]; rw [cif_n (fun q => c_24 ((opn_k hk).mp q))]]
      exact ⟨rfl, rfl, rfl, zEq.rf, h0⟩
  · refine z_bipush (v := (-2)) dX11_commit_7 rfl ?_
    refine z_ireturn dX11_commit_9 (Nat.le_of_ble_eq_true rfl) (Nat.le_of_ble_eq_true rfl) rfl ?_
    rw [show o_commit t w = (-2, w) from by unfold o_commit; rw [cif_n c_4]]
    exact ⟨rfl, rfl, rfl, zEq.rf, h0⟩

set_option maxHeartbeats 4000000 in
set_option maxRecDepth 100000 in
theorem c_why {D : zD} {z0 nx : Nat} {L : zL} {V : zV} {a : Nat} {sw : Bool} {w : Wo} (hs : sLI L a sw) (h : LI V a sw w) : Sp D z0 1 0 0 mX11_why [.ref a] L V nx (zq (some (.int (o_why w).1)) L nx (fun V' => zEq V V' a (a + 471) ∧ LI V' a sw (o_why w).2)) := by
  have hs0 := hs
  have h0 := h
  obtain ⟨l1, l2, l3, l4, l5, l6, l7, l8, l9, l10, l11, l12⟩ := hs
  obtain ⟨k1, k2, k3, k4, k5, k6, k7, k8⟩ := h
  have l20 := l2
  obtain ⟨s1, s2, s3, s4, s5, s6, s7⟩ := l2
  have k10 := k1
  obtain ⟨v1, v2, v3, v4⟩ := k1
  refine Sp.of 0 (by decide) rfl rfl (Nat.le_of_ble_eq_true rfl) ?_
  refine z_aload_n dX11_why_0 rfl ?_
  refine z_getIe dX11_why_1 fX11_115 (by first | assumption | exact And.left (by assumption)) rfl k5.1 ?_
  refine z_ireturn dX11_why_4 (Nat.le_of_ble_eq_true rfl) (Nat.le_of_ble_eq_true rfl) rfl ?_
  exact ⟨rfl, rfl, rfl, zEq.rf, h0⟩

set_option maxHeartbeats 4000000 in
set_option maxRecDepth 100000 in
theorem c_roll {D : zD} {z0 nx : Nat} {L : zL} {V : zV} {a : Nat} {sw : Bool} {w : Wo} (hs : sLI L a sw) (h : LI V a sw w) {t : Int32} : Sp D z0 7 0 0 mX11_roll [.ref a, .int t] L V nx (zq (some (.int (o_roll t w).1)) L nx (fun V' => zEq V V' a (a + 471) ∧ LI V' a sw (o_roll t w).2)) := by
  have hs0 := hs
  have h0 := h
  obtain ⟨l1, l2, l3, l4, l5, l6, l7, l8, l9, l10, l11, l12⟩ := hs
  obtain ⟨k1, k2, k3, k4, k5, k6, k7, k8⟩ := h
  have l20 := l2
  obtain ⟨s1, s2, s3, s4, s5, s6, s7⟩ := l2
  have k10 := k1
  obtain ⟨v1, v2, v3, v4⟩ := k1
  refine Sp.of 2 (by decide) rfl rfl (Nat.le_of_ble_eq_true rfl) ?_
  refine z_iload_n dX11_roll_0 rfl ?_
  refine z_callS1i dX11_roll_1 kX11_isTransaction lX11_58 s_isT (Nat.le_of_ble_eq_true rfl) (Nat.le_of_ble_eq_true rfl) ⟨Nat.le_of_ble_eq_true rfl, Nat.le_of_ble_eq_true rfl⟩ ?_
  refine z_if_neB (tgt := 10) dX11_roll_4 (by decide) (fun c_4 => ?_) (fun c_4 => ?_)
  · obtain ⟨k, hk, rfl⟩ := c_4
    have hT := tn_k (k := k) (by omega)
    have q1 := t4_at (a + 1) k (by omega)
    have p1 := s6 k (by omega)
    obtain ⟨p2, p3⟩ := s6 k (by omega)
    have m0 := v3 k (by omega)
    obtain ⟨m1, m2, m3, m4, m5, m6⟩ := v3 k (by omega)
    refine z_aload_n dX11_roll_10 rfl ?_
    refine z_getR dX11_roll_11 fX11_10 (by first | assumption | exact And.left (by assumption)) rfl ?_
    refine z_getR dX11_roll_14 fX11_62 (by first | assumption | exact And.left (by assumption)) rfl ?_
    refine z_iload_n dX11_roll_17 rfl ?_
    refine z_aaldN dX11_roll_18 (by first | assumption | exact And.left (by assumption)) (fun _ => rfl) (by exact Nat.le_of_ble_eq_true rfl) (by assumption) ?_
    refine z_astore_n dX11_roll_19 (Nat.le_of_ble_eq_true rfl) rfl ?_
    refine z_aload_n dX11_roll_20 rfl ?_
    refine z_getIe dX11_roll_21 fX11_66 (by first | assumption | exact And.left (by assumption)) rfl (by first | assumption | exact zup_s _ _ _ _ | rfl) ?_
    refine z_if_neB (tgt := 30) dX11_roll_24 (by decide) (fun c_24 => ?_) (fun c_24 => ?_)
    · refine z_aload_n dX11_roll_30 rfl ?_
      refine z_callV0w dX11_roll_31 kX11_remember lX11_72 (by first | assumption | exact And.left (by assumption)) rfl (s_rem hs0 h0) (Nat.le_of_ble_eq_true rfl) (Nat.le_of_ble_eq_true rfl) ⟨Nat.le_of_ble_eq_true rfl, Nat.le_of_ble_eq_true rfl⟩ ?_
      intro V1 hV1
      obtain ⟨e1, h0⟩ := hV1
      have k10 : ST V1 (a + 1) w.1 := h0.1
      have k11 := k10
      obtain ⟨v1, v2, v3, v4⟩ := k11
      have n2 := (v3 k (by omega)).2.2.1
      refine z_aload_n dX11_roll_34 rfl ?_
      refine z_getIe dX11_roll_35 fX11_105 (by first | assumption | exact And.left (by assumption)) rfl (by first | assumption | exact zup_s _ _ _ _ | rfl) ?_
      refine z_istore_n dX11_roll_38 (Nat.le_of_ble_eq_true rfl) rfl ?_
      refine z_aload_n dX11_roll_39 rfl ?_
      refine z_callV0w dX11_roll_40 kX9_end lX11_122 (by first | assumption | exact And.left (by assumption)) rfl (s_end p1) (Nat.le_of_ble_eq_true rfl) (Nat.le_of_ble_eq_true rfl) ⟨Nat.le_of_ble_eq_true rfl, Nat.le_of_ble_eq_true rfl⟩ ?_
      intro V2 hV2
      refine z_iload_n dX11_roll_43 rfl ?_
      refine z_ireturn dX11_roll_44 (Nat.le_of_ble_eq_true rfl) (Nat.le_of_ble_eq_true rfl) rfl ?_
      rw [show o_roll (nI k) w = (nI (nwr (tof w k)), wst w (setT w.1 k tEnd)) from by unfold o_roll; rw [cif_y (rng_k hk), cif_y ((opn_k hk).mpr c_24), hT]]
      exact ⟨rfl, rfl, rfl, e1.trans (hV2.1.wide (by omega) (by omega)), LI_st h0 (hV2.1.wide (by omega) (by omega)) (ST_tr k10 (by omega) hV2.1 hV2.2)⟩
    · refine z_bipush (v := (-5)) dX11_roll_27 rfl ?_
      refine z_ireturn dX11_roll_29 (Nat.le_of_ble_eq_true rfl) (Nat.le_of_ble_eq_true rfl) rfl ?_
      rw [show o_roll (nI k) w = (-5, w) from by unfold o_roll; rw [cif_y (rng_k hk)]; rw [cif_n (fun q => c_24 ((opn_k hk).mp q))]]
      exact ⟨rfl, rfl, rfl, zEq.rf, h0⟩
  · refine z_bipush (v := (-2)) dX11_roll_7 rfl ?_
    refine z_ireturn dX11_roll_9 (Nat.le_of_ble_eq_true rfl) (Nat.le_of_ble_eq_true rfl) rfl ?_
    rw [show o_roll t w = (-2, w) from by unfold o_roll; rw [cif_n c_4]]
    exact ⟨rfl, rfl, rfl, zEq.rf, h0⟩

theorem sv_lt {V : zV} {a r : Nat} {w : Wo} {t : Int32} (h : ST V a w.1) (ht : t = -1 ∨ rng 4 t) (hr : r < 48) : ∀ p, sv w t r = some p → p < 1000000 := by
  intro p hp
  unfold sv at hp
  by_cases e : t = -1
  · rw [cif_y e] at hp
    exact (h.2.1.lst hr).2 p hp
  · rw [cif_n e] at hp
    obtain ⟨k, hk, rfl⟩ := ht.resolve_left e
    rw [tn_k (by omega)] at hp
    obtain ⟨-, h2, h3, -⟩ := h
    have h6 := (h3 k hk).2.2.2.2.2 r
    unfold seen at hp
    split at hp
    · rename_i x hx
      rw [hp] at hx
      exact h6 p hx
    · exact h2.vat hr _ p hp
theorem s_sv {D : zD} {z0 nx : Nat} {L : zL} {V : zV} {a r : Nat} {w : Wo} {t : Int32} (hs : sSt L a) (h : ST V a w.1) (ht : t = -1 ∨ rng 4 t) (hr : r < 48) : Sp D z0 3 0 0 mX7_valueSeen [.ref a, .int t, .int (nI r)] L V nx (zi (vv (sv w t r)) L V nx) := by
  unfold sv
  by_cases e : t = -1
  · rw [cif_y e, e]
    exact s_seenN hs h hr
  · rw [cif_n e]
    obtain ⟨k, hk, rfl⟩ := ht.resolve_left e
    rw [tn_k (by omega)]
    exact s_seenT hs h hk hr
theorem cvw_v {w : Wo} {t : Int32} (h : cvw w t) : t = -1 ∨ rng 4 t := h.elim Or.inl (fun q => Or.inr q.1)

theorem rng_le {x : Int32} {n : Nat} (hn : n < 900) (h1 : ¬ x < 0) (h2 : x ≤ nI n) : rng (n + 1) x := by
  refine rng_y (n := n + 1) (by omega) h1 (fun q => ?_)
  have := Int32.le_trans q h2
  exact nI_ge (by omega) (by omega) this
theorem rng_gt {x : Int32} {n : Nat} (hn : n < 900) (h2 : ¬ x ≤ nI n) : ¬ rng (n + 1) x := fun ⟨k, hk, e⟩ => h2 (by rw [e]; exact nI_le (by omega) (by omega))

set_option maxHeartbeats 4000000 in
set_option maxRecDepth 100000 in
theorem c_see {D : zD} {z0 nx : Nat} {L : zL} {V : zV} {a : Nat} {sw : Bool} {w : Wo} (hs : sLI L a sw) (h : LI V a sw w) {t : Int32} {r : Int32} {x : Int32} : Sp D z0 4 0 0 mX11_see [.ref a, .int t, .int r, .int x] L V nx (zq (some (.int (o_see t r x w).1)) L nx (fun V' => zEq V V' a (a + 471) ∧ LI V' a sw (o_see t r x w).2)) := by
  have hs0 := hs
  have h0 := h
  obtain ⟨l1, l2, l3, l4, l5, l6, l7, l8, l9, l10, l11, l12⟩ := hs
  obtain ⟨k1, k2, k3, k4, k5, k6, k7, k8⟩ := h
  have l20 := l2
  obtain ⟨s1, s2, s3, s4, s5, s6, s7⟩ := l2
  have k10 := k1
  obtain ⟨v1, v2, v3, v4⟩ := k1
  refine Sp.of 1 (by decide) rfl rfl (Nat.le_of_ble_eq_true rfl) ?_
  refine z_iload_n dX11_see_0 rfl ?_
  refine z_callS1i dX11_see_1 kX11_isViewer lX11_125 s_vwr (Nat.le_of_ble_eq_true rfl) (Nat.le_of_ble_eq_true rfl) ⟨Nat.le_of_ble_eq_true rfl, Nat.le_of_ble_eq_true rfl⟩ ?_
  refine z_if_eqB (tgt := 23) dX11_see_4 (by decide) (fun c_4 => ?_) (fun c_4 => ?_)
  · refine z_bipush (v := (-2)) dX11_see_23 rfl ?_
    refine z_ireturn dX11_see_25 (Nat.le_of_ble_eq_true rfl) (Nat.le_of_ble_eq_true rfl) rfl ?_
    rw [show o_see t r x w = (-2, w) from by unfold o_see; rw [cif_n (fun q => by first | exact c_4 q.1 | exact c_11 q.2.1 | exact rng_n1 (by decide) c_15 q.2.2 | exact rng_gt (by decide) c_20 q.2.2)]]
    exact ⟨rfl, rfl, rfl, zEq.rf, h0⟩
  · refine z_iload_n dX11_see_7 rfl ?_
    refine z_callS1i dX11_see_8 kX11_isRow lX11_86 s_isRow (Nat.le_of_ble_eq_true rfl) (Nat.le_of_ble_eq_true rfl) ⟨Nat.le_of_ble_eq_true rfl, Nat.le_of_ble_eq_true rfl⟩ ?_
    refine z_if_eqB (tgt := 23) dX11_see_11 (by decide) (fun c_11 => ?_) (fun c_11 => ?_)
    · refine z_bipush (v := (-2)) dX11_see_23 rfl ?_
      refine z_ireturn dX11_see_25 (Nat.le_of_ble_eq_true rfl) (Nat.le_of_ble_eq_true rfl) rfl ?_
      rw [show o_see t r x w = (-2, w) from by unfold o_see; rw [cif_n (fun q => by first | exact c_4 q.1 | exact c_11 q.2.1 | exact rng_n1 (by decide) c_15 q.2.2 | exact rng_gt (by decide) c_20 q.2.2)]]
      exact ⟨rfl, rfl, rfl, zEq.rf, h0⟩
    · refine z_iload_n dX11_see_14 rfl ?_
      refine z_if_lt (tgt := 23) dX11_see_15 (by decide) (fun c_15 => ?_) (fun c_15 => ?_)
      · refine z_bipush (v := (-2)) dX11_see_23 rfl ?_
        refine z_ireturn dX11_see_25 (Nat.le_of_ble_eq_true rfl) (Nat.le_of_ble_eq_true rfl) rfl ?_
        rw [show o_see t r x w = (-2, w) from by unfold o_see; rw [cif_n (fun q => by first | exact c_4 q.1 | exact c_11 q.2.1 | exact rng_n1 (by decide) c_15 q.2.2 | exact rng_gt (by decide) c_20 q.2.2)]]
        exact ⟨rfl, rfl, rfl, zEq.rf, h0⟩
      · refine z_iload_n dX11_see_18 rfl ?_
        refine z_iconst (v := nI 3) dX11_see_19 rfl ?_
        refine z_icmp_le (tgt := 26) dX11_see_20 (by decide) (fun c_20 => ?_) (fun c_20 => ?_)
        · have c_x : rng 4 x := rng_le (n := 3) (by decide) c_15 c_20
          refine z_aload_n dX11_see_26 rfl ?_
          refine z_iload_n dX11_see_27 rfl ?_
          refine z_callV1i dX11_see_28 kX11_canView lX11_128 (by first | assumption | exact And.left (by assumption)) rfl (s_cvw hs0 h0) (Nat.le_of_ble_eq_true rfl) (Nat.le_of_ble_eq_true rfl) ⟨Nat.le_of_ble_eq_true rfl, Nat.le_of_ble_eq_true rfl⟩ ?_
          refine z_if_neB (tgt := 37) dX11_see_31 (by decide) (fun c_31 => ?_) (fun c_31 => ?_)
          · have hR : o_see t r x w = (seev (sv w t (tn r)) (tn x), w) := by unfold o_see; rw [cif_y ⟨c_4, c_11, c_x⟩, cif_y c_31]
            obtain ⟨j, hj, rfl⟩ := c_11
            obtain ⟨x0, hx0, rfl⟩ := c_x
            rw [tn_k (k := j) (by omega), tn_k (k := x0) (by omega)] at hR
            have hvl := sv_lt (r := j) k10 (cvw_v c_31) hj
            refine z_aload_n dX11_see_37 rfl ?_
            refine z_getR dX11_see_38 fX11_10 (by first | assumption | exact And.left (by assumption)) rfl ?_
            refine z_iload_n dX11_see_41 rfl ?_
            refine z_iload_n dX11_see_42 rfl ?_
            refine z_callV2i dX11_see_43 kX7_valueSeen lX11_108 (by first | assumption | exact And.left (by assumption)) rfl (s_sv l20 k10 (cvw_v c_31) hj) (Nat.le_of_ble_eq_true rfl) (Nat.le_of_ble_eq_true rfl) ⟨Nat.le_of_ble_eq_true rfl, Nat.le_of_ble_eq_true rfl⟩ ?_
            refine z_istore dX11_see_46 (Nat.le_of_ble_eq_true rfl) rfl ?_
            refine z_iload_n dX11_see_48 rfl ?_
            refine z_if_neN (tgt := 64) dX11_see_49 (by decide) (by omega) (fun c_49 => ?_) (fun c_49 => ?_)
            · refine z_iload dX11_see_64 rfl ?_
              refine z_iconst (v := (-1)) dX11_see_66 rfl ?_
              refine z_icmp_ne (tgt := 74) dX11_see_67 (by decide) (fun c_67 => ?_) (fun c_67 => ?_)
              · have hsn : ¬ sv w t j = none := fun q => c_67 (by rw [q] <;> rfl)
                obtain ⟨p, hp⟩ := Option.ne_none_iff_exists'.mp hsn
                have hp9 := hvl p hp
                rw [hp, show vv (some p) = nI p from rfl]
                refine z_iload dX11_see_74 rfl ?_
                refine z_iload_n dX11_see_76 rfl ?_
                refine z_iconst (v := nI 1) dX11_see_77 rfl ?_
                refine z_subN dX11_see_78 (by omega) ?_
                refine z_callS2i dX11_see_79 kX11_partOf lX11_131 (s_partOf hp9 (by omega)) (Nat.le_of_ble_eq_true rfl) (Nat.le_of_ble_eq_true rfl) ⟨Nat.le_of_ble_eq_true rfl, Nat.le_of_ble_eq_true rfl⟩ ?_
                refine z_ireturn dX11_see_82 (Nat.le_of_ble_eq_true rfl) (Nat.le_of_ble_eq_true rfl) rfl ?_
                rw [hR]
                refine ⟨?_, rfl, rfl, zEq.rf, h0⟩
                first
                  | (rw [hsn, seev, if_neg c_49])
                  | (rw [hp, seev, if_neg c_49])
              · have hsn : sv w t j = none := (vv_m1' (fun p hp => by have := hvl p hp; omega)).mp c_67
                refine z_iconst (v := (-1)) dX11_see_70 rfl ?_
                refine z_goto (tgt := 82) dX11_see_71 (by decide) ?_
                refine z_ireturn dX11_see_82 (Nat.le_of_ble_eq_true rfl) (Nat.le_of_ble_eq_true rfl) rfl ?_
                rw [hR]
                refine ⟨?_, rfl, rfl, zEq.rf, h0⟩
                first
                  | (rw [hsn, seev, if_neg c_49])
                  | (rw [hp, seev, if_neg c_49])
            · refine z_iload dX11_see_52 rfl ?_
              refine z_iconst (v := (-1)) dX11_see_54 rfl ?_
              refine z_icmp_ne (tgt := 62) dX11_see_55 (by decide) (fun c_55 => ?_) (fun c_55 => ?_)
              · have hsn : ¬ sv w t j = none := fun q => c_55 (by rw [q] <;> rfl)
                refine z_iconst (v := nI 1) dX11_see_62 rfl ?_
                refine z_ireturn dX11_see_63 (Nat.le_of_ble_eq_true rfl) (Nat.le_of_ble_eq_true rfl) rfl ?_
                rw [hR]
                subst c_49
                refine ⟨?_, rfl, rfl, zEq.rf, h0⟩
                first
                  | (rw [hsn] <;> rfl)
                  | (obtain ⟨p, hp⟩ := Option.ne_none_iff_exists'.mp hsn; rw [hp] <;> rfl)
              · have hsn : sv w t j = none := (vv_m1' (fun p hp => by have := hvl p hp; omega)).mp c_55
                refine z_iconst (v := nI 0) dX11_see_58 rfl ?_
                refine z_goto (tgt := 63) dX11_see_59 (by decide) ?_
                refine z_ireturn dX11_see_63 (Nat.le_of_ble_eq_true rfl) (Nat.le_of_ble_eq_true rfl) rfl ?_
                rw [hR]
                subst c_49
                refine ⟨?_, rfl, rfl, zEq.rf, h0⟩
                first
                  | (rw [hsn] <;> rfl)
                  | (obtain ⟨p, hp⟩ := Option.ne_none_iff_exists'.mp hsn; rw [hp] <;> rfl)
          · refine z_bipush (v := (-5)) dX11_see_34 rfl ?_
            refine z_ireturn dX11_see_36 (Nat.le_of_ble_eq_true rfl) (Nat.le_of_ble_eq_true rfl) rfl ?_
            rw [show o_see t r x w = (-5, w) from by unfold o_see; rw [cif_y ⟨c_4, c_11, c_x⟩]; rw [cif_n c_31]]
            exact ⟨rfl, rfl, rfl, zEq.rf, h0⟩
        · refine z_bipush (v := (-2)) dX11_see_23 rfl ?_
          refine z_ireturn dX11_see_25 (Nat.le_of_ble_eq_true rfl) (Nat.le_of_ble_eq_true rfl) rfl ?_
          rw [show o_see t r x w = (-2, w) from by unfold o_see; rw [cif_n (fun q => by first | exact c_4 q.1 | exact c_11 q.2.1 | exact rng_n1 (by decide) c_15 q.2.2 | exact rng_gt (by decide) c_20 q.2.2)]]
          exact ⟨rfl, rfl, rfl, zEq.rf, h0⟩

set_option maxHeartbeats 4000000 in
set_option maxRecDepth 100000 in
theorem c_sweep {D : zD} {z0 nx : Nat} {L : zL} {V : zV} {a : Nat} {sw : Bool} {w : Wo} (hs : sLI L a sw) (h : LI V a sw w) (hkl : ∀ r, r < 48 → 1 ≤ (kl (kp (w.1.2.1 r) (isn w.1 2)) (w.1.2.1 r).length).length) : Sp D z0 7 0 0 mX11_sweep [.ref a] L V nx (zq (some (.int (o_sweep w).1)) L nx (fun V' => zEq V V' a (a + 471) ∧ LI V' a sw (o_sweep w).2)) := by
  have hs0 := hs
  have h0 := h
  obtain ⟨l1, l2, l3, l4, l5, l6, l7, l8, l9, l10, l11, l12⟩ := hs
  obtain ⟨k1, k2, k3, k4, k5, k6, k7, k8⟩ := h
  have l20 := l2
  obtain ⟨s1, s2, s3, s4, s5, s6, s7⟩ := l2
  have k10 := k1
  obtain ⟨v1, v2, v3, v4⟩ := k1
  refine Sp.of 0 (by decide) rfl rfl (Nat.le_of_ble_eq_true rfl) ?_
  refine z_aload_n dX11_sweep_0 rfl ?_
  refine z_callV0w dX11_sweep_1 kX11_remember lX11_72 (by first | assumption | exact And.left (by assumption)) rfl (s_rem hs0 h0) (Nat.le_of_ble_eq_true rfl) (Nat.le_of_ble_eq_true rfl) ⟨Nat.le_of_ble_eq_true rfl, Nat.le_of_ble_eq_true rfl⟩ ?_
  intro V1 hV1
  obtain ⟨e1, h0⟩ := hV1
  have k10 : ST V1 (a + 1) w.1 := h0.1
  have k11 := k10
  obtain ⟨v1, v2, v3, v4⟩ := k11
  refine z_aload_n dX11_sweep_4 rfl ?_
  refine z_getR dX11_sweep_5 fX11_10 (by first | assumption | exact And.left (by assumption)) rfl ?_
  refine z_callV0q dX11_sweep_8 kX7_sweepVersions lX11_134 (by first | assumption | exact And.left (by assumption)) rfl (s_sweepV l20 k10 hkl) (Nat.le_of_ble_eq_true rfl) (Nat.le_of_ble_eq_true rfl) ⟨Nat.le_of_ble_eq_true rfl, Nat.le_of_ble_eq_true rfl⟩ ?_
  intro V2 hV2
  refine z_ireturn dX11_sweep_11 (Nat.le_of_ble_eq_true rfl) (Nat.le_of_ble_eq_true rfl) rfl ?_
  exact ⟨rfl, rfl, rfl, e1.trans (hV2.1.wide (by omega) (by omega)), LI_st h0 (hV2.1.wide (by omega) (by omega)) hV2.2⟩

