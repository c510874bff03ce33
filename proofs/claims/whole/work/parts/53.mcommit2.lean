/-! the reference: commit -/
theorem hn_0 {w : Wo} {k : Nat} (h : nwr (tof w k) = 0) : hnd w.1 (tof w k) = 0 := if_pos h
theorem hn_2 {w : Wo} {k : Nat} (h : ¬ nwr (tof w k) = 0) (h1 : ∃ i, i < 2 ∧ (w.1.2.2.2 i).1.1 = 3) : hnd w.1 (tof w k) = 2 := by
  unfold hnd
  rw [if_neg (show ¬ cn (fun r => (tof w k).2.2 r ≠ none) 48 = 0 from h), if_pos h1]
theorem hn_1 {w : Wo} {k : Nat} (h : ¬ nwr (tof w k) = 0) (h1 : ¬ ∃ i, i < 2 ∧ (w.1.2.2.2 i).1.1 = 3) (h2 : ∃ i, i < 48 ∧ ((tof w k).2.2 i ≠ none ∧ (tof w k).2.1 < (lst w.1.2.1 i).1)) : hnd w.1 (tof w k) = 1 := by
  unfold hnd
  rw [if_neg (show ¬ cn (fun r => (tof w k).2.2 r ≠ none) 48 = 0 from h), if_neg h1, if_pos h2]
theorem hn_4 {w : Wo} {k : Nat} (h : ¬ nwr (tof w k) = 0) (h1 : ¬ ∃ i, i < 2 ∧ (w.1.2.2.2 i).1.1 = 3) (h2 : ¬ ∃ i, i < 48 ∧ ((tof w k).2.2 i ≠ none ∧ (tof w k).2.1 < (lst w.1.2.1 i).1)) (h3 : ∃ i, i < 48 ∧ ((tof w k).2.2 i ≠ none ∧ 8 ≤ (w.1.2.1 i).length)) : hnd w.1 (tof w k) = 4 := by
  unfold hnd
  rw [if_neg (show ¬ cn (fun r => (tof w k).2.2 r ≠ none) 48 = 0 from h), if_neg h1, if_neg h2, if_pos h3]
theorem hn_3 {w : Wo} {k : Nat} (h : ¬ nwr (tof w k) = 0) (h1 : ¬ ∃ i, i < 2 ∧ (w.1.2.2.2 i).1.1 = 3) (h2 : ¬ ∃ i, i < 48 ∧ ((tof w k).2.2 i ≠ none ∧ (tof w k).2.1 < (lst w.1.2.1 i).1)) (h3 : ¬ ∃ i, i < 48 ∧ ((tof w k).2.2 i ≠ none ∧ 8 ≤ (w.1.2.1 i).length)) (h4 : ∃ i, i < 2 ∧ mkA w.1 (tof w k).2.2 i) : hnd w.1 (tof w k) = 3 := by
  unfold hnd
  rw [if_neg (show ¬ cn (fun r => (tof w k).2.2 r ≠ none) 48 = 0 from h), if_neg h1, if_neg h2, if_neg h3, if_pos h4]
theorem hn_5 {w : Wo} {k : Nat} (h : ¬ nwr (tof w k) = 0) (h1 : ¬ ∃ i, i < 2 ∧ (w.1.2.2.2 i).1.1 = 3) (h2 : ¬ ∃ i, i < 48 ∧ ((tof w k).2.2 i ≠ none ∧ (tof w k).2.1 < (lst w.1.2.1 i).1)) (h3 : ¬ ∃ i, i < 48 ∧ ((tof w k).2.2 i ≠ none ∧ 8 ≤ (w.1.2.1 i).length)) (h4 : ¬ ∃ i, i < 2 ∧ mkA w.1 (tof w k).2.2 i) : hnd w.1 (tof w k) = 0 := by
  unfold hnd
  rw [if_neg (show ¬ cn (fun r => (tof w k).2.2 r ≠ none) 48 = 0 from h), if_neg h1, if_neg h2, if_neg h3, if_neg h4]
theorem stl_0 {w : Wo} {k : Nat} (h : nwr (tof w k) = 0) : stl w.1 k = setT w.1 k tEnd := if_pos h
theorem stl_1 {w : Wo} {k : Nat} (h : ¬ nwr (tof w k) = 0) : stl w.1 k = ((w.1.1.1 + 1, w.1.1.2), vset w.1.2.1 (tof w k).2.2 (w.1.1.1 + 1) 48, up1 w.1.2.2.1 k tEnd, folI w.1 (tof w k).2.2 2) := if_neg h
theorem cmt_0 {w : Wo} {k : Nat} (h : hnd w.1 (tof w k) = 0) : cmt k w = (nI (stl w.1 k).1.1, setY (wst w (stl w.1 k)) 0) := by
  unfold cmt
  rw [h, if_pos rfl, if_pos rfl]

set_option maxHeartbeats 4000000 in
set_option maxRecDepth 100000 in
theorem m_comO {D : zD} {z0 nx : Nat} {L : zL} {V : zV} {m k b h : Nat} {w : Wo} {V2 : zV} (hm : sM L m) (e3 : zEq V V2 m (m + 16)) (h2 : MW V2 m (wrem w)) (hk : k < 4) (hb : b < 2) (hbw : b = 1 ↔ ¬ nwr (tof w k) = 0) (hh : hnd w.1 (tof w k) = h) (hq : w.1.1.1 < 899999) (hcap : ∀ i, i < 2 → ∀ r, r < 48 → ∀ u, (tof w k).2.2 r = some u → (xFol w.1.2.1 (tof w k).2.2 (w.1.2.2.2 i) r).1.1 = 4 → ∀ c, eo (xFol w.1.2.1 (tof w k).2.2 (w.1.2.2.2 i) r).2.1 u r = some c → ¬ eo (xFol w.1.2.1 (tof w k).2.2 (w.1.2.2.2 i) r).2.1 (lst w.1.2.1 r).2 r = eo (xFol w.1.2.1 (tof w k).2.2 (w.1.2.2.2 i) r).2.1 u r → cap c (xKO (eo (xFol w.1.2.1 (tof w k).2.2 (w.1.2.2.2 i) r).2.1 (lst w.1.2.1 r).2 r) False (xFol w.1.2.1 (tof w k).2.2 (w.1.2.2.2 i) r)).2.2.1) (ho : h = 1 ∨ h = 3) : Z D z0 9 0 0 mX12_commit 0 0 112 [some (.ref m), some (.int (nI k)), some (.int (nI b))] [.int (nI h), .ref m] L V2 nx (zq (some (.int (cmt k w).1)) L nx (fun V' => zEq V V' m (m + 16) ∧ MW V' m (cmt k w).2)) := by
  have hm0 := hm
  obtain ⟨a0, a1, a2, a3, a4, a5, a6, a7, a8, a9, a10, a11, a12, a13, a14, a15⟩ := hm
  refine z_putI dX12_commit_112 fX12_191 (by first | assumption | exact And.left (by assumption)) rfl ?_
  have hh5 : h < 5 := by rw [← hh]; exact hnd_lt _ _
  have h9 := MW_why (k := h) h2 hh5
  have e9 : zEq V (zup V2 m 6 (nI h)) m (m + 16) := e3.up (by omega) (by omega)
  have k1 : MB (zup V2 m 6 (nI h) (m + 1)) w.1 := h9.1
  refine z_aload_n dX12_commit_115 rfl ?_
  refine z_getIe dX12_commit_116 fX12_191 (by first | assumption | exact And.left (by assumption)) rfl (by first | exact zup_s _ _ _ _ | exact (congrFun (hV4.1.1 m (by omega) (by omega) (by omega) (by omega) (by omega) (by omega) (by omega)) 6).trans (zup_s _ _ _ _) | exact (congrFun (hV5.1.1 m (by omega) (by omega) (by omega) (by omega) (by omega) (by omega) (by omega)) 6).trans (zup_s _ _ _ _) | exact (congrFun (hV5.1.1 m (by omega) (by omega) (by omega) (by omega) (by omega) (by omega) (by omega)) 6).trans ((congrFun (hV4.1.1 m (by omega) (by omega) (by omega) (by omega) (by omega) (by omega) (by omega)) 6).trans (zup_s _ _ _ _))) ?_
  refine z_if_neN (tgt := 131) dX12_commit_119 (by decide) (by omega) (fun c_119 => ?_) (fun c_119 => ?_)
  · refine z_aload_n dX12_commit_131 rfl ?_
    refine z_getIe dX12_commit_132 fX12_191 (by first | assumption | exact And.left (by assumption)) rfl (by first | exact zup_s _ _ _ _ | exact (congrFun (hV4.1.1 m (by omega) (by omega) (by omega) (by omega) (by omega) (by omega) (by omega)) 6).trans (zup_s _ _ _ _) | exact (congrFun (hV5.1.1 m (by omega) (by omega) (by omega) (by omega) (by omega) (by omega) (by omega)) 6).trans (zup_s _ _ _ _) | exact (congrFun (hV5.1.1 m (by omega) (by omega) (by omega) (by omega) (by omega) (by omega) (by omega)) 6).trans ((congrFun (hV4.1.1 m (by omega) (by omega) (by omega) (by omega) (by omega) (by omega) (by omega)) 6).trans (zup_s _ _ _ _))) ?_
    refine z_iconst (v := nI 2) dX12_commit_135 rfl ?_
    refine z_remN dX12_commit_136 (by omega) (by omega) (by omega) ?_
    refine z_iconst (v := nI 1) dX12_commit_137 rfl ?_
    refine z_icmp_eqN (tgt := 148) dX12_commit_138 (by decide) (by omega) (by omega) (fun c_138 => ?_) (fun c_138 => ?_)
    · refine z_aload_n dX12_commit_148 rfl ?_
      refine z_iload_n dX12_commit_149 rfl ?_
      refine z_callV1w dX12_commit_150 kX12_ends lX12_198 (by first | assumption | exact And.left (by assumption)) rfl (s_mEnds hm0 k1 hk) (Nat.le_of_ble_eq_true rfl) (Nat.le_of_ble_eq_true rfl) ⟨Nat.le_of_ble_eq_true rfl, Nat.le_of_ble_eq_true rfl⟩ ?_
      intro V5 hV5
      refine z_aload_n dX12_commit_153 rfl ?_
      refine z_getIe dX12_commit_154 fX12_191 (by first | assumption | exact And.left (by assumption)) rfl (by first | exact zup_s _ _ _ _ | exact (congrFun (hV4.1.1 m (by omega) (by omega) (by omega) (by omega) (by omega) (by omega) (by omega)) 6).trans (zup_s _ _ _ _) | exact (congrFun (hV5.1.1 m (by omega) (by omega) (by omega) (by omega) (by omega) (by omega) (by omega)) 6).trans (zup_s _ _ _ _) | exact (congrFun (hV5.1.1 m (by omega) (by omega) (by omega) (by omega) (by omega) (by omega) (by omega)) 6).trans ((congrFun (hV4.1.1 m (by omega) (by omega) (by omega) (by omega) (by omega) (by omega) (by omega)) 6).trans (zup_s _ _ _ _))) ?_
      refine z_if_neN (tgt := 171) dX12_commit_157 (by decide) (by omega) (fun c_157 => ?_) (fun c_157 => ?_)
      · refine z_iconst (v := nI 0) dX12_commit_171 rfl ?_
        refine z_ireturn dX12_commit_172 (Nat.le_of_ble_eq_true rfl) (Nat.le_of_ble_eq_true rfl) rfl ?_
        rw [show cmt k w = (0, setY (wst w (setT w.1 k tEnd)) h) from by unfold cmt; rw [hh, if_neg (by omega), if_neg (by omega), if_pos ho]]
        exact ⟨rfl, rfl, rfl, e9.trans hV5.1.zeq, MW_all h9 hV5.1 hV5.2⟩
      · exact absurd c_157 (by omega)
    · exact absurd c_138 (by omega)
  · exact absurd c_119 (by omega)

set_option maxHeartbeats 4000000 in
set_option maxRecDepth 100000 in
theorem m_comE {D : zD} {z0 nx : Nat} {L : zL} {V : zV} {m k b h : Nat} {w : Wo} {V2 : zV} (hm : sM L m) (e3 : zEq V V2 m (m + 16)) (h2 : MW V2 m (wrem w)) (hk : k < 4) (hb : b < 2) (hbw : b = 1 ↔ ¬ nwr (tof w k) = 0) (hh : hnd w.1 (tof w k) = h) (hq : w.1.1.1 < 899999) (hcap : ∀ i, i < 2 → ∀ r, r < 48 → ∀ u, (tof w k).2.2 r = some u → (xFol w.1.2.1 (tof w k).2.2 (w.1.2.2.2 i) r).1.1 = 4 → ∀ c, eo (xFol w.1.2.1 (tof w k).2.2 (w.1.2.2.2 i) r).2.1 u r = some c → ¬ eo (xFol w.1.2.1 (tof w k).2.2 (w.1.2.2.2 i) r).2.1 (lst w.1.2.1 r).2 r = eo (xFol w.1.2.1 (tof w k).2.2 (w.1.2.2.2 i) r).2.1 u r → cap c (xKO (eo (xFol w.1.2.1 (tof w k).2.2 (w.1.2.2.2 i) r).2.1 (lst w.1.2.1 r).2 r) False (xFol w.1.2.1 (tof w k).2.2 (w.1.2.2.2 i) r)).2.2.1) (ho : h = 2 ∨ h = 4) : Z D z0 9 0 0 mX12_commit 0 0 112 [some (.ref m), some (.int (nI k)), some (.int (nI b))] [.int (nI h), .ref m] L V2 nx (zq (some (.int (cmt k w).1)) L nx (fun V' => zEq V V' m (m + 16) ∧ MW V' m (cmt k w).2)) := by
  have hm0 := hm
  obtain ⟨a0, a1, a2, a3, a4, a5, a6, a7, a8, a9, a10, a11, a12, a13, a14, a15⟩ := hm
  refine z_putI dX12_commit_112 fX12_191 (by first | assumption | exact And.left (by assumption)) rfl ?_
  have hh5 : h < 5 := by rw [← hh]; exact hnd_lt _ _
  have h9 := MW_why (k := h) h2 hh5
  have e9 : zEq V (zup V2 m 6 (nI h)) m (m + 16) := e3.up (by omega) (by omega)
  have k1 : MB (zup V2 m 6 (nI h) (m + 1)) w.1 := h9.1
  refine z_aload_n dX12_commit_115 rfl ?_
  refine z_getIe dX12_commit_116 fX12_191 (by first | assumption | exact And.left (by assumption)) rfl (by first | exact zup_s _ _ _ _ | exact (congrFun (hV4.1.1 m (by omega) (by omega) (by omega) (by omega) (by omega) (by omega) (by omega)) 6).trans (zup_s _ _ _ _) | exact (congrFun (hV5.1.1 m (by omega) (by omega) (by omega) (by omega) (by omega) (by omega) (by omega)) 6).trans (zup_s _ _ _ _) | exact (congrFun (hV5.1.1 m (by omega) (by omega) (by omega) (by omega) (by omega) (by omega) (by omega)) 6).trans ((congrFun (hV4.1.1 m (by omega) (by omega) (by omega) (by omega) (by omega) (by omega) (by omega)) 6).trans (zup_s _ _ _ _))) ?_
  refine z_if_neN (tgt := 131) dX12_commit_119 (by decide) (by omega) (fun c_119 => ?_) (fun c_119 => ?_)
  · refine z_aload_n dX12_commit_131 rfl ?_
    refine z_getIe dX12_commit_132 fX12_191 (by first | assumption | exact And.left (by assumption)) rfl (by first | exact zup_s _ _ _ _ | exact (congrFun (hV4.1.1 m (by omega) (by omega) (by omega) (by omega) (by omega) (by omega) (by omega)) 6).trans (zup_s _ _ _ _) | exact (congrFun (hV5.1.1 m (by omega) (by omega) (by omega) (by omega) (by omega) (by omega) (by omega)) 6).trans (zup_s _ _ _ _) | exact (congrFun (hV5.1.1 m (by omega) (by omega) (by omega) (by omega) (by omega) (by omega) (by omega)) 6).trans ((congrFun (hV4.1.1 m (by omega) (by omega) (by omega) (by omega) (by omega) (by omega) (by omega)) 6).trans (zup_s _ _ _ _))) ?_
    refine z_iconst (v := nI 2) dX12_commit_135 rfl ?_
    refine z_remN dX12_commit_136 (by omega) (by omega) (by omega) ?_
    refine z_iconst (v := nI 1) dX12_commit_137 rfl ?_
    refine z_icmp_eqN (tgt := 148) dX12_commit_138 (by decide) (by omega) (by omega) (fun c_138 => ?_) (fun c_138 => ?_)
    · exact absurd c_138 (by omega)
    · refine z_aload_n dX12_commit_141 rfl ?_
      refine z_getIe dX12_commit_142 fX12_191 (by first | assumption | exact And.left (by assumption)) rfl (by first | exact zup_s _ _ _ _ | exact (congrFun (hV4.1.1 m (by omega) (by omega) (by omega) (by omega) (by omega) (by omega) (by omega)) 6).trans (zup_s _ _ _ _) | exact (congrFun (hV5.1.1 m (by omega) (by omega) (by omega) (by omega) (by omega) (by omega) (by omega)) 6).trans (zup_s _ _ _ _) | exact (congrFun (hV5.1.1 m (by omega) (by omega) (by omega) (by omega) (by omega) (by omega) (by omega)) 6).trans ((congrFun (hV4.1.1 m (by omega) (by omega) (by omega) (by omega) (by omega) (by omega) (by omega)) 6).trans (zup_s _ _ _ _))) ?_
      refine z_if_neN (tgt := 153) dX12_commit_145 (by decide) (by omega) (fun c_145 => ?_) (fun c_145 => ?_)
      · refine z_aload_n dX12_commit_153 rfl ?_
        refine z_getIe dX12_commit_154 fX12_191 (by first | assumption | exact And.left (by assumption)) rfl (by first | exact zup_s _ _ _ _ | exact (congrFun (hV4.1.1 m (by omega) (by omega) (by omega) (by omega) (by omega) (by omega) (by omega)) 6).trans (zup_s _ _ _ _) | exact (congrFun (hV5.1.1 m (by omega) (by omega) (by omega) (by omega) (by omega) (by omega) (by omega)) 6).trans (zup_s _ _ _ _) | exact (congrFun (hV5.1.1 m (by omega) (by omega) (by omega) (by omega) (by omega) (by omega) (by omega)) 6).trans ((congrFun (hV4.1.1 m (by omega) (by omega) (by omega) (by omega) (by omega) (by omega) (by omega)) 6).trans (zup_s _ _ _ _))) ?_
        refine z_if_neN (tgt := 171) dX12_commit_157 (by decide) (by omega) (fun c_157 => ?_) (fun c_157 => ?_)
        · refine z_iconst (v := nI 0) dX12_commit_171 rfl ?_
          refine z_ireturn dX12_commit_172 (Nat.le_of_ble_eq_true rfl) (Nat.le_of_ble_eq_true rfl) rfl ?_
          rw [show cmt k w = (0, setY (wst w w.1) h) from by unfold cmt; rw [hh, if_neg (by omega), if_neg (by omega), if_neg (by omega)]]
          exact ⟨rfl, rfl, rfl, e9, h9⟩
        · exact absurd c_157 (by omega)
      · exact absurd c_145 (by omega)
  · exact absurd c_119 (by omega)

set_option maxHeartbeats 4000000 in
set_option maxRecDepth 100000 in
theorem m_comZ {D : zD} {z0 nx : Nat} {L : zL} {V : zV} {m k b h : Nat} {w : Wo} {V2 : zV} (hm : sM L m) (e3 : zEq V V2 m (m + 16)) (h2 : MW V2 m (wrem w)) (hk : k < 4) (hb : b < 2) (hbw : b = 1 ↔ ¬ nwr (tof w k) = 0) (hh : hnd w.1 (tof w k) = h) (hq : w.1.1.1 < 899999) (hcap : ∀ i, i < 2 → ∀ r, r < 48 → ∀ u, (tof w k).2.2 r = some u → (xFol w.1.2.1 (tof w k).2.2 (w.1.2.2.2 i) r).1.1 = 4 → ∀ c, eo (xFol w.1.2.1 (tof w k).2.2 (w.1.2.2.2 i) r).2.1 u r = some c → ¬ eo (xFol w.1.2.1 (tof w k).2.2 (w.1.2.2.2 i) r).2.1 (lst w.1.2.1 r).2 r = eo (xFol w.1.2.1 (tof w k).2.2 (w.1.2.2.2 i) r).2.1 u r → cap c (xKO (eo (xFol w.1.2.1 (tof w k).2.2 (w.1.2.2.2 i) r).2.1 (lst w.1.2.1 r).2 r) False (xFol w.1.2.1 (tof w k).2.2 (w.1.2.2.2 i) r)).2.2.1) (hz : h = 0) : Z D z0 9 0 0 mX12_commit 0 0 112 [some (.ref m), some (.int (nI k)), some (.int (nI b))] [.int (nI h), .ref m] L V2 nx (zq (some (.int (cmt k w).1)) L nx (fun V' => zEq V V' m (m + 16) ∧ MW V' m (cmt k w).2)) := by
  have hm0 := hm
  obtain ⟨a0, a1, a2, a3, a4, a5, a6, a7, a8, a9, a10, a11, a12, a13, a14, a15⟩ := hm
  refine z_putI dX12_commit_112 fX12_191 (by first | assumption | exact And.left (by assumption)) rfl ?_
  have hh5 : h < 5 := by rw [← hh]; exact hnd_lt _ _
  have h9 := MW_why (k := h) h2 hh5
  have e9 : zEq V (zup V2 m 6 (nI h)) m (m + 16) := e3.up (by omega) (by omega)
  have k1 : MB (zup V2 m 6 (nI h) (m + 1)) w.1 := h9.1
  refine z_aload_n dX12_commit_115 rfl ?_
  refine z_getIe dX12_commit_116 fX12_191 (by first | assumption | exact And.left (by assumption)) rfl (by first | exact zup_s _ _ _ _ | exact (congrFun (hV4.1.1 m (by omega) (by omega) (by omega) (by omega) (by omega) (by omega) (by omega)) 6).trans (zup_s _ _ _ _) | exact (congrFun (hV5.1.1 m (by omega) (by omega) (by omega) (by omega) (by omega) (by omega) (by omega)) 6).trans (zup_s _ _ _ _) | exact (congrFun (hV5.1.1 m (by omega) (by omega) (by omega) (by omega) (by omega) (by omega) (by omega)) 6).trans ((congrFun (hV4.1.1 m (by omega) (by omega) (by omega) (by omega) (by omega) (by omega) (by omega)) 6).trans (zup_s _ _ _ _))) ?_
  refine z_if_neN (tgt := 131) dX12_commit_119 (by decide) (by omega) (fun c_119 => ?_) (fun c_119 => ?_)
  · exact absurd c_119 (by omega)
  · refine z_iload_n dX12_commit_122 rfl ?_
    refine z_if_eqN (tgt := 131) dX12_commit_123 (by decide) (by omega) (fun c_123 => ?_) (fun c_123 => ?_)
    · have hb0 : ¬ b = 1 := by omega
      have hn0 : nwr (tof w k) = 0 := Classical.byContradiction (fun z => hb0 (hbw.mpr z))
      refine z_aload_n dX12_commit_131 rfl ?_
      refine z_getIe dX12_commit_132 fX12_191 (by first | assumption | exact And.left (by assumption)) rfl (by first | exact zup_s _ _ _ _ | exact (congrFun (hV4.1.1 m (by omega) (by omega) (by omega) (by omega) (by omega) (by omega) (by omega)) 6).trans (zup_s _ _ _ _) | exact (congrFun (hV5.1.1 m (by omega) (by omega) (by omega) (by omega) (by omega) (by omega) (by omega)) 6).trans (zup_s _ _ _ _) | exact (congrFun (hV5.1.1 m (by omega) (by omega) (by omega) (by omega) (by omega) (by omega) (by omega)) 6).trans ((congrFun (hV4.1.1 m (by omega) (by omega) (by omega) (by omega) (by omega) (by omega) (by omega)) 6).trans (zup_s _ _ _ _))) ?_
      refine z_iconst (v := nI 2) dX12_commit_135 rfl ?_
      refine z_remN dX12_commit_136 (by omega) (by omega) (by omega) ?_
      refine z_iconst (v := nI 1) dX12_commit_137 rfl ?_
      refine z_icmp_eqN (tgt := 148) dX12_commit_138 (by decide) (by omega) (by omega) (fun c_138 => ?_) (fun c_138 => ?_)
      · exact absurd c_138 (by omega)
      · refine z_aload_n dX12_commit_141 rfl ?_
        refine z_getIe dX12_commit_142 fX12_191 (by first | assumption | exact And.left (by assumption)) rfl (by first | exact zup_s _ _ _ _ | exact (congrFun (hV4.1.1 m (by omega) (by omega) (by omega) (by omega) (by omega) (by omega) (by omega)) 6).trans (zup_s _ _ _ _) | exact (congrFun (hV5.1.1 m (by omega) (by omega) (by omega) (by omega) (by omega) (by omega) (by omega)) 6).trans (zup_s _ _ _ _) | exact (congrFun (hV5.1.1 m (by omega) (by omega) (by omega) (by omega) (by omega) (by omega) (by omega)) 6).trans ((congrFun (hV4.1.1 m (by omega) (by omega) (by omega) (by omega) (by omega) (by omega) (by omega)) 6).trans (zup_s _ _ _ _))) ?_
        refine z_if_neN (tgt := 153) dX12_commit_145 (by decide) (by omega) (fun c_145 => ?_) (fun c_145 => ?_)
        · exact absurd c_145 (by omega)
        · refine z_aload_n dX12_commit_148 rfl ?_
          refine z_iload_n dX12_commit_149 rfl ?_
          
          refine z_callV1w dX12_commit_150 kX12_ends lX12_198 (by first | assumption | exact And.left (by assumption)) rfl (s_mEnds hm0 (by first | exact hV4.2 | exact k1) hk) (Nat.le_of_ble_eq_true rfl) (Nat.le_of_ble_eq_true rfl) ⟨Nat.le_of_ble_eq_true rfl, Nat.le_of_ble_eq_true rfl⟩ ?_
          intro V5 hV5
          refine z_aload_n dX12_commit_153 rfl ?_
          refine z_getIe dX12_commit_154 fX12_191 (by first | assumption | exact And.left (by assumption)) rfl (by first | exact zup_s _ _ _ _ | exact (congrFun (hV4.1.1 m (by omega) (by omega) (by omega) (by omega) (by omega) (by omega) (by omega)) 6).trans (zup_s _ _ _ _) | exact (congrFun (hV5.1.1 m (by omega) (by omega) (by omega) (by omega) (by omega) (by omega) (by omega)) 6).trans (zup_s _ _ _ _) | exact (congrFun (hV5.1.1 m (by omega) (by omega) (by omega) (by omega) (by omega) (by omega) (by omega)) 6).trans ((congrFun (hV4.1.1 m (by omega) (by omega) (by omega) (by omega) (by omega) (by omega) (by omega)) 6).trans (zup_s _ _ _ _))) ?_
          refine z_if_neN (tgt := 171) dX12_commit_157 (by decide) (by omega) (fun c_157 => ?_) (fun c_157 => ?_)
          · exact absurd c_157 (by omega)
          · refine z_aload_n dX12_commit_160 rfl ?_
            refine z_getR dX12_commit_161 fX12_13 (by first | assumption | exact And.left (by assumption)) rfl ?_
            refine z_sipush (v := nI 5340) dX12_commit_164 rfl ?_
            refine z_ialdN dX12_commit_167 (by first | assumption | exact And.left (by assumption)) (by omega) (by decide) hV5.2.1.1 ?_
            refine z_goto (tgt := 172) dX12_commit_168 (by decide) ?_
            refine z_ireturn dX12_commit_172 (Nat.le_of_ble_eq_true rfl) (Nat.le_of_ble_eq_true rfl) rfl ?_
            have hz9 := cmt_0 (hh.trans hz)
            first
              | (rw [stl_0 hn0] at hz9
                 rw [hz9, ← hz]
                 exact ⟨rfl, rfl, rfl, e9.trans hV5.1.zeq, MW_all h9 hV5.1 hV5.2⟩)
              | (rw [stl_1 hn1] at hz9
                 rw [hz9, ← hz]
                 exact ⟨rfl, rfl, rfl, (e9.trans hV4.1.zeq).trans hV5.1.zeq, MW_all h9 (hV4.1.trans hV5.1) (hV5.2.st rfl (fun _ _ => rfl) (fun _ _ => rfl) (fun i hi => if_pos hi))⟩)
    · have hb1 : b = 1 := by omega
      have hn1 : ¬ nwr (tof w k) = 0 := hbw.mp hb1
      have hfl := hnd_full (hh.trans hz)
      refine z_aload_n dX12_commit_126 rfl ?_
      refine z_iload_n dX12_commit_127 rfl ?_
      refine z_callV1w dX12_commit_128 kX12_commits lX12_194 (by first | assumption | exact And.left (by assumption)) rfl (s_mCommits hm0 k1 hk hfl hcap (by omega)) (Nat.le_of_ble_eq_true rfl) (Nat.le_of_ble_eq_true rfl) ⟨Nat.le_of_ble_eq_true rfl, Nat.le_of_ble_eq_true rfl⟩ ?_
      intro V4 hV4
      refine z_aload_n dX12_commit_131 rfl ?_
      refine z_getIe dX12_commit_132 fX12_191 (by first | assumption | exact And.left (by assumption)) rfl (by first | exact zup_s _ _ _ _ | exact (congrFun (hV4.1.1 m (by omega) (by omega) (by omega) (by omega) (by omega) (by omega) (by omega)) 6).trans (zup_s _ _ _ _) | exact (congrFun (hV5.1.1 m (by omega) (by omega) (by omega) (by omega) (by omega) (by omega) (by omega)) 6).trans (zup_s _ _ _ _) | exact (congrFun (hV5.1.1 m (by omega) (by omega) (by omega) (by omega) (by omega) (by omega) (by omega)) 6).trans ((congrFun (hV4.1.1 m (by omega) (by omega) (by omega) (by omega) (by omega) (by omega) (by omega)) 6).trans (zup_s _ _ _ _))) ?_
      refine z_iconst (v := nI 2) dX12_commit_135 rfl ?_
      refine z_remN dX12_commit_136 (by omega) (by omega) (by omega) ?_
      refine z_iconst (v := nI 1) dX12_commit_137 rfl ?_
      refine z_icmp_eqN (tgt := 148) dX12_commit_138 (by decide) (by omega) (by omega) (fun c_138 => ?_) (fun c_138 => ?_)
      · exact absurd c_138 (by omega)
      · refine z_aload_n dX12_commit_141 rfl ?_
        refine z_getIe dX12_commit_142 fX12_191 (by first | assumption | exact And.left (by assumption)) rfl (by first | exact zup_s _ _ _ _ | exact (congrFun (hV4.1.1 m (by omega) (by omega) (by omega) (by omega) (by omega) (by omega) (by omega)) 6).trans (zup_s _ _ _ _) | exact (congrFun (hV5.1.1 m (by omega) (by omega) (by omega) (by omega) (by omega) (by omega) (by omega)) 6).trans (zup_s _ _ _ _) | exact (congrFun (hV5.1.1 m (by omega) (by omega) (by omega) (by omega) (by omega) (by omega) (by omega)) 6).trans ((congrFun (hV4.1.1 m (by omega) (by omega) (by omega) (by omega) (by omega) (by omega) (by omega)) 6).trans (zup_s _ _ _ _))) ?_
        refine z_if_neN (tgt := 153) dX12_commit_145 (by decide) (by omega) (fun c_145 => ?_) (fun c_145 => ?_)
        · exact absurd c_145 (by omega)
        · refine z_aload_n dX12_commit_148 rfl ?_
          refine z_iload_n dX12_commit_149 rfl ?_
          
          refine z_callV1w dX12_commit_150 kX12_ends lX12_198 (by first | assumption | exact And.left (by assumption)) rfl (s_mEnds hm0 (by first | exact hV4.2 | exact k1) hk) (Nat.le_of_ble_eq_true rfl) (Nat.le_of_ble_eq_true rfl) ⟨Nat.le_of_ble_eq_true rfl, Nat.le_of_ble_eq_true rfl⟩ ?_
          intro V5 hV5
          refine z_aload_n dX12_commit_153 rfl ?_
          refine z_getIe dX12_commit_154 fX12_191 (by first | assumption | exact And.left (by assumption)) rfl (by first | exact zup_s _ _ _ _ | exact (congrFun (hV4.1.1 m (by omega) (by omega) (by omega) (by omega) (by omega) (by omega) (by omega)) 6).trans (zup_s _ _ _ _) | exact (congrFun (hV5.1.1 m (by omega) (by omega) (by omega) (by omega) (by omega) (by omega) (by omega)) 6).trans (zup_s _ _ _ _) | exact (congrFun (hV5.1.1 m (by omega) (by omega) (by omega) (by omega) (by omega) (by omega) (by omega)) 6).trans ((congrFun (hV4.1.1 m (by omega) (by omega) (by omega) (by omega) (by omega) (by omega) (by omega)) 6).trans (zup_s _ _ _ _))) ?_
          refine z_if_neN (tgt := 171) dX12_commit_157 (by decide) (by omega) (fun c_157 => ?_) (fun c_157 => ?_)
          · exact absurd c_157 (by omega)
          · refine z_aload_n dX12_commit_160 rfl ?_
            refine z_getR dX12_commit_161 fX12_13 (by first | assumption | exact And.left (by assumption)) rfl ?_
            refine z_sipush (v := nI 5340) dX12_commit_164 rfl ?_
            refine z_ialdN dX12_commit_167 (by first | assumption | exact And.left (by assumption)) (by omega) (by decide) hV5.2.1.1 ?_
            refine z_goto (tgt := 172) dX12_commit_168 (by decide) ?_
            refine z_ireturn dX12_commit_172 (Nat.le_of_ble_eq_true rfl) (Nat.le_of_ble_eq_true rfl) rfl ?_
            have hz9 := cmt_0 (hh.trans hz)
            first
              | (rw [stl_0 hn0] at hz9
                 rw [hz9, ← hz]
                 exact ⟨rfl, rfl, rfl, e9.trans hV5.1.zeq, MW_all h9 hV5.1 hV5.2⟩)
              | (rw [stl_1 hn1] at hz9
                 rw [hz9, ← hz]
                 exact ⟨rfl, rfl, rfl, (e9.trans hV4.1.zeq).trans hV5.1.zeq, MW_all h9 (hV4.1.trans hV5.1) (hV5.2.st rfl (fun _ _ => rfl) (fun _ _ => rfl) (fun i hi => if_pos hi))⟩)

set_option maxHeartbeats 4000000 in
set_option maxRecDepth 100000 in
theorem m_commit {D : zD} {z0 nx : Nat} {L : zL} {V : zV} {m : Nat} {w : Wo} (hm : sM L m) (h : MW V m w) {t : Int32} (hq : w.1.1.1 < 899999) (hal : ∀ k, k < 4 → ((∃ i, i < 2 ∧ mkA w.1 (tof w k).2.2 i) ↔ ∃ i, i < 2 ∧ mrA w.1 (tof w k).2.2 i)) (hcap : ∀ k, k < 4 → ∀ i, i < 2 → ∀ r, r < 48 → ∀ u, (tof w k).2.2 r = some u → (xFol w.1.2.1 (tof w k).2.2 (w.1.2.2.2 i) r).1.1 = 4 → ∀ c, eo (xFol w.1.2.1 (tof w k).2.2 (w.1.2.2.2 i) r).2.1 u r = some c → ¬ eo (xFol w.1.2.1 (tof w k).2.2 (w.1.2.2.2 i) r).2.1 (lst w.1.2.1 r).2 r = eo (xFol w.1.2.1 (tof w k).2.2 (w.1.2.2.2 i) r).2.1 u r → cap c (xKO (eo (xFol w.1.2.1 (tof w k).2.2 (w.1.2.2.2 i) r).2.1 (lst w.1.2.1 r).2 r) False (xFol w.1.2.1 (tof w k).2.2 (w.1.2.2.2 i) r)).2.2.1) : Sp D z0 9 0 0 mX12_commit [.ref m, .int t] L V nx (zq (some (.int (o_commit t w).1)) L nx (fun V' => zEq V V' m (m + 16) ∧ MW V' m (o_commit t w).2)) := by
  have hm0 := hm
  have h0 := h
  obtain ⟨a0, a1, a2, a3, a4, a5, a6, a7, a8, a9, a10, a11, a12, a13, a14, a15⟩ := hm
  refine Sp.of 1 (by decide) rfl rfl (Nat.le_of_ble_eq_true rfl) ?_
  refine z_aload_n dX12_commit_0 rfl ?_
  refine z_iconst (v := nI 0) dX12_commit_1 rfl ?_
  refine z_putI dX12_commit_2 fX12_1 (by first | assumption | exact And.left (by assumption)) rfl ?_
  have h9 := MW_thr (x := nI 0) h0
  have e0 : zEq V (zup V m 0 (nI 0)) m (m + 16) := zEq.rf.up (by omega) (by omega)
  generalize zup V m 0 (nI 0) = V1 at h9 e0 ⊢
  clear h0 h
  have h0 := h9
  obtain ⟨k1, k2, k3, k4, k5, k6, k7⟩ := h9
  refine z_iload_n dX12_commit_5 rfl ?_
  refine z_callS1i dX12_commit_6 kX12_isTransaction lX12_145 s_mT (Nat.le_of_ble_eq_true rfl) (Nat.le_of_ble_eq_true rfl) ⟨Nat.le_of_ble_eq_true rfl, Nat.le_of_ble_eq_true rfl⟩ ?_
  refine z_if_neB (tgt := 15) dX12_commit_9 (by decide) (fun c_9 => ?_) (fun c_9 => ?_)
  · obtain ⟨k, hk, rfl⟩ := c_9
    have hT := tn_k (k := k) (by omega)
    have hT0 := k1.2.2.1 k hk
    obtain ⟨x1, x2, x3, ws, xw⟩ := k1.2.2.1 k hk
    have xw0 := xw
    obtain ⟨w1, w2, w3, w4, w5, w6⟩ := xw
    refine z_aload_n dX12_commit_15 rfl ?_
    refine z_iload_n dX12_commit_16 rfl ?_
    refine z_callV1i dX12_commit_17 kX12_isOpen lX12_149 (by first | assumption | exact And.left (by assumption)) rfl (s_mOpen hm0 hk hT0) (Nat.le_of_ble_eq_true rfl) (Nat.le_of_ble_eq_true rfl) ⟨Nat.le_of_ble_eq_true rfl, Nat.le_of_ble_eq_true rfl⟩ ?_
    refine z_if_neB (tgt := 26) dX12_commit_20 (by decide) (fun c_20 => ?_) (fun c_20 => ?_)
    · refine z_aload_n dX12_commit_26 rfl ?_
      refine z_callV0w dX12_commit_27 kX12_notes lX12_152 (by first | assumption | exact And.left (by assumption)) rfl (s_notes hm0 h0) (Nat.le_of_ble_eq_true rfl) (Nat.le_of_ble_eq_true rfl) ⟨Nat.le_of_ble_eq_true rfl, Nat.le_of_ble_eq_true rfl⟩ ?_
      intro V2 hV2
      obtain ⟨e2, f2, f3, h2⟩ := hV2
      obtain ⟨j1, j2, j3, j4, j5, j6, j7⟩ := id h2
      have j1 : MB (V2 (m + 1)) w.1 := j1
      have e3 := e0.trans e2
      obtain ⟨b1, b2, b3, ws2, bw⟩ := j1.2.2.1 k hk
      have hR : o_commit (nI k) w = cmt k w := by unfold o_commit; rw [cif_y (rng_k hk), cif_y ((opn_k hk).mpr c_20), hT]
      have hnl : nwr (tof w k) = ws2.length := bw.2.2.1
      have hb8 := bw.2.1
      refine z_aload_n dX12_commit_30 rfl ?_
      refine z_iload_n dX12_commit_31 rfl ?_
      refine z_iconst (v := nI 2) dX12_commit_32 rfl ?_
      refine z_callV2i dX12_commit_33 kX12_ofTransaction lX12_94 (by first | assumption | exact And.left (by assumption)) rfl (s_ofTr hm0 hk (by omega) bw.1) (Nat.le_of_ble_eq_true rfl) (Nat.le_of_ble_eq_true rfl) ⟨Nat.le_of_ble_eq_true rfl, Nat.le_of_ble_eq_true rfl⟩ ?_
      refine z_if_leN (tgt := 43) dX12_commit_36 (by decide) (by omega) (fun c_36 => ?_) (fun c_36 => ?_)
      · have hn0 : nwr (tof w k) = 0 := by omega
        refine z_iconst (v := nI 0) dX12_commit_43 rfl ?_
        refine z_istore_n dX12_commit_44 (Nat.le_of_ble_eq_true rfl) rfl ?_
        refine z_aload_n dX12_commit_45 rfl ?_
        refine z_iload_n dX12_commit_46 rfl ?_
        refine z_if_neN (tgt := 54) dX12_commit_47 (by decide) (by omega) (fun c_47 => ?_) (fun c_47 => ?_)
        · exact absurd c_47 (by omega)
        · refine z_iconst (v := nI 0) dX12_commit_50 rfl ?_
          refine z_goto (tgt := 112) dX12_commit_51 (by decide) ?_
          first
            | (have hh : hnd w.1 (tof w k) = _ := hn_0 hn0
               exact (m_comZ hm0 e3 h2 hk (by decide) ⟨fun q => absurd q (by decide), fun q => absurd hn0 q⟩ hh hq (hcap k hk) rfl).mono (fun r2 L2 V9 n2 h9 => by rw [hR]; exact h9))
            | (have hh : hnd w.1 (tof w k) = _ := hn_2 hnw c_58
               exact (m_comE hm0 e3 h2 hk (by decide) ⟨fun _ => hnw, fun _ => rfl⟩ hh hq (hcap k hk) (Or.inl rfl)).mono (fun r2 L2 V9 n2 h9 => by rw [hR]; exact h9))
            | (have hh : hnd w.1 (tof w k) = _ := hn_1 hnw c_58 c_70
               exact (m_comO hm0 e3 h2 hk (by decide) ⟨fun _ => hnw, fun _ => rfl⟩ hh hq (hcap k hk) (Or.inl rfl)).mono (fun r2 L2 V9 n2 h9 => by rw [hR]; exact h9))
            | (have hh : hnd w.1 (tof w k) = _ := hn_4 hnw c_58 c_70 c_82
               exact (m_comE hm0 e3 h2 hk (by decide) ⟨fun _ => hnw, fun _ => rfl⟩ hh hq (hcap k hk) (Or.inr rfl)).mono (fun r2 L2 V9 n2 h9 => by rw [hR]; exact h9))
            | (have hh : hnd w.1 (tof w k) = _ := hn_3 hnw c_58 c_70 c_82 hY
               exact (m_comO hm0 (e3.trans e4) h5 hk (by decide) ⟨fun _ => hnw, fun _ => rfl⟩ hh hq (hcap k hk) (Or.inr rfl)).mono (fun r2 L2 V9 n2 h9 => by rw [hR]; exact h9))
            | (have hh : hnd w.1 (tof w k) = _ := hn_5 hnw c_58 c_70 c_82 hF
               exact (m_comZ hm0 (e3.trans e4) h5 hk (by decide) ⟨fun _ => hnw, fun _ => rfl⟩ hh hq (hcap k hk) rfl).mono (fun r2 L2 V9 n2 h9 => by rw [hR]; exact h9))
      · have hnw : ¬ nwr (tof w k) = 0 := by omega
        refine z_iconst (v := nI 1) dX12_commit_39 rfl ?_
        refine z_goto (tgt := 44) dX12_commit_40 (by decide) ?_
        refine z_istore_n dX12_commit_44 (Nat.le_of_ble_eq_true rfl) rfl ?_
        refine z_aload_n dX12_commit_45 rfl ?_
        refine z_iload_n dX12_commit_46 rfl ?_
        refine z_if_neN (tgt := 54) dX12_commit_47 (by decide) (by omega) (fun c_47 => ?_) (fun c_47 => ?_)
        · refine z_aload_n dX12_commit_54 rfl ?_
          refine z_callV0i dX12_commit_55 kX12_doWait lX12_178 (by first | assumption | exact And.left (by assumption)) rfl (s_mWait hm0 j1) (Nat.le_of_ble_eq_true rfl) (Nat.le_of_ble_eq_true rfl) ⟨Nat.le_of_ble_eq_true rfl, Nat.le_of_ble_eq_true rfl⟩ ?_
          refine z_if_eqB (tgt := 65) dX12_commit_58 (by decide) (fun c_58 => ?_) (fun c_58 => ?_)
          · refine z_aload_n dX12_commit_65 rfl ?_
            refine z_iload_n dX12_commit_66 rfl ?_
            refine z_callV1i dX12_commit_67 kX12_isConflict lX12_182 (by first | assumption | exact And.left (by assumption)) rfl (s_mCnf hm0 j1 hk) (Nat.le_of_ble_eq_true rfl) (Nat.le_of_ble_eq_true rfl) ⟨Nat.le_of_ble_eq_true rfl, Nat.le_of_ble_eq_true rfl⟩ ?_
            refine z_if_eqB (tgt := 77) dX12_commit_70 (by decide) (fun c_70 => ?_) (fun c_70 => ?_)
            · refine z_aload_n dX12_commit_77 rfl ?_
              refine z_iload_n dX12_commit_78 rfl ?_
              refine z_callV1i dX12_commit_79 kX12_isFull lX12_185 (by first | assumption | exact And.left (by assumption)) rfl (s_mFull hm0 j1 hk) (Nat.le_of_ble_eq_true rfl) (Nat.le_of_ble_eq_true rfl) ⟨Nat.le_of_ble_eq_true rfl, Nat.le_of_ble_eq_true rfl⟩ ?_
              refine z_if_eqB (tgt := 89) dX12_commit_82 (by decide) (fun c_82 => ?_) (fun c_82 => ?_)
              · refine z_aload_n dX12_commit_89 rfl ?_
                refine z_iload_n dX12_commit_90 rfl ?_
                refine z_iconst (v := nI 0) dX12_commit_91 rfl ?_
                refine z_callV2q dX12_commit_92 kX12_wouldBeAlike lX12_188 (by first | assumption | exact And.left (by assumption)) rfl (s_wba (i := 0) hm0 j1 hk (by decide)) (Nat.le_of_ble_eq_true rfl) (Nat.le_of_ble_eq_true rfl) ⟨Nat.le_of_ble_eq_true rfl, Nat.le_of_ble_eq_true rfl⟩ ?_
                intro V3 hV3
                have a3 : oA V2 V3 m := oA.ky hV3
                have l3 : MB (V3 (m + 1)) w.1 := by rw [hV3 (m + 1) (by omega)]; exact j1
                have h5 := MW_all h2 a3 l3
                have e4 := a3.zeq
                refine z_if_neB (tgt := 107) dX12_commit_95 (by decide) (fun c_95 => ?_) (fun c_95 => ?_)
                · have hY : ∃ i, i < 2 ∧ mkA w.1 (tof w k).2.2 i := (hal k hk).mpr ⟨0, by omega, c_95⟩
                  refine z_iconst (v := nI 3) dX12_commit_107 rfl ?_
                  refine z_goto (tgt := 112) dX12_commit_108 (by decide) ?_
                  first
                    | (have hh : hnd w.1 (tof w k) = _ := hn_0 hn0
                       exact (m_comZ hm0 e3 h2 hk (by decide) ⟨fun q => absurd q (by decide), fun q => absurd hn0 q⟩ hh hq (hcap k hk) rfl).mono (fun r2 L2 V9 n2 h9 => by rw [hR]; exact h9))
                    | (have hh : hnd w.1 (tof w k) = _ := hn_2 hnw c_58
                       exact (m_comE hm0 e3 h2 hk (by decide) ⟨fun _ => hnw, fun _ => rfl⟩ hh hq (hcap k hk) (Or.inl rfl)).mono (fun r2 L2 V9 n2 h9 => by rw [hR]; exact h9))
                    | (have hh : hnd w.1 (tof w k) = _ := hn_1 hnw c_58 c_70
                       exact (m_comO hm0 e3 h2 hk (by decide) ⟨fun _ => hnw, fun _ => rfl⟩ hh hq (hcap k hk) (Or.inl rfl)).mono (fun r2 L2 V9 n2 h9 => by rw [hR]; exact h9))
                    | (have hh : hnd w.1 (tof w k) = _ := hn_4 hnw c_58 c_70 c_82
                       exact (m_comE hm0 e3 h2 hk (by decide) ⟨fun _ => hnw, fun _ => rfl⟩ hh hq (hcap k hk) (Or.inr rfl)).mono (fun r2 L2 V9 n2 h9 => by rw [hR]; exact h9))
                    | (have hh : hnd w.1 (tof w k) = _ := hn_3 hnw c_58 c_70 c_82 hY
                       exact (m_comO hm0 (e3.trans e4) h5 hk (by decide) ⟨fun _ => hnw, fun _ => rfl⟩ hh hq (hcap k hk) (Or.inr rfl)).mono (fun r2 L2 V9 n2 h9 => by rw [hR]; exact h9))
                    | (have hh : hnd w.1 (tof w k) = _ := hn_5 hnw c_58 c_70 c_82 hF
                       exact (m_comZ hm0 (e3.trans e4) h5 hk (by decide) ⟨fun _ => hnw, fun _ => rfl⟩ hh hq (hcap k hk) rfl).mono (fun r2 L2 V9 n2 h9 => by rw [hR]; exact h9))
                · refine z_aload_n dX12_commit_98 rfl ?_
                  refine z_iload_n dX12_commit_99 rfl ?_
                  refine z_iconst (v := nI 1) dX12_commit_100 rfl ?_
                  refine z_callV2q dX12_commit_101 kX12_wouldBeAlike lX12_188 (by first | assumption | exact And.left (by assumption)) rfl (s_wba (i := 1) hm0 l3 hk (by decide)) (Nat.le_of_ble_eq_true rfl) (Nat.le_of_ble_eq_true rfl) ⟨Nat.le_of_ble_eq_true rfl, Nat.le_of_ble_eq_true rfl⟩ ?_
                  intro V4 hV4
                  have a4 : oA V2 V4 m := a3.trans (oA.ky hV4)
                  have l4 : MB (V4 (m + 1)) w.1 := by rw [hV4 (m + 1) (by omega)]; exact l3
                  have h5 := MW_all h2 a4 l4
                  have e4 := a4.zeq
                  refine z_if_eqB (tgt := 111) dX12_commit_104 (by decide) (fun c_104 => ?_) (fun c_104 => ?_)
                  · have hF : ¬ ∃ i, i < 2 ∧ mkA w.1 (tof w k).2.2 i := fun z => by
                      obtain ⟨i, i1, i2⟩ := (hal k hk).mp z
                      rcases (show i = 0 ∨ i = 1 by omega) with rfl | rfl
                      · exact c_95 i2
                      · exact c_104 i2
                    refine z_iconst (v := nI 0) dX12_commit_111 rfl ?_
                    first
                      | (have hh : hnd w.1 (tof w k) = _ := hn_0 hn0
                         exact (m_comZ hm0 e3 h2 hk (by decide) ⟨fun q => absurd q (by decide), fun q => absurd hn0 q⟩ hh hq (hcap k hk) rfl).mono (fun r2 L2 V9 n2 h9 => by rw [hR]; exact h9))
                      | (have hh : hnd w.1 (tof w k) = _ := hn_2 hnw c_58
                         exact (m_comE hm0 e3 h2 hk (by decide) ⟨fun _ => hnw, fun _ => rfl⟩ hh hq (hcap k hk) (Or.inl rfl)).mono (fun r2 L2 V9 n2 h9 => by rw [hR]; exact h9))
                      | (have hh : hnd w.1 (tof w k) = _ := hn_1 hnw c_58 c_70
                         exact (m_comO hm0 e3 h2 hk (by decide) ⟨fun _ => hnw, fun _ => rfl⟩ hh hq (hcap k hk) (Or.inl rfl)).mono (fun r2 L2 V9 n2 h9 => by rw [hR]; exact h9))
                      | (have hh : hnd w.1 (tof w k) = _ := hn_4 hnw c_58 c_70 c_82
                         exact (m_comE hm0 e3 h2 hk (by decide) ⟨fun _ => hnw, fun _ => rfl⟩ hh hq (hcap k hk) (Or.inr rfl)).mono (fun r2 L2 V9 n2 h9 => by rw [hR]; exact h9))
                      | (have hh : hnd w.1 (tof w k) = _ := hn_3 hnw c_58 c_70 c_82 hY
                         exact (m_comO hm0 (e3.trans e4) h5 hk (by decide) ⟨fun _ => hnw, fun _ => rfl⟩ hh hq (hcap k hk) (Or.inr rfl)).mono (fun r2 L2 V9 n2 h9 => by rw [hR]; exact h9))
                      | (have hh : hnd w.1 (tof w k) = _ := hn_5 hnw c_58 c_70 c_82 hF
                         exact (m_comZ hm0 (e3.trans e4) h5 hk (by decide) ⟨fun _ => hnw, fun _ => rfl⟩ hh hq (hcap k hk) rfl).mono (fun r2 L2 V9 n2 h9 => by rw [hR]; exact h9))
                  · have hY : ∃ i, i < 2 ∧ mkA w.1 (tof w k).2.2 i := (hal k hk).mpr ⟨1, by omega, c_104⟩
                    refine z_iconst (v := nI 3) dX12_commit_107 rfl ?_
                    refine z_goto (tgt := 112) dX12_commit_108 (by decide) ?_
                    first
                      | (have hh : hnd w.1 (tof w k) = _ := hn_0 hn0
                         exact (m_comZ hm0 e3 h2 hk (by decide) ⟨fun q => absurd q (by decide), fun q => absurd hn0 q⟩ hh hq (hcap k hk) rfl).mono (fun r2 L2 V9 n2 h9 => by rw [hR]; exact h9))
                      | (have hh : hnd w.1 (tof w k) = _ := hn_2 hnw c_58
                         exact (m_comE hm0 e3 h2 hk (by decide) ⟨fun _ => hnw, fun _ => rfl⟩ hh hq (hcap k hk) (Or.inl rfl)).mono (fun r2 L2 V9 n2 h9 => by rw [hR]; exact h9))
                      | (have hh : hnd w.1 (tof w k) = _ := hn_1 hnw c_58 c_70
                         exact (m_comO hm0 e3 h2 hk (by decide) ⟨fun _ => hnw, fun _ => rfl⟩ hh hq (hcap k hk) (Or.inl rfl)).mono (fun r2 L2 V9 n2 h9 => by rw [hR]; exact h9))
                      | (have hh : hnd w.1 (tof w k) = _ := hn_4 hnw c_58 c_70 c_82
                         exact (m_comE hm0 e3 h2 hk (by decide) ⟨fun _ => hnw, fun _ => rfl⟩ hh hq (hcap k hk) (Or.inr rfl)).mono (fun r2 L2 V9 n2 h9 => by rw [hR]; exact h9))
                      | (have hh : hnd w.1 (tof w k) = _ := hn_3 hnw c_58 c_70 c_82 hY
                         exact (m_comO hm0 (e3.trans e4) h5 hk (by decide) ⟨fun _ => hnw, fun _ => rfl⟩ hh hq (hcap k hk) (Or.inr rfl)).mono (fun r2 L2 V9 n2 h9 => by rw [hR]; exact h9))
                      | (have hh : hnd w.1 (tof w k) = _ := hn_5 hnw c_58 c_70 c_82 hF
                         exact (m_comZ hm0 (e3.trans e4) h5 hk (by decide) ⟨fun _ => hnw, fun _ => rfl⟩ hh hq (hcap k hk) rfl).mono (fun r2 L2 V9 n2 h9 => by rw [hR]; exact h9))
              · refine z_iconst (v := nI 4) dX12_commit_85 rfl ?_
                refine z_goto (tgt := 112) dX12_commit_86 (by decide) ?_
                first
                  | (have hh : hnd w.1 (tof w k) = _ := hn_0 hn0
                     exact (m_comZ hm0 e3 h2 hk (by decide) ⟨fun q => absurd q (by decide), fun q => absurd hn0 q⟩ hh hq (hcap k hk) rfl).mono (fun r2 L2 V9 n2 h9 => by rw [hR]; exact h9))
                  | (have hh : hnd w.1 (tof w k) = _ := hn_2 hnw c_58
                     exact (m_comE hm0 e3 h2 hk (by decide) ⟨fun _ => hnw, fun _ => rfl⟩ hh hq (hcap k hk) (Or.inl rfl)).mono (fun r2 L2 V9 n2 h9 => by rw [hR]; exact h9))
                  | (have hh : hnd w.1 (tof w k) = _ := hn_1 hnw c_58 c_70
                     exact (m_comO hm0 e3 h2 hk (by decide) ⟨fun _ => hnw, fun _ => rfl⟩ hh hq (hcap k hk) (Or.inl rfl)).mono (fun r2 L2 V9 n2 h9 => by rw [hR]; exact h9))
                  | (have hh : hnd w.1 (tof w k) = _ := hn_4 hnw c_58 c_70 c_82
                     exact (m_comE hm0 e3 h2 hk (by decide) ⟨fun _ => hnw, fun _ => rfl⟩ hh hq (hcap k hk) (Or.inr rfl)).mono (fun r2 L2 V9 n2 h9 => by rw [hR]; exact h9))
                  | (have hh : hnd w.1 (tof w k) = _ := hn_3 hnw c_58 c_70 c_82 hY
                     exact (m_comO hm0 (e3.trans e4) h5 hk (by decide) ⟨fun _ => hnw, fun _ => rfl⟩ hh hq (hcap k hk) (Or.inr rfl)).mono (fun r2 L2 V9 n2 h9 => by rw [hR]; exact h9))
                  | (have hh : hnd w.1 (tof w k) = _ := hn_5 hnw c_58 c_70 c_82 hF
                     exact (m_comZ hm0 (e3.trans e4) h5 hk (by decide) ⟨fun _ => hnw, fun _ => rfl⟩ hh hq (hcap k hk) rfl).mono (fun r2 L2 V9 n2 h9 => by rw [hR]; exact h9))
            · refine z_iconst (v := nI 1) dX12_commit_73 rfl ?_
              refine z_goto (tgt := 112) dX12_commit_74 (by decide) ?_
              first
                | (have hh : hnd w.1 (tof w k) = _ := hn_0 hn0
                   exact (m_comZ hm0 e3 h2 hk (by decide) ⟨fun q => absurd q (by decide), fun q => absurd hn0 q⟩ hh hq (hcap k hk) rfl).mono (fun r2 L2 V9 n2 h9 => by rw [hR]; exact h9))
                | (have hh : hnd w.1 (tof w k) = _ := hn_2 hnw c_58
                   exact (m_comE hm0 e3 h2 hk (by decide) ⟨fun _ => hnw, fun _ => rfl⟩ hh hq (hcap k hk) (Or.inl rfl)).mono (fun r2 L2 V9 n2 h9 => by rw [hR]; exact h9))
                | (have hh : hnd w.1 (tof w k) = _ := hn_1 hnw c_58 c_70
                   exact (m_comO hm0 e3 h2 hk (by decide) ⟨fun _ => hnw, fun _ => rfl⟩ hh hq (hcap k hk) (Or.inl rfl)).mono (fun r2 L2 V9 n2 h9 => by rw [hR]; exact h9))
                | (have hh : hnd w.1 (tof w k) = _ := hn_4 hnw c_58 c_70 c_82
                   exact (m_comE hm0 e3 h2 hk (by decide) ⟨fun _ => hnw, fun _ => rfl⟩ hh hq (hcap k hk) (Or.inr rfl)).mono (fun r2 L2 V9 n2 h9 => by rw [hR]; exact h9))
                | (have hh : hnd w.1 (tof w k) = _ := hn_3 hnw c_58 c_70 c_82 hY
                   exact (m_comO hm0 (e3.trans e4) h5 hk (by decide) ⟨fun _ => hnw, fun _ => rfl⟩ hh hq (hcap k hk) (Or.inr rfl)).mono (fun r2 L2 V9 n2 h9 => by rw [hR]; exact h9))
                | (have hh : hnd w.1 (tof w k) = _ := hn_5 hnw c_58 c_70 c_82 hF
                   exact (m_comZ hm0 (e3.trans e4) h5 hk (by decide) ⟨fun _ => hnw, fun _ => rfl⟩ hh hq (hcap k hk) rfl).mono (fun r2 L2 V9 n2 h9 => by rw [hR]; exact h9))
          · refine z_iconst (v := nI 2) dX12_commit_61 rfl ?_
            refine z_goto (tgt := 112) dX12_commit_62 (by decide) ?_
            first
              | (have hh : hnd w.1 (tof w k) = _ := hn_0 hn0
                 exact (m_comZ hm0 e3 h2 hk (by decide) ⟨fun q => absurd q (by decide), fun q => absurd hn0 q⟩ hh hq (hcap k hk) rfl).mono (fun r2 L2 V9 n2 h9 => by rw [hR]; exact h9))
              | (have hh : hnd w.1 (tof w k) = _ := hn_2 hnw c_58
                 exact (m_comE hm0 e3 h2 hk (by decide) ⟨fun _ => hnw, fun _ => rfl⟩ hh hq (hcap k hk) (Or.inl rfl)).mono (fun r2 L2 V9 n2 h9 => by rw [hR]; exact h9))
              | (have hh : hnd w.1 (tof w k) = _ := hn_1 hnw c_58 c_70
                 exact (m_comO hm0 e3 h2 hk (by decide) ⟨fun _ => hnw, fun _ => rfl⟩ hh hq (hcap k hk) (Or.inl rfl)).mono (fun r2 L2 V9 n2 h9 => by rw [hR]; exact h9))
              | (have hh : hnd w.1 (tof w k) = _ := hn_4 hnw c_58 c_70 c_82
                 exact (m_comE hm0 e3 h2 hk (by decide) ⟨fun _ => hnw, fun _ => rfl⟩ hh hq (hcap k hk) (Or.inr rfl)).mono (fun r2 L2 V9 n2 h9 => by rw [hR]; exact h9))
              | (have hh : hnd w.1 (tof w k) = _ := hn_3 hnw c_58 c_70 c_82 hY
                 exact (m_comO hm0 (e3.trans e4) h5 hk (by decide) ⟨fun _ => hnw, fun _ => rfl⟩ hh hq (hcap k hk) (Or.inr rfl)).mono (fun r2 L2 V9 n2 h9 => by rw [hR]; exact h9))
              | (have hh : hnd w.1 (tof w k) = _ := hn_5 hnw c_58 c_70 c_82 hF
                 exact (m_comZ hm0 (e3.trans e4) h5 hk (by decide) ⟨fun _ => hnw, fun _ => rfl⟩ hh hq (hcap k hk) rfl).mono (fun r2 L2 V9 n2 h9 => by rw [hR]; exact h9))
        · exact absurd c_47 (by omega)
    · refine z_bipush (v := (-5)) dX12_commit_23 rfl ?_
      refine z_ireturn dX12_commit_25 (Nat.le_of_ble_eq_true rfl) (Nat.le_of_ble_eq_true rfl) rfl ?_
      rw [show o_commit (nI k) w = (-5, w) from by unfold o_commit; rw [cif_y (rng_k hk)]; rw [cif_n (fun q => c_20 ((opn_k hk).mp q))]]
      exact ⟨rfl, rfl, rfl, e0, h0⟩
  · refine z_bipush (v := (-2)) dX12_commit_12 rfl ?_
    refine z_ireturn dX12_commit_14 (Nat.le_of_ble_eq_true rfl) (Nat.le_of_ble_eq_true rfl) rfl ?_
    rw [show o_commit t w = (-2, w) from by unfold o_commit; rw [cif_n c_9]]
    exact ⟨rfl, rfl, rfl, e0, h0⟩

