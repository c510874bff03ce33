/-! the law's loop -/
theorem lawp_lt {a b : Nat} (ha : a ≤ 3072) (hb : b ≤ 3072) : nI a - nI 6 < nI b ↔ a < b + 6 := by
  rw [Int32.lt_iff_toInt_lt, Int32.toInt_sub, nI_toInt (by omega), nI_toInt (by omega), nI_toInt (by omega), Int.bmod_def]
  split <;> omega
theorem lawp_63 (x : Int32) : ∃ k, k < 64 ∧ x &&& nI 63 = nI k := by
  refine ⟨(x &&& nI 63).toBitVec.toNat, ?_, ?_⟩
  · rw [Int32.toBitVec_and, BitVec.toNat_and]
    exact Nat.lt_of_le_of_lt Nat.and_le_right (by decide)
  · apply Int32.toBitVec_inj.mp
    show _ = BitVec.ofNat 32 _
    simp
theorem lawp_6 (i : Nat) : nI i + Int32.ofInt 6 = nI (i + 6) := by
  show nI i + nI 6 = nI (i + 6)
  exact nI_add i 6

set_option maxHeartbeats 4000000 in
set_option maxRecDepth 100000 in
theorem law_loop {yb yl : Nat} {yx : Nat → Int32} {D : zD} {z0 : Nat} {nm : String} {cells slots nx : Nat} {a : Nat} (hyl : yl ≤ 3072) (hcs : cells ≤ 600000 ∧ slots ≤ 7302250) : ∀ (fu i N : Nat) (L : zL) (V : zV) (sw : Bool) (w : Wo), yl + 6 - i = fu → i ≤ yl → N ≤ i → sLI L a sw → LI V a sw w → sM L (a + 471) → MW V (a + 471) w → JWo N w → YL yb yl yx D z0 11 600000 7302250 (mL nm) cells slots 18 [some (.ref yb), some (.ref a), some (.ref (a + 471)), some (.int (nI i))] [] L V nx (fun v _ _ _ => v = some (.int 1)) := by
  intro fu
  induction fu using Nat.strongRecOn with
  | ind fu ih =>
    intro i N L V sw w h_fu h_i h_N hs h hm hw hj
    refine y_iload_n dL_law_18 rfl ?_
    refine y_aload_n dL_law_19 rfl ?_
    refine y_slen dL_law_20 ?_
    refine y_bipush (v := nI 6) dL_law_21 rfl ?_
    refine y_isub dL_law_23 ?_
    refine y_icmp_gt (tgt := 1252) dL_law_24 (by decide) (fun c => ?_) (fun c => ?_)
    · refine y_iconst (v := 1) dL_law_1252 rfl ?_
      exact y_end dL_law_1253 hcs.1 hcs.2 .boolean rfl rfl rfl
    · have hi6 : i + 6 ≤ yl := by
        have h9 : ¬ yl < i + 6 := fun q => c ((lawp_lt (a := yl) (b := i) hyl (by omega)).mpr q)
        omega
      refine y_aload_n dL_law_27 rfl ?_
      refine y_iload_n dL_law_28 rfl ?_
      refine y_sld dL_law_29 (by omega) (by omega) ?_
      refine y_bipush (v := nI 63) dL_law_30 rfl ?_
      refine y_iand dL_law_32 ?_
      have K : ∀ (L' : zL) (V' : zV) (sw' : Bool) (w' : Wo), sLI L' a sw' → LI V' a sw' w' → sM L' (a + 471) → MW V' (a + 471) w' → JWo (N + 1) w' → YL yb yl yx D z0 11 600000 7302250 (mL nm) cells slots 1246 [some (.ref yb), some (.ref a), some (.ref (a + 471)), some (.int (nI i))] [] L' V' nx (fun v _ _ _ => v = some (.int 1)) := by
        intro L' V' sw' w' k1 k2 k3 k4 k5
        refine y_iinc (v := nI (i + 6)) dL_law_1246 rfl (lawp_6 i) rfl ?_
        refine y_goto (tgt := 18) dL_law_1249 (by decide) ?_
        exact ih _ (by omega) (i + 6) (N + 1) L' V' sw' w' rfl (by omega) (by omega) k1 k2 k3 k4 k5
      obtain ⟨k, hk, ek⟩ := lawp_63 (yx i)
      rw [ek]
      by_cases hk34 : k < 34
      · rcases (show k = 0 ∨ k = 1 ∨ k = 2 ∨ k = 3 ∨ k = 4 ∨ k = 5 ∨ k = 6 ∨ k = 7 ∨ k = 8 ∨ k = 9 ∨ k = 10 ∨ k = 11 ∨ k = 12 ∨ k = 13 ∨ k = 14 ∨ k = 15 ∨ k = 16 ∨ k = 17 ∨ k = 18 ∨ k = 19 ∨ k = 20 ∨ k = 21 ∨ k = 22 ∨ k = 23 ∨ k = 24 ∨ k = 25 ∨ k = 26 ∨ k = 27 ∨ k = 28 ∨ k = 29 ∨ k = 30 ∨ k = 31 ∨ k = 32 ∨ k = 33 by omega) with rfl | rfl | rfl | rfl | rfl | rfl | rfl | rfl | rfl | rfl | rfl | rfl | rfl | rfl | rfl | rfl | rfl | rfl | rfl | rfl | rfl | rfl | rfl | rfl | rfl | rfl | rfl | rfl | rfl | rfl | rfl | rfl | rfl | rfl
        · exact y_tableIn (tgt := 184) dL_law_33 (by decide) (by decide) rfl (by decide) (law_0 hs h hm hw hj (by omega) hcs (by omega) (by omega) K)
        · exact y_tableIn (tgt := 207) dL_law_33 (by decide) (by decide) rfl (by decide) (law_1 hs h hm hw hj (by omega) hcs (by omega) (by omega) K)
        · exact y_tableIn (tgt := 270) dL_law_33 (by decide) (by decide) rfl (by decide) (law_2 hs h hm hw hj (by omega) hcs (by omega) (by omega) K)
        · exact y_tableIn (tgt := 303) dL_law_33 (by decide) (by decide) rfl (by decide) (law_3 hs h hm hw hj (by omega) hcs (by omega) (by omega) K)
        · exact y_tableIn (tgt := 326) dL_law_33 (by decide) (by decide) rfl (by decide) (law_4 hs h hm hw hj (by omega) hcs (by omega) (by omega) K)
        · exact y_tableIn (tgt := 339) dL_law_33 (by decide) (by decide) rfl (by decide) (law_5 hs h hm hw hj (by omega) hcs (by omega) (by omega) K)
        · exact y_tableIn (tgt := 362) dL_law_33 (by decide) (by decide) rfl (by decide) (law_6 hs h hm hw hj (by omega) hcs (by omega) (by omega) K)
        · exact y_tableIn (tgt := 405) dL_law_33 (by decide) (by decide) rfl (by decide) (law_7 hs h hm hw hj (by omega) hcs (by omega) (by omega) K)
        · exact y_tableIn (tgt := 418) dL_law_33 (by decide) (by decide) rfl (by decide) (law_8 hs h hm hw hj (by omega) hcs (by omega) (by omega) K)
        · exact y_tableIn (tgt := 481) dL_law_33 (by decide) (by decide) rfl (by decide) (law_9 hs h hm hw hj (by omega) hcs (by omega) (by omega) K)
        · exact y_tableIn (tgt := 514) dL_law_33 (by decide) (by decide) rfl (by decide) (law_10 hs h hm hw hj (by omega) hcs (by omega) (by omega) K)
        · exact y_tableIn (tgt := 537) dL_law_33 (by decide) (by decide) rfl (by decide) (law_11 hs h hm hw hj (by omega) hcs (by omega) (by omega) K)
        · exact y_tableIn (tgt := 570) dL_law_33 (by decide) (by decide) rfl (by decide) (law_12 hs h hm hw hj (by omega) hcs (by omega) (by omega) K)
        · exact y_tableIn (tgt := 593) dL_law_33 (by decide) (by decide) rfl (by decide) (law_13 hs h hm hw hj (by omega) hcs (by omega) (by omega) K)
        · exact y_tableIn (tgt := 616) dL_law_33 (by decide) (by decide) rfl (by decide) (law_14 hs h hm hw hj (by omega) hcs (by omega) (by omega) K)
        · exact y_tableIn (tgt := 649) dL_law_33 (by decide) (by decide) rfl (by decide) (law_15 hs h hm hw hj (by omega) hcs (by omega) (by omega) K)
        · exact y_tableIn (tgt := 682) dL_law_33 (by decide) (by decide) rfl (by decide) (law_16 hs h hm hw hj (by omega) hcs (by omega) (by omega) K)
        · exact y_tableIn (tgt := 725) dL_law_33 (by decide) (by decide) rfl (by decide) (law_17 hs h hm hw hj (by omega) hcs (by omega) (by omega) K)
        · exact y_tableIn (tgt := 778) dL_law_33 (by decide) (by decide) rfl (by decide) (law_18 hs h hm hw hj (by omega) hcs (by omega) (by omega) K)
        · exact y_tableIn (tgt := 831) dL_law_33 (by decide) (by decide) rfl (by decide) (law_19 hs h hm hw hj (by omega) hcs (by omega) (by omega) K)
        · exact y_tableIn (tgt := 884) dL_law_33 (by decide) (by decide) rfl (by decide) (law_20 hs h hm hw hj (by omega) hcs (by omega) (by omega) K)
        · exact y_tableIn (tgt := 917) dL_law_33 (by decide) (by decide) rfl (by decide) (law_21 hs h hm hw hj (by omega) hcs (by omega) (by omega) K)
        · exact y_tableIn (tgt := 940) dL_law_33 (by decide) (by decide) rfl (by decide) (law_22 hs h hm hw hj (by omega) hcs (by omega) (by omega) K)
        · exact y_tableIn (tgt := 963) dL_law_33 (by decide) (by decide) rfl (by decide) (law_23 hs h hm hw hj (by omega) hcs (by omega) (by omega) K)
        · exact y_tableIn (tgt := 986) dL_law_33 (by decide) (by decide) rfl (by decide) (law_24 hs h hm hw hj (by omega) hcs (by omega) (by omega) K)
        · exact y_tableIn (tgt := 1019) dL_law_33 (by decide) (by decide) rfl (by decide) (law_25 hs h hm hw hj (by omega) hcs (by omega) (by omega) K)
        · exact y_tableIn (tgt := 1042) dL_law_33 (by decide) (by decide) rfl (by decide) (law_26 hs h hm hw hj (by omega) hcs (by omega) (by omega) K)
        · exact y_tableIn (tgt := 1065) dL_law_33 (by decide) (by decide) rfl (by decide) (law_27 hs h hm hw hj (by omega) hcs (by omega) (by omega) K)
        · exact y_tableIn (tgt := 1108) dL_law_33 (by decide) (by decide) rfl (by decide) (law_28 hs h hm hw hj (by omega) hcs (by omega) (by omega) K)
        · exact y_tableIn (tgt := 1141) dL_law_33 (by decide) (by decide) rfl (by decide) (law_29 hs h hm hw hj (by omega) hcs (by omega) (by omega) K)
        · exact y_tableIn (tgt := 1154) dL_law_33 (by decide) (by decide) rfl (by decide) (law_30 hs h hm hw hj (by omega) hcs (by omega) (by omega) K)
        · exact y_tableIn (tgt := 1177) dL_law_33 (by decide) (by decide) rfl (by decide) (law_31 hs h hm hw hj (by omega) hcs (by omega) (by omega) K)
        · exact y_tableIn (tgt := 1200) dL_law_33 (by decide) (by decide) rfl (by decide) (law_32 hs h hm hw hj (by omega) hcs (by omega) (by omega) K)
        · exact y_tableIn (tgt := 1223) dL_law_33 (by decide) (by decide) rfl (by decide) (law_33 hs h hm hw hj (by omega) hcs (by omega) (by omega) K)
      · exact y_tableOut (tgt := 1246) dL_law_33 (Or.inr (by rw [nI_toInt (by omega)]; omega)) (by decide) (K _ _ _ _ hs h hm hw hj.up)

