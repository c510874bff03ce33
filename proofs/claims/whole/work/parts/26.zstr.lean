/-! String constants: rules; the methods of the JDK that read them -/
def RJ0 : String := "java/lang/String"
def RJ1 : String := "java/lang/StringLatin1"
def RJ3 : String := "jdk/internal/util/Preconditions"
abbrev cJ0_length_8abf5 : ByteArray := prog_16_method_54_code
def yJ0_length_8abf5 : MethodName := ⟨RJ0, "length", "()I"⟩
abbrev cJ0_charAt_5068e : ByteArray := prog_16_method_56_code
def yJ0_charAt_5068e : MethodName := ⟨RJ0, "charAt", "(I)C"⟩
abbrev cJ0_coder_7d493 : ByteArray := prog_16_method_152_code
def yJ0_coder_7d493 : MethodName := ⟨RJ0, "coder", "()B"⟩
abbrev cJ0_isLatin1_aae02 : ByteArray := prog_16_method_154_code
def yJ0_isLatin1_aae02 : MethodName := ⟨RJ0, "isLatin1", "()Z"⟩
abbrev cJ0_checkIndex_df160 : ByteArray := prog_16_method_155_code
def yJ0_checkIndex_df160 : MethodName := ⟨RJ0, "checkIndex", "(II)V"⟩
abbrev cJ1_charAt_3b067 : ByteArray := prog_17_method_2_code
def yJ1_charAt_3b067 : MethodName := ⟨RJ1, "charAt", "([BI)C"⟩
abbrev cJ3_checkIndex_8e157 : ByteArray := prog_20_method_11_code
def yJ3_checkIndex_8e157 : MethodName := ⟨RJ3, "checkIndex", "(IILjava/util/function/BiFunction;)I"⟩
theorem dJ0_length_8abf5_0 : decode cJ0_length_8abf5 0 = .ok (.aload_n 0, 1) := by decide +kernel
theorem dJ0_length_8abf5_1 : decode cJ0_length_8abf5 1 = .ok (.getfield 9, 3) := by decide +kernel
theorem dJ0_length_8abf5_4 : decode cJ0_length_8abf5 4 = .ok (.arraylength, 1) := by decide +kernel
theorem dJ0_length_8abf5_5 : decode cJ0_length_8abf5 5 = .ok (.aload_n 0, 1) := by decide +kernel
theorem dJ0_length_8abf5_6 : decode cJ0_length_8abf5 6 = .ok (.invokevirtual 335, 3) := by decide +kernel
theorem dJ0_length_8abf5_9 : decode cJ0_length_8abf5 9 = .ok (.ishr, 1) := by decide +kernel
theorem dJ0_length_8abf5_10 : decode cJ0_length_8abf5 10 = .ok (.ireturn, 1) := by decide +kernel
theorem dJ0_charAt_5068e_0 : decode cJ0_charAt_5068e 0 = .ok (.aload_n 0, 1) := by decide +kernel
theorem dJ0_charAt_5068e_1 : decode cJ0_charAt_5068e 1 = .ok (.invokevirtual 492, 3) := by decide +kernel
theorem dJ0_charAt_5068e_4 : decode cJ0_charAt_5068e 4 = .ok (.ifCond .eq 12, 3) := by decide +kernel
theorem dJ0_charAt_5068e_7 : decode cJ0_charAt_5068e 7 = .ok (.aload_n 0, 1) := by decide +kernel
theorem dJ0_charAt_5068e_8 : decode cJ0_charAt_5068e 8 = .ok (.getfield 9, 3) := by decide +kernel
theorem dJ0_charAt_5068e_11 : decode cJ0_charAt_5068e 11 = .ok (.iload_n 1, 1) := by decide +kernel
theorem dJ0_charAt_5068e_12 : decode cJ0_charAt_5068e 12 = .ok (.invokestatic 495, 3) := by decide +kernel
theorem dJ0_charAt_5068e_15 : decode cJ0_charAt_5068e 15 = .ok (.ireturn, 1) := by decide +kernel
theorem dJ0_charAt_5068e_16 : decode cJ0_charAt_5068e 16 = .ok (.aload_n 0, 1) := by decide +kernel
theorem dJ0_charAt_5068e_17 : decode cJ0_charAt_5068e 17 = .ok (.getfield 9, 3) := by decide +kernel
theorem dJ0_charAt_5068e_20 : decode cJ0_charAt_5068e 20 = .ok (.iload_n 1, 1) := by decide +kernel
theorem dJ0_charAt_5068e_21 : decode cJ0_charAt_5068e 21 = .ok (.invokestatic 498, 3) := by decide +kernel
theorem dJ0_charAt_5068e_24 : decode cJ0_charAt_5068e 24 = .ok (.ireturn, 1) := by decide +kernel
theorem dJ0_coder_7d493_0 : decode cJ0_coder_7d493 0 = .ok (.getstatic 38, 3) := by decide +kernel
theorem dJ0_coder_7d493_3 : decode cJ0_coder_7d493 3 = .ok (.ifCond .eq 10, 3) := by decide +kernel
theorem dJ0_coder_7d493_6 : decode cJ0_coder_7d493 6 = .ok (.aload_n 0, 1) := by decide +kernel
theorem dJ0_coder_7d493_7 : decode cJ0_coder_7d493 7 = .ok (.getfield 15, 3) := by decide +kernel
theorem dJ0_coder_7d493_10 : decode cJ0_coder_7d493 10 = .ok (.goto 4, 3) := by decide +kernel
theorem dJ0_coder_7d493_13 : decode cJ0_coder_7d493 13 = .ok (.iconst 1, 1) := by decide +kernel
theorem dJ0_coder_7d493_14 : decode cJ0_coder_7d493 14 = .ok (.ireturn, 1) := by decide +kernel
theorem dJ0_isLatin1_aae02_0 : decode cJ0_isLatin1_aae02 0 = .ok (.getstatic 38, 3) := by decide +kernel
theorem dJ0_isLatin1_aae02_3 : decode cJ0_isLatin1_aae02 3 = .ok (.ifCond .eq 14, 3) := by decide +kernel
theorem dJ0_isLatin1_aae02_6 : decode cJ0_isLatin1_aae02 6 = .ok (.aload_n 0, 1) := by decide +kernel
theorem dJ0_isLatin1_aae02_7 : decode cJ0_isLatin1_aae02 7 = .ok (.getfield 15, 3) := by decide +kernel
theorem dJ0_isLatin1_aae02_10 : decode cJ0_isLatin1_aae02 10 = .ok (.ifCond .ne 7, 3) := by decide +kernel
theorem dJ0_isLatin1_aae02_13 : decode cJ0_isLatin1_aae02 13 = .ok (.iconst 1, 1) := by decide +kernel
theorem dJ0_isLatin1_aae02_14 : decode cJ0_isLatin1_aae02 14 = .ok (.goto 4, 3) := by decide +kernel
theorem dJ0_isLatin1_aae02_17 : decode cJ0_isLatin1_aae02 17 = .ok (.iconst 0, 1) := by decide +kernel
theorem dJ0_isLatin1_aae02_18 : decode cJ0_isLatin1_aae02 18 = .ok (.ireturn, 1) := by decide +kernel
theorem dJ0_checkIndex_df160_0 : decode cJ0_checkIndex_df160 0 = .ok (.iload_n 0, 1) := by decide +kernel
theorem dJ0_checkIndex_df160_1 : decode cJ0_checkIndex_df160 1 = .ok (.iload_n 1, 1) := by decide +kernel
theorem dJ0_checkIndex_df160_2 : decode cJ0_checkIndex_df160 2 = .ok (.getstatic 1053, 3) := by decide +kernel
theorem dJ0_checkIndex_df160_5 : decode cJ0_checkIndex_df160 5 = .ok (.invokestatic 1059, 3) := by decide +kernel
theorem dJ0_checkIndex_df160_8 : decode cJ0_checkIndex_df160 8 = .ok (.pop, 1) := by decide +kernel
theorem dJ0_checkIndex_df160_9 : decode cJ0_checkIndex_df160 9 = .ok (.return_, 1) := by decide +kernel
theorem dJ1_charAt_3b067_0 : decode cJ1_charAt_3b067 0 = .ok (.iload_n 1, 1) := by decide +kernel
theorem dJ1_charAt_3b067_1 : decode cJ1_charAt_3b067 1 = .ok (.aload_n 0, 1) := by decide +kernel
theorem dJ1_charAt_3b067_2 : decode cJ1_charAt_3b067 2 = .ok (.arraylength, 1) := by decide +kernel
theorem dJ1_charAt_3b067_3 : decode cJ1_charAt_3b067 3 = .ok (.invokestatic 9, 3) := by decide +kernel
theorem dJ1_charAt_3b067_6 : decode cJ1_charAt_3b067 6 = .ok (.aload_n 0, 1) := by decide +kernel
theorem dJ1_charAt_3b067_7 : decode cJ1_charAt_3b067 7 = .ok (.iload_n 1, 1) := by decide +kernel
theorem dJ1_charAt_3b067_8 : decode cJ1_charAt_3b067 8 = .ok (.baload, 1) := by decide +kernel
theorem dJ1_charAt_3b067_9 : decode cJ1_charAt_3b067 9 = .ok (.sipush 255, 3) := by decide +kernel
theorem dJ1_charAt_3b067_12 : decode cJ1_charAt_3b067 12 = .ok (.iand, 1) := by decide +kernel
theorem dJ1_charAt_3b067_13 : decode cJ1_charAt_3b067 13 = .ok (.i2c, 1) := by decide +kernel
theorem dJ1_charAt_3b067_14 : decode cJ1_charAt_3b067 14 = .ok (.ireturn, 1) := by decide +kernel
theorem dJ3_checkIndex_8e157_0 : decode cJ3_checkIndex_8e157 0 = .ok (.iload_n 0, 1) := by decide +kernel
theorem dJ3_checkIndex_8e157_1 : decode cJ3_checkIndex_8e157 1 = .ok (.ifCond .lt 8, 3) := by decide +kernel
theorem dJ3_checkIndex_8e157_4 : decode cJ3_checkIndex_8e157 4 = .ok (.iload_n 0, 1) := by decide +kernel
theorem dJ3_checkIndex_8e157_5 : decode cJ3_checkIndex_8e157 5 = .ok (.iload_n 1, 1) := by decide +kernel
theorem dJ3_checkIndex_8e157_6 : decode cJ3_checkIndex_8e157 6 = .ok (.if_icmp .lt 10, 3) := by decide +kernel
theorem dJ3_checkIndex_8e157_9 : decode cJ3_checkIndex_8e157 9 = .ok (.aload_n 2, 1) := by decide +kernel
theorem dJ3_checkIndex_8e157_10 : decode cJ3_checkIndex_8e157 10 = .ok (.iload_n 0, 1) := by decide +kernel
theorem dJ3_checkIndex_8e157_11 : decode cJ3_checkIndex_8e157 11 = .ok (.iload_n 1, 1) := by decide +kernel
theorem dJ3_checkIndex_8e157_12 : decode cJ3_checkIndex_8e157 12 = .ok (.invokestatic 95, 3) := by decide +kernel
theorem dJ3_checkIndex_8e157_15 : decode cJ3_checkIndex_8e157 15 = .ok (.athrow, 1) := by decide +kernel
theorem dJ3_checkIndex_8e157_16 : decode cJ3_checkIndex_8e157 16 = .ok (.iload_n 0, 1) := by decide +kernel
theorem dJ3_checkIndex_8e157_17 : decode cJ3_checkIndex_8e157 17 = .ok (.ireturn, 1) := by decide +kernel
def mJ0_length_8abf5 : Mt := (yJ0_length_8abf5, cJ0_length_8abf5, 1, some .int)
def mJ0_charAt_5068e : Mt := (yJ0_charAt_5068e, cJ0_charAt_5068e, 2, some .char)
def mJ0_coder_7d493 : Mt := (yJ0_coder_7d493, cJ0_coder_7d493, 1, some .byte)
def mJ0_isLatin1_aae02 : Mt := (yJ0_isLatin1_aae02, cJ0_isLatin1_aae02, 1, some .boolean)
def mJ0_checkIndex_df160 : Mt := (yJ0_checkIndex_df160, cJ0_checkIndex_df160, 2, none)
def mJ1_charAt_3b067 : Mt := (yJ1_charAt_3b067, cJ1_charAt_3b067, 2, some .char)
def mJ3_checkIndex_8e157 : Mt := (yJ3_checkIndex_8e157, cJ3_checkIndex_8e157, 3, some .int)
theorem kJ0_length_8abf5 : zYi mJ0_length_8abf5 0 := ⟨⟨zin 715 (by decide +kernel) (by decide +kernel), zin 16 (by decide +kernel) (by decide +kernel), ⟨by decide +kernel, by decide +kernel, by decide +kernel⟩, by decide⟩, zin 713 (by decide +kernel) (by decide +kernel), zin 714 (by decide +kernel) (by decide +kernel)⟩
theorem kJ0_coder_7d493 : zYi mJ0_coder_7d493 0 := ⟨⟨zin 719 (by decide +kernel) (by decide +kernel), zin 16 (by decide +kernel) (by decide +kernel), ⟨by decide +kernel, by decide +kernel, by decide +kernel⟩, by decide⟩, zin 717 (by decide +kernel) (by decide +kernel), zin 718 (by decide +kernel) (by decide +kernel)⟩
theorem kJ0_charAt_5068e : zYi mJ0_charAt_5068e 1 := ⟨⟨zin 729 (by decide +kernel) (by decide +kernel), zin 16 (by decide +kernel) (by decide +kernel), ⟨by decide +kernel, by decide +kernel, by decide +kernel⟩, by decide⟩, zin 727 (by decide +kernel) (by decide +kernel), zin 728 (by decide +kernel) (by decide +kernel)⟩
theorem kJ0_isLatin1_aae02 : zYi mJ0_isLatin1_aae02 0 := ⟨⟨zin 733 (by decide +kernel) (by decide +kernel), zin 16 (by decide +kernel) (by decide +kernel), ⟨by decide +kernel, by decide +kernel, by decide +kernel⟩, by decide⟩, zin 731 (by decide +kernel) (by decide +kernel), zin 732 (by decide +kernel) (by decide +kernel)⟩
theorem kJ1_charAt_3b067 : zYs mJ1_charAt_3b067 2 := ⟨⟨zin 736 (by decide +kernel) (by decide +kernel), zin 17 (by decide +kernel) (by decide +kernel), ⟨by decide +kernel, by decide +kernel, by decide +kernel⟩, by decide⟩, zin 735 (by decide +kernel) (by decide +kernel)⟩
theorem kJ0_checkIndex_df160 : zYs mJ0_checkIndex_df160 2 := ⟨⟨zin 739 (by decide +kernel) (by decide +kernel), zin 16 (by decide +kernel) (by decide +kernel), ⟨by decide +kernel, by decide +kernel, by decide +kernel⟩, by decide⟩, zin 738 (by decide +kernel) (by decide +kernel)⟩
theorem kJ3_checkIndex_8e157 : zYs mJ3_checkIndex_8e157 3 := ⟨⟨zin 744 (by decide +kernel) (by decide +kernel), zin 18 (by decide +kernel) (by decide +kernel), ⟨by decide +kernel, by decide +kernel, by decide +kernel⟩, by decide⟩, zin 743 (by decide +kernel) (by decide +kernel)⟩
theorem lJ0_335 : Cond.methodLink RJ0 335 yJ0_coder_7d493 ∈ zT := zin 716 (by decide +kernel) (by decide +kernel)
theorem lJ0_492 : Cond.methodLink RJ0 492 yJ0_isLatin1_aae02 ∈ zT := zin 730 (by decide +kernel) (by decide +kernel)
theorem lJ0_495 : Cond.methodLink RJ0 495 yJ1_charAt_3b067 ∈ zT := zin 734 (by decide +kernel) (by decide +kernel)
theorem lJ1_9 : Cond.methodLink RJ1 9 yJ0_checkIndex_df160 ∈ zT := zin 737 (by decide +kernel) (by decide +kernel)
theorem lJ0_1059 : Cond.methodLink RJ0 1059 yJ3_checkIndex_8e157 ∈ zT := zin 742 (by decide +kernel) (by decide +kernel)
theorem fJ0_38 : Cond.fieldLink RJ0 38 "java/lang/String" "COMPACT_STRINGS" "Z" ∈ zT := zin 720 (by decide +kernel) (by decide +kernel)
theorem fJ0_9 : Cond.fieldLink RJ0 9 "java/lang/String" "value" "[B" ∈ zT := zin 1724 (by decide +kernel) (by decide +kernel)
theorem fJ0_15 : Cond.fieldLink RJ0 15 "java/lang/String" "coder" "B" ∈ zT := zin 1725 (by decide +kernel) (by decide +kernel)
theorem fJ0_1053 : Cond.fieldLink RJ0 1053 "jdk/internal/util/Preconditions" "SIOOBE_FORMATTER" "Ljava/util/function/BiFunction;" ∈ zT := zin 740 (by decide +kernel) (by decide +kernel)
def zchr : List (List Nat) := [[105, 110, 100, 101, 120], [100, 101, 115, 99], [117, 110, 105, 113, 117, 101], [119, 104, 101, 114, 101], [102, 105, 110, 100], [97, 110, 100], [111, 114, 100, 101, 114]]
/-- the k-th char of the i-th String constant -/
def zch (i k : Nat) : Nat := (zchr.getD i []).getD k 0
def zln (i : Nat) : Nat := zlen.getD i 0
theorem zln_shr : ∀ i, i < 7 → nI (zln i) >>> ((0 : Int32) &&& 31) = nI (zln i) := by decide +kernel
theorem zln_lt : ∀ i, i < 7 → zln i < 10 := by decide +kernel
theorem zch_ok : ∀ i, i < 7 → ∀ k, k < zln i → (((zbyt.getD i []).getD k 0 &&& nI 255).toUInt32 % 65536).toInt32 = nI (zch i k) := by decide +kernel
theorem zch_nar : ∀ i, i < 7 → ∀ k, k < zln i → narrow .char (.int (nI (zch i k))) = .int (nI (zch i k)) := by decide +kernel
theorem zch_lt : ∀ i, i < 7 → ∀ k, k < zln i → zch i k < 128 := by decide +kernel
section ZS
variable {D : zD} {z0 d mc ms : Nat} {y : Mt} {cells slots pc : Nat} {lv : List (Option Value)} {st : List Value} {L : zL} {V : zV} {nx : Nat} {P : zP}
theorem z_nreturn {x : Int32} {ty : FieldType} (hd : decode y.2.1 pc = .ok (.ireturn, 1)) (hc : cells ≤ mc) (hs : slots ≤ ms) (hr0 : y.2.2.2 = some ty) (hn : narrow ty (.int x) = .int x) (hp : P (some (.int x)) L V nx) : Z D z0 d mc ms y cells slots pc lv [.int x] L V nx P := fun p l e s m args below meth c H locs Q ls hC hl hr hH hf => W.widen hc hs (hf H locs (some (.int x)) L V nx pc ls hp hr hH ⟨hd, x, ty, rfl, hr0, hn⟩)
theorem z_pop {va : Value} (hd : decode y.2.1 pc = .ok (.pop, 1)) (hva : va.category = 1) (k : Z D z0 d mc ms y cells slots (pc + 1) lv st L V nx P) : Z D z0 d mc ms y cells slots pc lv (va :: st) L V nx P := fun p l e s m args below meth c H locs Q ls hC hl hr hH hf => lv_pop hC.1 hC.2.1 hd hva (k p l e s m args below meth c H locs Q ls hC hl hr hH hf)
theorem z_i2c {x v : Int32} (hd : decode y.2.1 pc = .ok (.i2c, 1)) (hv : (x.toUInt32 % 65536).toInt32 = v) (k : Z D z0 d mc ms y cells slots (pc + 1) lv (.int v :: st) L V nx P) : Z D z0 d mc ms y cells slots pc lv (.int x :: st) L V nx P := fun p l e s m args below meth c H locs Q ls hC hl hr hH hf => lv_i2c hC.1 hC.2.1 hd hv (k p l e s m args below meth c H locs Q ls hC hl hr hH hf)
theorem z_ldcS {i idx : Nat} (hd : decode y.2.1 pc = .ok (.ldc idx, 2)) (hi : i < 7) (ho : y.1.cls = "LateIndex$Tape") (hx : (zsN.getD i (0, "")).1 = idx) (kk : Z D z0 d mc ms y cells slots (pc + 2) lv (.ref (D.2 (100 + i)) :: st) L V nx P) : Z D z0 d mc ms y cells slots pc lv st L V nx P := by
  intro p l e s m args below meth c H locs Q ls hC hl hr hH hf
  have hk := hC.2.2.2.2.2.2.2.2
  subst hx
  exact va_ldcS hC.1 hC.2.1 (by rw [← ho]; exact hC.2.2.2.2.1) (hk.2.2.2.2.1 i hi) hd (kk p l e s m args below meth c H locs Q ls hC hl hr hH hf)
theorem z_gets {idx : Nat} (hd : decode y.2.1 pc = .ok (.getstatic idx, 3)) (hlk : Cond.fieldLink y.1.cls idx "java/lang/String" "COMPACT_STRINGS" "Z" ∈ zT) (kk : Z D z0 d mc ms y cells slots (pc + 3) lv (.int 1 :: st) L V nx P) : Z D z0 d mc ms y cells slots pc lv st L V nx P := by
  intro p l e s m args below meth c H locs Q ls hC hl hr hH hf
  have hk := hC.2.2.2.2.2.2.2.2
  have hts := hC.2.2.2.2.2.2.2.1
  obtain ⟨cf, kf, fi, f, a, cell, h1, h2, h3, h4, h5, h6, h7, h8⟩ := hk.2.2.2.2.2.1
  have h9 : ¬ z0 ≤ a := h8
  exact W.gets hC.1 hC.2.1 hC.2.2.2.2.1 (hts _ hlk) h1 h2 h3 h4 (by rw [hH.2 a (by omega)]; exact h5) (fun e => by rw [e] at h6; cases h6) h7 rfl hd (kk p l e s m args below meth c H locs Q ls hC hl hr hH hf)
theorem z_getsq {idx : Nat} (hd : decode y.2.1 pc = .ok (.getstatic idx, 3)) (hlk : Cond.fieldLink y.1.cls idx "jdk/internal/util/Preconditions" "SIOOBE_FORMATTER" "Ljava/util/function/BiFunction;" ∈ zT) (kk : ∀ v : Value, (v = .null ∨ ∃ t : Nat, v = .ref t) → Z D z0 d mc ms y cells slots (pc + 3) lv (v :: st) L V nx P) : Z D z0 d mc ms y cells slots pc lv st L V nx P := by
  intro p l e s m args below meth c H locs Q ls hC hl hr hH hf
  have hk := hC.2.2.2.2.2.2.2.2
  have hts := hC.2.2.2.2.2.2.2.1
  rcases hk.2.2.2.2.2.2 with hq | ⟨t, hq⟩
  · obtain ⟨cf, kf, fi, f, a, cell, h1, h2, h3, h4, h5, h6, h7, h8⟩ := hq
    have h9 : ¬ z0 ≤ a := h8
    exact W.gets hC.1 hC.2.1 hC.2.2.2.2.1 (hts _ hlk) h1 h2 h3 h4 (by rw [hH.2 a (by omega)]; exact h5) (fun e => by rw [e] at h6; cases h6) h7 rfl hd (kk _ (Or.inl rfl) p l e s m args below meth c H locs Q ls hC hl hr hH hf)
  · obtain ⟨cf, kf, fi, f, a, cell, h1, h2, h3, h4, h5, h6, h7, h8⟩ := hq
    have h9 : ¬ z0 ≤ a := h8
    exact W.gets hC.1 hC.2.1 hC.2.2.2.2.1 (hts _ hlk) h1 h2 h3 h4 (by rw [hH.2 a (by omega)]; exact h5) (fun e => by rw [e] at h6; cases h6) h7 rfl hd (kk _ (Or.inr ⟨t, rfl⟩) p l e s m args below meth c H locs Q ls hC hl hr hH hf)
theorem z_strV {idx i : Nat} (hd : decode y.2.1 pc = .ok (.getfield idx, 3)) (hi : i < 7) (hlk : Cond.fieldLink y.1.cls idx "java/lang/String" "value" "[B" ∈ zT) (kk : Z D z0 d mc ms y cells slots (pc + 3) lv (.ref (D.2 (200 + i)) :: st) L V nx P) : Z D z0 d mc ms y cells slots pc lv (.ref (D.2 (100 + i)) :: st) L V nx P := by
  intro p l e s m args below meth c H locs Q ls hC hl hr hH hf
  have hk := hC.2.2.2.2.2.2.2.2
  have hts := hC.2.2.2.2.2.2.2.1
  obtain ⟨cf, k, fi, f, cell, h1, h2, h3, h4, h5, h6⟩ := (hk.2.2.2.1.1 i hi).2.2.1
  have h9 : ¬ z0 ≤ D.2 (100 + i) := h6
  exact W.getf hC.1 hC.2.1 hC.2.2.2.2.1 (hts _ hlk) h1 h2 (by rw [hH.2 _ (by omega)]; exact h3) h4 h5 rfl rfl hd (kk p l e s m args below meth c H locs Q ls hC hl hr hH hf)
theorem z_strC {idx i : Nat} (hd : decode y.2.1 pc = .ok (.getfield idx, 3)) (hi : i < 7) (hlk : Cond.fieldLink y.1.cls idx "java/lang/String" "coder" "B" ∈ zT) (kk : Z D z0 d mc ms y cells slots (pc + 3) lv (.int 0 :: st) L V nx P) : Z D z0 d mc ms y cells slots pc lv (.ref (D.2 (100 + i)) :: st) L V nx P := by
  intro p l e s m args below meth c H locs Q ls hC hl hr hH hf
  have hk := hC.2.2.2.2.2.2.2.2
  have hts := hC.2.2.2.2.2.2.2.1
  obtain ⟨cf, k, fi, f, cell, h1, h2, h3, h4, h5, h6⟩ := (hk.2.2.2.1.1 i hi).2.1
  have h9 : ¬ z0 ≤ D.2 (100 + i) := h6
  exact W.getf hC.1 hC.2.1 hC.2.2.2.2.1 (hts _ hlk) h1 h2 (by rw [hH.2 _ (by omega)]; exact h3) h4 h5 rfl rfl hd (kk p l e s m args below meth c H locs Q ls hC hl hr hH hf)
theorem z_strL {i : Nat} (hd : decode y.2.1 pc = .ok (.arraylength, 1)) (hi : i < 7) (kk : Z D z0 d mc ms y cells slots (pc + 1) lv (.int (nI (zln i)) :: st) L V nx P) : Z D z0 d mc ms y cells slots pc lv (.ref (D.2 (200 + i)) :: st) L V nx P := by
  intro p l e s m args below meth c H locs Q ls hC hl hr hH hf
  have hk := hC.2.2.2.2.2.2.2.2
  obtain ⟨cell, h1, h2, h3, h4, h5, h6, h7⟩ := (hk.2.2.2.1.1 i hi).2.2.2
  have h9 : ¬ z0 ≤ D.2 (200 + i) := h7
  exact W.alen (n := nI (zln i)) (ty := .byte) hC.1 hC.2.1 (by rw [hH.2 _ (by omega)]; exact h1) h2 h5 rfl rfl hd (kk p l e s m args below meth c H locs Q ls hC hl hr hH hf)
theorem z_strB {i k : Nat} (hd : decode y.2.1 pc = .ok (.baload, 1)) (hi : i < 7) (hk0 : k < zln i) (kk : Z D z0 d mc ms y cells slots (pc + 1) lv (.int ((zbyt.getD i []).getD k 0) :: st) L V nx P) : Z D z0 d mc ms y cells slots pc lv (.int (nI k) :: .ref (D.2 (200 + i)) :: st) L V nx P := by
  intro p l e s m args below meth c H locs Q ls hC hl hr hH hf
  have hk := hC.2.2.2.2.2.2.2.2
  have hk1 := zln_lt i hi
  obtain ⟨cell, h1, h2, h3, h4, h5, h6, h7⟩ := (hk.2.2.2.1.1 i hi).2.2.2
  have h9 : ¬ z0 ≤ D.2 (200 + i) := h7
  have h4' : zln i ≤ cell.slots.size := h4
  have hcl : (nI k).toNatClampNeg = k := nI_clamp (by omega)
  exact W.bald (v := .int ((zbyt.getD i []).getD k 0)) hC.1 hC.2.1 (by rw [hH.2 _ (by omega)]; exact h1) h2 h3 (by rw [hcl]; exact fun q => q.elim (nI_pos (by omega)) (fun q2 => by omega)) (by rw [hcl]; exact h6 k hk0) rfl rfl hd (kk p l e s m args below meth c H locs Q ls hC hl hr hH hf)
theorem z_callVs {y' : Mt} {i idx n d' mc' ms' : Nat} {As st0 : List Value} {P' : zP} (hd : decode y.2.1 pc = .ok (.invokevirtual idx, 3)) (hi : i < 7) (hY : zYi y' n) (hlk : Cond.methodLink y.1.cls idx y'.1 ∈ zT) (hcl : y'.1.cls = "java/lang/String") (hS : Sp D z0 d' mc' ms' y' (.ref (D.2 (100 + i)) :: As) L V nx P') (hn : As.length = n) (hst : st0 = As.reverse ++ .ref (D.2 (100 + i)) :: st) (hsum : (st.map fun v => v.category).sum ≤ 8) (hdd : d' + 1 ≤ d) (hcs : cells + mc' ≤ mc ∧ slots + ms' ≤ ms)
    (kk : ∀ v L' V' nx', P' v L' V' nx' → Z D z0 d mc ms y (cells + mc') (slots + ms') (pc + 3) lv (v.toList ++ st) L' V' nx' P) : Z D z0 d mc ms y cells slots pc lv st0 L V nx P := by
  refine z_run (av := (Value.ref (D.2 (100 + i)) :: As).toArray) ?_ kk
  intro p l e s m args below meth c H locs ls hC hl hr hH
  have hk := hC.2.2.2.2.2.2.2.2
  have hts := hC.2.2.2.2.2.2.2.1
  have hrc : ∃ cellB : Cell, H[D.2 (100 + i)]? = some cellB ∧ cellB.vm.isStatics = false ∧ s.vm.findClass y'.1.cls = some cellB.cls := by
    obtain ⟨cell, h1, h2, h3, h4⟩ := (hk.2.2.2.1.1 i hi).1
    have h9 : ¬ z0 ≤ D.2 (100 + i) := h4
    exact ⟨cell, by rw [hH.2 _ (by omega)]; exact h1, h2, by rw [hcl]; exact h3⟩
  exact va_runV (C := y'.1.cls) (As := As) (rest := st) ⟨hC.1, hC.2.1, hC.2.2.2.1, hC.2.2.2.2.1, hts⟩ (hS l) ⟨z_cb hts hY.1 hlk hdd (by show 40 * (d' + 1) ≤ 40 * d; omega), hts _ hY.2.1, hts _ hY.2.2⟩ ⟨zPc_blind, hrc, (z_pre hk hr hH).2⟩ rfl hn hl.1 hst (lv_room hsum) hd hcs
theorem z_callVs0 {y' : Mt} {i idx d' mc' ms' : Nat} {x : Int32} {L' : zL} {V' : zV} {nx' : Nat} (hd : decode y.2.1 pc = .ok (.invokevirtual idx, 3)) (hi : i < 7) (hY : zYi y' 0) (hlk : Cond.methodLink y.1.cls idx y'.1 ∈ zT) (hcl : y'.1.cls = "java/lang/String") (hS : Sp D z0 d' mc' ms' y' [.ref (D.2 (100 + i))] L V nx (zi x L' V' nx')) (hsum : (st.map fun v => v.category).sum ≤ 8) (hdd : d' + 1 ≤ d) (hcs : cells + mc' ≤ mc ∧ slots + ms' ≤ ms) (kk : Z D z0 d mc ms y (cells + mc') (slots + ms') (pc + 3) lv (.int x :: st) L' V' nx' P) : Z D z0 d mc ms y cells slots pc lv (.ref (D.2 (100 + i)) :: st) L V nx P := z_callVs (As := []) (st := st) hd hi hY hlk hcl hS rfl rfl hsum hdd hcs (fun v L2 V2 n2 h => by obtain ⟨rfl, rfl, rfl, rfl⟩ := h; exact kk)
theorem z_callVs1 {y' : Mt} {i idx d' mc' ms' : Nat} {v1 : Value} {x : Int32} {L' : zL} {V' : zV} {nx' : Nat} (hd : decode y.2.1 pc = .ok (.invokevirtual idx, 3)) (hi : i < 7) (hY : zYi y' 1) (hlk : Cond.methodLink y.1.cls idx y'.1 ∈ zT) (hcl : y'.1.cls = "java/lang/String") (hS : Sp D z0 d' mc' ms' y' [.ref (D.2 (100 + i)), v1] L V nx (zi x L' V' nx')) (hsum : (st.map fun v => v.category).sum ≤ 8) (hdd : d' + 1 ≤ d) (hcs : cells + mc' ≤ mc ∧ slots + ms' ≤ ms) (kk : Z D z0 d mc ms y (cells + mc') (slots + ms') (pc + 3) lv (.int x :: st) L' V' nx' P) : Z D z0 d mc ms y cells slots pc lv (v1 :: .ref (D.2 (100 + i)) :: st) L V nx P := z_callVs (As := [v1]) (st := st) hd hi hY hlk hcl hS rfl rfl hsum hdd hcs (fun v L2 V2 n2 h => by obtain ⟨rfl, rfl, rfl, rfl⟩ := h; exact kk)
end ZS

theorem s_ckIN {D : zD} {z0 nx : Nat} {L : zL} {V : zV} {k n : Nat} (hk : k < n) (hn : n < 2147483648) : Sp D z0 1 0 0 mJ3_checkIndex_8e157 [.int (nI k), .int (nI n), .null] L V nx (zi (nI k) L V nx) := by
  refine Sp.of 0 (by decide) rfl rfl (Nat.le_of_ble_eq_true rfl) ?_
  refine z_iload_n dJ3_checkIndex_8e157_0 rfl ?_
  refine z_if_ltN (tgt := 9) dJ3_checkIndex_8e157_1 (by decide) (by omega) ?_
  refine z_iload_n dJ3_checkIndex_8e157_4 rfl ?_
  refine z_iload_n dJ3_checkIndex_8e157_5 rfl ?_
  refine z_icmp_ltN (tgt := 16) dJ3_checkIndex_8e157_6 (by decide) (by omega) (by omega) (fun c => ?_) (fun c => absurd c (by omega))
  refine z_iload_n dJ3_checkIndex_8e157_16 rfl ?_
  refine z_ireturn dJ3_checkIndex_8e157_17 (Nat.le_of_ble_eq_true rfl) (Nat.le_of_ble_eq_true rfl) rfl ?_
  exact zi_r rfl
theorem s_ckIR {D : zD} {z0 nx : Nat} {L : zL} {V : zV} {k n t : Nat} (hk : k < n) (hn : n < 2147483648) : Sp D z0 1 0 0 mJ3_checkIndex_8e157 [.int (nI k), .int (nI n), .ref t] L V nx (zi (nI k) L V nx) := by
  refine Sp.of 0 (by decide) rfl rfl (Nat.le_of_ble_eq_true rfl) ?_
  refine z_iload_n dJ3_checkIndex_8e157_0 rfl ?_
  refine z_if_ltN (tgt := 9) dJ3_checkIndex_8e157_1 (by decide) (by omega) ?_
  refine z_iload_n dJ3_checkIndex_8e157_4 rfl ?_
  refine z_iload_n dJ3_checkIndex_8e157_5 rfl ?_
  refine z_icmp_ltN (tgt := 16) dJ3_checkIndex_8e157_6 (by decide) (by omega) (by omega) (fun c => ?_) (fun c => absurd c (by omega))
  refine z_iload_n dJ3_checkIndex_8e157_16 rfl ?_
  refine z_ireturn dJ3_checkIndex_8e157_17 (Nat.le_of_ble_eq_true rfl) (Nat.le_of_ble_eq_true rfl) rfl ?_
  exact zi_r rfl
theorem s_ckS {D : zD} {z0 nx : Nat} {L : zL} {V : zV} {k n : Nat} (hk : k < n) (hn : n < 2147483648) : Sp D z0 2 0 0 mJ0_checkIndex_df160 [.int (nI k), .int (nI n)] L V nx (zv L V nx) := by
  refine Sp.of 0 (by decide) rfl rfl (Nat.le_of_ble_eq_true rfl) ?_
  refine z_iload_n dJ0_checkIndex_df160_0 rfl ?_
  refine z_iload_n dJ0_checkIndex_df160_1 rfl ?_
  refine z_getsq dJ0_checkIndex_df160_2 fJ0_1053 (fun v hv => ?_)
  rcases hv with rfl | ⟨t, rfl⟩
  · refine z_callS3i dJ0_checkIndex_df160_5 kJ3_checkIndex_8e157 lJ0_1059 (s_ckIN hk hn) (Nat.le_of_ble_eq_true rfl) (Nat.le_of_ble_eq_true rfl) ⟨Nat.le_of_ble_eq_true rfl, Nat.le_of_ble_eq_true rfl⟩ ?_
    refine z_pop dJ0_checkIndex_df160_8 rfl ?_
    refine z_return dJ0_checkIndex_df160_9 (Nat.le_of_ble_eq_true rfl) (Nat.le_of_ble_eq_true rfl) rfl ?_
    exact zv_r rfl
  · refine z_callS3i dJ0_checkIndex_df160_5 kJ3_checkIndex_8e157 lJ0_1059 (s_ckIR hk hn) (Nat.le_of_ble_eq_true rfl) (Nat.le_of_ble_eq_true rfl) ⟨Nat.le_of_ble_eq_true rfl, Nat.le_of_ble_eq_true rfl⟩ ?_
    refine z_pop dJ0_checkIndex_df160_8 rfl ?_
    refine z_return dJ0_checkIndex_df160_9 (Nat.le_of_ble_eq_true rfl) (Nat.le_of_ble_eq_true rfl) rfl ?_
    exact zv_r rfl
theorem s_chL {D : zD} {z0 nx : Nat} {L : zL} {V : zV} {i k : Nat} (hi : i < 7) (hk : k < zln i) : Sp D z0 3 0 0 mJ1_charAt_3b067 [.ref (D.2 (200 + i)), .int (nI k)] L V nx (zi (nI (zch i k)) L V nx) := by
  refine Sp.of 0 (by decide) rfl rfl (Nat.le_of_ble_eq_true rfl) ?_
  refine z_iload_n dJ1_charAt_3b067_0 rfl ?_
  refine z_aload_n dJ1_charAt_3b067_1 rfl ?_
  refine z_strL dJ1_charAt_3b067_2 hi ?_
  refine z_callS2v dJ1_charAt_3b067_3 kJ0_checkIndex_df160 lJ1_9 (s_ckS hk (by have := zln_lt i hi; omega)) (Nat.le_of_ble_eq_true rfl) (Nat.le_of_ble_eq_true rfl) ⟨Nat.le_of_ble_eq_true rfl, Nat.le_of_ble_eq_true rfl⟩ ?_
  refine z_aload_n dJ1_charAt_3b067_6 rfl ?_
  refine z_iload_n dJ1_charAt_3b067_7 rfl ?_
  refine z_strB dJ1_charAt_3b067_8 hi hk ?_
  refine z_sipush (v := nI 255) dJ1_charAt_3b067_9 rfl ?_
  refine z_iand dJ1_charAt_3b067_12 ?_
  refine z_i2c dJ1_charAt_3b067_13 (zch_ok i hi k hk) ?_
  refine z_nreturn dJ1_charAt_3b067_14 (Nat.le_of_ble_eq_true rfl) (Nat.le_of_ble_eq_true rfl) rfl (zch_nar i hi k hk) ?_
  exact zi_r rfl
theorem s_coder {D : zD} {z0 nx : Nat} {L : zL} {V : zV} {i : Nat} (hi : i < 7) : Sp D z0 1 0 0 mJ0_coder_7d493 [.ref (D.2 (100 + i))] L V nx (zi 0 L V nx) := by
  refine Sp.of 0 (by decide) rfl rfl (Nat.le_of_ble_eq_true rfl) ?_
  refine z_gets dJ0_coder_7d493_0 fJ0_38 ?_
  refine z_if_eq (tgt := 13) dJ0_coder_7d493_3 (by decide) (fun c => absurd c (by decide)) (fun _ => ?_)
  refine z_aload_n dJ0_coder_7d493_6 rfl ?_
  refine z_strC dJ0_coder_7d493_7 hi fJ0_15 ?_
  refine z_goto (tgt := 14) dJ0_coder_7d493_10 (by decide) ?_
  refine z_nreturn dJ0_coder_7d493_14 (Nat.le_of_ble_eq_true rfl) (Nat.le_of_ble_eq_true rfl) rfl rfl ?_
  exact zi_r rfl
theorem s_latin {D : zD} {z0 nx : Nat} {L : zL} {V : zV} {i : Nat} (hi : i < 7) : Sp D z0 1 0 0 mJ0_isLatin1_aae02 [.ref (D.2 (100 + i))] L V nx (zi 1 L V nx) := by
  refine Sp.of 0 (by decide) rfl rfl (Nat.le_of_ble_eq_true rfl) ?_
  refine z_gets dJ0_isLatin1_aae02_0 fJ0_38 ?_
  refine z_if_eq (tgt := 17) dJ0_isLatin1_aae02_3 (by decide) (fun c => absurd c (by decide)) (fun _ => ?_)
  refine z_aload_n dJ0_isLatin1_aae02_6 rfl ?_
  refine z_strC dJ0_isLatin1_aae02_7 hi fJ0_15 ?_
  refine z_if_ne (tgt := 17) dJ0_isLatin1_aae02_10 (by decide) (fun c => absurd rfl c) (fun _ => ?_)
  refine z_iconst (v := 1) dJ0_isLatin1_aae02_13 rfl ?_
  refine z_goto (tgt := 18) dJ0_isLatin1_aae02_14 (by decide) ?_
  refine z_zreturn dJ0_isLatin1_aae02_18 (Nat.le_of_ble_eq_true rfl) (Nat.le_of_ble_eq_true rfl) rfl (Or.inr rfl) ?_
  exact zi_r rfl
theorem s_strlen {D : zD} {z0 nx : Nat} {L : zL} {V : zV} {i : Nat} (hi : i < 7) : Sp D z0 2 0 0 mJ0_length_8abf5 [.ref (D.2 (100 + i))] L V nx (zi (nI (zln i)) L V nx) := by
  refine Sp.of 0 (by decide) rfl rfl (Nat.le_of_ble_eq_true rfl) ?_
  refine z_aload_n dJ0_length_8abf5_0 rfl ?_
  refine z_strV dJ0_length_8abf5_1 hi fJ0_9 ?_
  refine z_strL dJ0_length_8abf5_4 hi ?_
  refine z_aload_n dJ0_length_8abf5_5 rfl ?_
  refine z_callVs0 dJ0_length_8abf5_6 hi kJ0_coder_7d493 lJ0_335 rfl (s_coder hi) (Nat.le_of_ble_eq_true rfl) (Nat.le_of_ble_eq_true rfl) ⟨Nat.le_of_ble_eq_true rfl, Nat.le_of_ble_eq_true rfl⟩ ?_
  refine z_ishr dJ0_length_8abf5_9 ?_
  rw [zln_shr i hi]
  refine z_ireturn dJ0_length_8abf5_10 (Nat.le_of_ble_eq_true rfl) (Nat.le_of_ble_eq_true rfl) rfl ?_
  exact zi_r rfl
theorem s_charAt {D : zD} {z0 nx : Nat} {L : zL} {V : zV} {i k : Nat} (hi : i < 7) (hk : k < zln i) : Sp D z0 4 0 0 mJ0_charAt_5068e [.ref (D.2 (100 + i)), .int (nI k)] L V nx (zi (nI (zch i k)) L V nx) := by
  refine Sp.of 0 (by decide) rfl rfl (Nat.le_of_ble_eq_true rfl) ?_
  refine z_aload_n dJ0_charAt_5068e_0 rfl ?_
  refine z_callVs0 dJ0_charAt_5068e_1 hi kJ0_isLatin1_aae02 lJ0_492 rfl (s_latin hi) (Nat.le_of_ble_eq_true rfl) (Nat.le_of_ble_eq_true rfl) ⟨Nat.le_of_ble_eq_true rfl, Nat.le_of_ble_eq_true rfl⟩ ?_
  refine z_if_eq (tgt := 16) dJ0_charAt_5068e_4 (by decide) (fun c => absurd c (by decide)) (fun _ => ?_)
  refine z_aload_n dJ0_charAt_5068e_7 rfl ?_
  refine z_strV dJ0_charAt_5068e_8 hi fJ0_9 ?_
  refine z_iload_n dJ0_charAt_5068e_11 rfl ?_
  refine z_callS2i dJ0_charAt_5068e_12 kJ1_charAt_3b067 lJ0_495 (s_chL hi hk) (Nat.le_of_ble_eq_true rfl) (Nat.le_of_ble_eq_true rfl) ⟨Nat.le_of_ble_eq_true rfl, Nat.le_of_ble_eq_true rfl⟩ ?_
  refine z_nreturn dJ0_charAt_5068e_15 (Nat.le_of_ble_eq_true rfl) (Nat.le_of_ble_eq_true rfl) rfl (zch_nar i hi k hk) ?_
  exact zi_r rfl
