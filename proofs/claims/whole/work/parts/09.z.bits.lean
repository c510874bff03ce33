section ZBits
variable {D : zD} {z0 d mc ms : Nat} {y : Mt} {cells slots pc : Nat} {lv : List (Option Value)} {st : List Value} {L : zL} {V : zV} {nx : Nat} {P : zP}
theorem z_shlN {a b : Nat} (hd : decode y.2.1 pc = .ok (.ishl, 1)) (hb : ((nI b &&& 31).toBitVec.smod 32).toNat = b) (h : a * 2 ^ b < 4294967296) (k : Z D z0 d mc ms y cells slots (pc + 1) lv (.int (nI (a * 2 ^ b)) :: st) L V nx P) : Z D z0 d mc ms y cells slots pc lv (.int (nI b) :: .int (nI a) :: st) L V nx P := z_ishl hd (by rw [pk_shlN _ b hb h]; exact k)
theorem z_shrN {a b : Nat} (hd : decode y.2.1 pc = .ok (.ishr, 1)) (hb : ((nI b &&& 31).toBitVec.smod 32).toNat = b) (h : a < 2147483648) (k : Z D z0 d mc ms y cells slots (pc + 1) lv (.int (nI (a / 2 ^ b)) :: st) L V nx P) : Z D z0 d mc ms y cells slots pc lv (.int (nI b) :: .int (nI a) :: st) L V nx P := z_ishr hd (by rw [pk_shrN h _ b hb]; exact k)
theorem z_andN {a m j : Nat} (hd : decode y.2.1 pc = .ok (.iand, 1)) (hm : (nI m).toBitVec.toNat = 2 ^ j - 1) (h : a < 4294967296) (k : Z D z0 d mc ms y cells slots (pc + 1) lv (.int (nI (a % 2 ^ j)) :: st) L V nx P) : Z D z0 d mc ms y cells slots pc lv (.int (nI m) :: .int (nI a) :: st) L V nx P := z_iand hd (by rw [pk_andN h j hm]; exact k)
theorem z_orN {a b j : Nat} (hd : decode y.2.1 pc = .ok (.ior, 1)) (h : b < 2 ^ j) (k : Z D z0 d mc ms y cells slots (pc + 1) lv (.int (nI (a * 2 ^ j + b)) :: st) L V nx P) : Z D z0 d mc ms y cells slots pc lv (.int (nI b) :: .int (nI (a * 2 ^ j)) :: st) L V nx P := z_ior hd (by rw [Nat.mul_comm a, fa_or_sum a h, Nat.mul_comm _ a]; exact k)
theorem z_copyN {idx a b n0 n1 sp dp n : Nat} (hd : decode y.2.1 pc = .ok (.invokestatic idx, 3)) (hlk : Cond.methodLink y.1.cls idx arraycopyName ∈ zT) (h1 : Cond.native arraycopyName ∈ zT) (h2 : Cond.static arraycopyName ∈ zT) (h3 : Cond.initialized "java/lang/System" ∈ zT) (ha : L a = some (.inl (0, n0))) (hb : L b = some (.inl (0, n1))) (g0 : n0 < 2147483648) (g1 : n1 < 2147483648) (g4 : sp + n ≤ n0) (g5 : dp + n ≤ n1) (hdd : 1 ≤ d) (hsum : (st.map fun v => v.category).sum ≤ 8) (kk : Z D z0 d mc ms y cells slots (pc + 3) lv st L (zset V b (va_cpy (V a) (V b) sp dp n)) nx P) : Z D z0 d mc ms y cells slots pc lv (.int (nI n) :: .int (nI dp) :: .ref b :: .int (nI sp) :: .ref a :: st) L V nx P := by
  have e1 : (nI sp).toNatClampNeg = sp := nI_clamp (by omega)
  have e2 : (nI dp).toNatClampNeg = dp := nI_clamp (by omega)
  have e3 : (nI n).toNatClampNeg = n := nI_clamp (by omega)
  refine z_copy hd hlk h1 h2 h3 ha hb (nI_pos (by omega)) (nI_pos (by omega)) (nI_pos (by omega)) (by rw [e1, e3]; exact g4) (by rw [e2, e3]; exact g5) hdd hsum ?_
  rw [e1, e2, e3]
  exact kk
theorem nI_inj {a b : Nat} (ha : a < 2147483648) (hb : b < 2147483648) (h : nI a = nI b) : a = b := (nI_eq ha hb).mp h
end ZBits
