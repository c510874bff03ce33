/-! the reference: feed -/
def fx (x1 x2 x3 x4 x5 : Int32) (j : Nat) : Int32 := if j < 4 then x1 else if j < 8 then x2 else if j < 12 then x3 else if j < 16 then x4 else x5
noncomputable def fb (x1 x2 x3 x4 x5 : Int32) (j : Nat) : Nat := byn (fx x1 x2 x3 x4 x5 j) (nI (24 - 8 * (j % 4)))
theorem fb_ok {x1 x2 x3 x4 x5 : Int32} {b : List Nat} {j : Nat} (hj : j < 20) : bt (((((b ++ bts x1 4) ++ bts x2 4) ++ bts x3 4) ++ bts x4 4) ++ bts x5 4) (b.length + j) = fb x1 x2 x3 x4 x5 j := by
  have e : ((((b ++ bts x1 4) ++ bts x2 4) ++ bts x3 4) ++ bts x4 4) ++ bts x5 4 = b ++ (bts x1 4 ++ bts x2 4 ++ bts x3 4 ++ bts x4 4 ++ bts x5 4) := by simp
  unfold bt
  rw [e, List.getD_eq_getElem?_getD, List.getElem?_append_right (by omega), show b.length + j - b.length = j by omega]
  rcases (show j = 0 ∨ j = 1 ∨ j = 2 ∨ j = 3 ∨ j = 4 ∨ j = 5 ∨ j = 6 ∨ j = 7 ∨ j = 8 ∨ j = 9 ∨ j = 10 ∨ j = 11 ∨ j = 12 ∨ j = 13 ∨ j = 14 ∨ j = 15 ∨ j = 16 ∨ j = 17 ∨ j = 18 ∨ j = 19 by omega) with rfl | rfl | rfl | rfl | rfl | rfl | rfl | rfl | rfl | rfl | rfl | rfl | rfl | rfl | rfl | rfl | rfl | rfl | rfl | rfl <;> rfl
theorem bt_old {b c : List Nat} {k : Nat} (h : k < b.length) : bt (b ++ c) k = bt b k := by
  unfold bt
  rw [List.getD_eq_getElem?_getD, List.getD_eq_getElem?_getD, List.getElem?_append_left h]

