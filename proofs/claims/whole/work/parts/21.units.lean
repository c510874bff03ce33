/-! OneIndex.unitsAhead -/
abbrev US : Type := Nat × Nat × Nat × Nat × Nat
def uTurn (w g rr rd n l tb : Nat) : US := (g, rr, if tb = 0 then rd else if g = 3 then rd + 0 else rd + 1, if tb = 0 then n else l, (if tb = 0 then l else 0) + (if g = 3 then 0 else w))
def uS (w sh mo g rr rd n l : Nat) : Option US :=
  if g = 1 then (if 48 ≤ rr + 1 then some (uTurn w 2 (rr + 1) rd n l 1) else some (uTurn w 1 (rr + 1) rd n l 0))
  else if 0 < n then some (uTurn w g rr rd (n - 1) l 0)
  else if g = 3 ∨ (sh < l ∧ mo ≤ rd) then none
  else if l ≤ sh then some (uTurn w 3 rr rd n l 1) else some (uTurn w 2 rr rd n l 1)
def ua (w sh mo : Nat) : Nat → Nat → US → Int32
  | 0, _, _ => -1
  | f + 1, dn, s => match uS w sh mo s.1 s.2.1 s.2.2.1 s.2.2.2.1 s.2.2.2.2 with
    | none => nI dn
    | some s' => ua w sh mo f (dn + 1) s'
theorem ua_s {w sh mo dn g rr rd n l : Nat} {s' : US} (hd : dn < 1000) (h : uS w sh mo g rr rd n l = some s') : ua w sh mo (1000 - dn) dn (g, rr, rd, n, l) = ua w sh mo (1000 - (dn + 1)) (dn + 1) s' := by
  obtain ⟨f, hf⟩ : ∃ f, 1000 - dn = f + 1 := ⟨1000 - dn - 1, by omega⟩
  rw [hf, show 1000 - (dn + 1) = f by omega]
  simp only [ua]
  rw [h]
theorem ua_n {w sh mo dn g rr rd n l : Nat} (hd : dn < 1000) (h : uS w sh mo g rr rd n l = none) : ua w sh mo (1000 - dn) dn (g, rr, rd, n, l) = nI dn := by
  obtain ⟨f, hf⟩ : ∃ f, 1000 - dn = f + 1 := ⟨1000 - dn - 1, by omega⟩
  rw [hf]
  simp only [ua]
  rw [h]
section UA
variable {w sh mo g rr rd n l : Nat}
theorem uS1 (h : g = 1) (h2 : 48 ≤ rr + 1) : uS w sh mo g rr rd n l = some (uTurn w 2 (rr + 1) rd n l 1) := by rw [uS, if_pos h, if_pos h2]
theorem uS2 (h : g = 1) (h2 : ¬ 48 ≤ rr + 1) : uS w sh mo g rr rd n l = some (uTurn w 1 (rr + 1) rd n l 0) := by rw [uS, if_pos h, if_neg h2]
theorem uS3 (h : ¬ g = 1) (h2 : 0 < n) : uS w sh mo g rr rd n l = some (uTurn w g rr rd (n - 1) l 0) := by rw [uS, if_neg h, if_pos h2]
theorem uS4 (h : ¬ g = 1) (h2 : ¬ 0 < n) (h3 : g = 3 ∨ (sh < l ∧ mo ≤ rd)) : uS w sh mo g rr rd n l = none := by rw [uS, if_neg h, if_neg h2, if_pos h3]
theorem uS5 (h : ¬ g = 1) (h2 : ¬ 0 < n) (h3 : ¬ (g = 3 ∨ (sh < l ∧ mo ≤ rd))) (h4 : l ≤ sh) : uS w sh mo g rr rd n l = some (uTurn w 3 rr rd n l 1) := by rw [uS, if_neg h, if_neg h2, if_neg h3, if_pos h4]
theorem uS6 (h : ¬ g = 1) (h2 : ¬ 0 < n) (h3 : ¬ (g = 3 ∨ (sh < l ∧ mo ≤ rd))) (h4 : ¬ l ≤ sh) : uS w sh mo g rr rd n l = some (uTurn w 2 rr rd n l 1) := by rw [uS, if_neg h, if_neg h2, if_neg h3, if_neg h4]
end UA

set_option maxHeartbeats 4000000 in
set_option maxRecDepth 100000 in
theorem lp_units {D : zD} {z0 nx : Nat} {L : zL} {V : zV} {a w sh mo : Nat} (hw : w < 10) (h1 : sh < 1000) (h2 : mo < 1000) : ∀ (fu : Nat) (dn : Nat) (g : Nat) (rr : Nat) (rd : Nat) (n : Nat) (l : Nat), 1000 - dn = fu → 1 ≤ dn ∧ dn ≤ 1000 → g < 6 ∧ rr < 9000 + dn ∧ rd < 900000 + dn ∧ n < 10000 + 10 * dn ∧ l < 10000 + 10 * dn → Z D z0 1 0 0 mX3_unitsAhead 0 0 39 [some (.ref a), some (.int (nI w)), some (.int (nI sh)), some (.int (nI mo)), some (.int (nI g)), some (.int (nI rr)), some (.int (nI rd)), some (.int (nI n)), some (.int (nI l)), some (.int (nI dn)), none] [] L V nx (zi (ua w sh mo (1000 - dn) dn (g, rr, rd, n, l)) L V nx) := by
  intro fu
  induction fu using Nat.strongRecOn with
  | ind fu ih =>
    intro dn g rr rd n l h_fu h_0 h_1
    have J : ∀ g2 rw2 n2 tb : Nat, dn < 1000 → g2 < 6 → rw2 < 9001 + dn → n2 < 10000 + 10 * dn → tb < 2 → uS w sh mo g rr rd n l = some (uTurn w g2 rw2 rd n2 l tb) → Z D z0 1 0 0 mX3_unitsAhead 0 0 136 [some (.ref a), some (.int (nI w)), some (.int (nI sh)), some (.int (nI mo)), some (.int (nI g2)), some (.int (nI rw2)), some (.int (nI rd)), some (.int (nI n2)), some (.int (nI l)), some (.int (nI dn)), some (.int (nI tb))] [] L V nx (zi (ua w sh mo (1000 - dn) dn (g, rr, rd, n, l)) L V nx) := by
      intro g2 rw2 n2 tb b0 b1 b2 b3 b4 hu
      refine z_iload dX3_unitsAhead_136 rfl ?_
      refine z_if_eqN (tgt := 164) dX3_unitsAhead_138 (by decide) (by omega) (fun c_138 => ?_) (fun c_138 => ?_)
      · refine z_iload dX3_unitsAhead_164 rfl ?_
        refine z_iload dX3_unitsAhead_166 rfl ?_
        refine z_iconst (v := nI 3) dX3_unitsAhead_168 rfl ?_
        refine z_icmp_neN (tgt := 176) dX3_unitsAhead_169 (by decide) (by omega) (by omega) (fun c_169 => ?_) (fun c_169 => ?_)
        · refine z_iload_n dX3_unitsAhead_176 rfl ?_
          refine z_addN dX3_unitsAhead_177 ?_
          refine z_istore dX3_unitsAhead_178 (Nat.le_of_ble_eq_true rfl) rfl ?_
          refine z_incN dX3_unitsAhead_180 rfl rfl ?_
          refine z_goto (tgt := 39) dX3_unitsAhead_183 (by decide) ?_
          refine z_fg 10 ?_
          first
            | (exfalso; omega)
            | (rw [ua_s (by omega) hu, show uTurn w g2 rw2 rd n2 l tb = (g2, rw2, rd, n2, l + 0) by rw [uTurn, if_pos (by omega), if_pos (by omega), if_pos (by omega), if_pos (by omega)]]; exact ih _ (by omega) (dn + 1) g2 rw2 rd n2 (l + 0) rfl (by omega) (by omega))
            | (rw [ua_s (by omega) hu, show uTurn w g2 rw2 rd n2 l tb = (g2, rw2, rd, n2, l + w) by rw [uTurn, if_pos (by omega), if_pos (by omega), if_pos (by omega), if_neg (by omega)]]; exact ih _ (by omega) (dn + 1) g2 rw2 rd n2 (l + w) rfl (by omega) (by omega))
            | (rw [ua_s (by omega) hu, show uTurn w g2 rw2 rd n2 l tb = (g2, rw2, rd + 0, l, 0 + 0) by rw [uTurn, if_neg (by omega), if_pos (by omega), if_neg (by omega), if_neg (by omega), if_pos (by omega)]]; exact ih _ (by omega) (dn + 1) g2 rw2 (rd + 0) l (0 + 0) rfl (by omega) (by omega))
            | (rw [ua_s (by omega) hu, show uTurn w g2 rw2 rd n2 l tb = (g2, rw2, rd + 1, l, 0 + w) by rw [uTurn, if_neg (by omega), if_neg (by omega), if_neg (by omega), if_neg (by omega), if_neg (by omega)]]; exact ih _ (by omega) (dn + 1) g2 rw2 (rd + 1) l (0 + w) rfl (by omega) (by omega))
        · refine z_iconst (v := nI 0) dX3_unitsAhead_172 rfl ?_
          refine z_goto (tgt := 177) dX3_unitsAhead_173 (by decide) ?_
          refine z_addN dX3_unitsAhead_177 ?_
          refine z_istore dX3_unitsAhead_178 (Nat.le_of_ble_eq_true rfl) rfl ?_
          refine z_incN dX3_unitsAhead_180 rfl rfl ?_
          refine z_goto (tgt := 39) dX3_unitsAhead_183 (by decide) ?_
          refine z_fg 10 ?_
          first
            | (exfalso; omega)
            | (rw [ua_s (by omega) hu, show uTurn w g2 rw2 rd n2 l tb = (g2, rw2, rd, n2, l + 0) by rw [uTurn, if_pos (by omega), if_pos (by omega), if_pos (by omega), if_pos (by omega)]]; exact ih _ (by omega) (dn + 1) g2 rw2 rd n2 (l + 0) rfl (by omega) (by omega))
            | (rw [ua_s (by omega) hu, show uTurn w g2 rw2 rd n2 l tb = (g2, rw2, rd, n2, l + w) by rw [uTurn, if_pos (by omega), if_pos (by omega), if_pos (by omega), if_neg (by omega)]]; exact ih _ (by omega) (dn + 1) g2 rw2 rd n2 (l + w) rfl (by omega) (by omega))
            | (rw [ua_s (by omega) hu, show uTurn w g2 rw2 rd n2 l tb = (g2, rw2, rd + 0, l, 0 + 0) by rw [uTurn, if_neg (by omega), if_pos (by omega), if_neg (by omega), if_neg (by omega), if_pos (by omega)]]; exact ih _ (by omega) (dn + 1) g2 rw2 (rd + 0) l (0 + 0) rfl (by omega) (by omega))
            | (rw [ua_s (by omega) hu, show uTurn w g2 rw2 rd n2 l tb = (g2, rw2, rd + 1, l, 0 + w) by rw [uTurn, if_neg (by omega), if_neg (by omega), if_neg (by omega), if_neg (by omega), if_neg (by omega)]]; exact ih _ (by omega) (dn + 1) g2 rw2 (rd + 1) l (0 + w) rfl (by omega) (by omega))
      · refine z_iload dX3_unitsAhead_141 rfl ?_
        refine z_istore dX3_unitsAhead_143 (Nat.le_of_ble_eq_true rfl) rfl ?_
        refine z_iconst (v := nI 0) dX3_unitsAhead_145 rfl ?_
        refine z_istore dX3_unitsAhead_146 (Nat.le_of_ble_eq_true rfl) rfl ?_
        refine z_iload dX3_unitsAhead_148 rfl ?_
        refine z_iload dX3_unitsAhead_150 rfl ?_
        refine z_iconst (v := nI 3) dX3_unitsAhead_152 rfl ?_
        refine z_icmp_neN (tgt := 160) dX3_unitsAhead_153 (by decide) (by omega) (by omega) (fun c_153 => ?_) (fun c_153 => ?_)
        · refine z_iconst (v := nI 1) dX3_unitsAhead_160 rfl ?_
          refine z_addN dX3_unitsAhead_161 ?_
          refine z_istore dX3_unitsAhead_162 (Nat.le_of_ble_eq_true rfl) rfl ?_
          refine z_iload dX3_unitsAhead_164 rfl ?_
          refine z_iload dX3_unitsAhead_166 rfl ?_
          refine z_iconst (v := nI 3) dX3_unitsAhead_168 rfl ?_
          refine z_icmp_neN (tgt := 176) dX3_unitsAhead_169 (by decide) (by omega) (by omega) (fun c_169 => ?_) (fun c_169 => ?_)
          · refine z_iload_n dX3_unitsAhead_176 rfl ?_
            refine z_addN dX3_unitsAhead_177 ?_
            refine z_istore dX3_unitsAhead_178 (Nat.le_of_ble_eq_true rfl) rfl ?_
            refine z_incN dX3_unitsAhead_180 rfl rfl ?_
            refine z_goto (tgt := 39) dX3_unitsAhead_183 (by decide) ?_
            refine z_fg 10 ?_
            first
              | (exfalso; omega)
              | (rw [ua_s (by omega) hu, show uTurn w g2 rw2 rd n2 l tb = (g2, rw2, rd, n2, l + 0) by rw [uTurn, if_pos (by omega), if_pos (by omega), if_pos (by omega), if_pos (by omega)]]; exact ih _ (by omega) (dn + 1) g2 rw2 rd n2 (l + 0) rfl (by omega) (by omega))
              | (rw [ua_s (by omega) hu, show uTurn w g2 rw2 rd n2 l tb = (g2, rw2, rd, n2, l + w) by rw [uTurn, if_pos (by omega), if_pos (by omega), if_pos (by omega), if_neg (by omega)]]; exact ih _ (by omega) (dn + 1) g2 rw2 rd n2 (l + w) rfl (by omega) (by omega))
              | (rw [ua_s (by omega) hu, show uTurn w g2 rw2 rd n2 l tb = (g2, rw2, rd + 0, l, 0 + 0) by rw [uTurn, if_neg (by omega), if_pos (by omega), if_neg (by omega), if_neg (by omega), if_pos (by omega)]]; exact ih _ (by omega) (dn + 1) g2 rw2 (rd + 0) l (0 + 0) rfl (by omega) (by omega))
              | (rw [ua_s (by omega) hu, show uTurn w g2 rw2 rd n2 l tb = (g2, rw2, rd + 1, l, 0 + w) by rw [uTurn, if_neg (by omega), if_neg (by omega), if_neg (by omega), if_neg (by omega), if_neg (by omega)]]; exact ih _ (by omega) (dn + 1) g2 rw2 (rd + 1) l (0 + w) rfl (by omega) (by omega))
          · refine z_iconst (v := nI 0) dX3_unitsAhead_172 rfl ?_
            refine z_goto (tgt := 177) dX3_unitsAhead_173 (by decide) ?_
            refine z_addN dX3_unitsAhead_177 ?_
            refine z_istore dX3_unitsAhead_178 (Nat.le_of_ble_eq_true rfl) rfl ?_
            refine z_incN dX3_unitsAhead_180 rfl rfl ?_
            refine z_goto (tgt := 39) dX3_unitsAhead_183 (by decide) ?_
            refine z_fg 10 ?_
            first
              | (exfalso; omega)
              | (rw [ua_s (by omega) hu, show uTurn w g2 rw2 rd n2 l tb = (g2, rw2, rd, n2, l + 0) by rw [uTurn, if_pos (by omega), if_pos (by omega), if_pos (by omega), if_pos (by omega)]]; exact ih _ (by omega) (dn + 1) g2 rw2 rd n2 (l + 0) rfl (by omega) (by omega))
              | (rw [ua_s (by omega) hu, show uTurn w g2 rw2 rd n2 l tb = (g2, rw2, rd, n2, l + w) by rw [uTurn, if_pos (by omega), if_pos (by omega), if_pos (by omega), if_neg (by omega)]]; exact ih _ (by omega) (dn + 1) g2 rw2 rd n2 (l + w) rfl (by omega) (by omega))
              | (rw [ua_s (by omega) hu, show uTurn w g2 rw2 rd n2 l tb = (g2, rw2, rd + 0, l, 0 + 0) by rw [uTurn, if_neg (by omega), if_pos (by omega), if_neg (by omega), if_neg (by omega), if_pos (by omega)]]; exact ih _ (by omega) (dn + 1) g2 rw2 (rd + 0) l (0 + 0) rfl (by omega) (by omega))
              | (rw [ua_s (by omega) hu, show uTurn w g2 rw2 rd n2 l tb = (g2, rw2, rd + 1, l, 0 + w) by rw [uTurn, if_neg (by omega), if_neg (by omega), if_neg (by omega), if_neg (by omega), if_neg (by omega)]]; exact ih _ (by omega) (dn + 1) g2 rw2 (rd + 1) l (0 + w) rfl (by omega) (by omega))
        · refine z_iconst (v := nI 0) dX3_unitsAhead_156 rfl ?_
          refine z_goto (tgt := 161) dX3_unitsAhead_157 (by decide) ?_
          refine z_addN dX3_unitsAhead_161 ?_
          refine z_istore dX3_unitsAhead_162 (Nat.le_of_ble_eq_true rfl) rfl ?_
          refine z_iload dX3_unitsAhead_164 rfl ?_
          refine z_iload dX3_unitsAhead_166 rfl ?_
          refine z_iconst (v := nI 3) dX3_unitsAhead_168 rfl ?_
          refine z_icmp_neN (tgt := 176) dX3_unitsAhead_169 (by decide) (by omega) (by omega) (fun c_169 => ?_) (fun c_169 => ?_)
          · refine z_iload_n dX3_unitsAhead_176 rfl ?_
            refine z_addN dX3_unitsAhead_177 ?_
            refine z_istore dX3_unitsAhead_178 (Nat.le_of_ble_eq_true rfl) rfl ?_
            refine z_incN dX3_unitsAhead_180 rfl rfl ?_
            refine z_goto (tgt := 39) dX3_unitsAhead_183 (by decide) ?_
            refine z_fg 10 ?_
            first
              | (exfalso; omega)
              | (rw [ua_s (by omega) hu, show uTurn w g2 rw2 rd n2 l tb = (g2, rw2, rd, n2, l + 0) by rw [uTurn, if_pos (by omega), if_pos (by omega), if_pos (by omega), if_pos (by omega)]]; exact ih _ (by omega) (dn + 1) g2 rw2 rd n2 (l + 0) rfl (by omega) (by omega))
              | (rw [ua_s (by omega) hu, show uTurn w g2 rw2 rd n2 l tb = (g2, rw2, rd, n2, l + w) by rw [uTurn, if_pos (by omega), if_pos (by omega), if_pos (by omega), if_neg (by omega)]]; exact ih _ (by omega) (dn + 1) g2 rw2 rd n2 (l + w) rfl (by omega) (by omega))
              | (rw [ua_s (by omega) hu, show uTurn w g2 rw2 rd n2 l tb = (g2, rw2, rd + 0, l, 0 + 0) by rw [uTurn, if_neg (by omega), if_pos (by omega), if_neg (by omega), if_neg (by omega), if_pos (by omega)]]; exact ih _ (by omega) (dn + 1) g2 rw2 (rd + 0) l (0 + 0) rfl (by omega) (by omega))
              | (rw [ua_s (by omega) hu, show uTurn w g2 rw2 rd n2 l tb = (g2, rw2, rd + 1, l, 0 + w) by rw [uTurn, if_neg (by omega), if_neg (by omega), if_neg (by omega), if_neg (by omega), if_neg (by omega)]]; exact ih _ (by omega) (dn + 1) g2 rw2 (rd + 1) l (0 + w) rfl (by omega) (by omega))
          · refine z_iconst (v := nI 0) dX3_unitsAhead_172 rfl ?_
            refine z_goto (tgt := 177) dX3_unitsAhead_173 (by decide) ?_
            refine z_addN dX3_unitsAhead_177 ?_
            refine z_istore dX3_unitsAhead_178 (Nat.le_of_ble_eq_true rfl) rfl ?_
            refine z_incN dX3_unitsAhead_180 rfl rfl ?_
            refine z_goto (tgt := 39) dX3_unitsAhead_183 (by decide) ?_
            refine z_fg 10 ?_
            first
              | (exfalso; omega)
              | (rw [ua_s (by omega) hu, show uTurn w g2 rw2 rd n2 l tb = (g2, rw2, rd, n2, l + 0) by rw [uTurn, if_pos (by omega), if_pos (by omega), if_pos (by omega), if_pos (by omega)]]; exact ih _ (by omega) (dn + 1) g2 rw2 rd n2 (l + 0) rfl (by omega) (by omega))
              | (rw [ua_s (by omega) hu, show uTurn w g2 rw2 rd n2 l tb = (g2, rw2, rd, n2, l + w) by rw [uTurn, if_pos (by omega), if_pos (by omega), if_pos (by omega), if_neg (by omega)]]; exact ih _ (by omega) (dn + 1) g2 rw2 rd n2 (l + w) rfl (by omega) (by omega))
              | (rw [ua_s (by omega) hu, show uTurn w g2 rw2 rd n2 l tb = (g2, rw2, rd + 0, l, 0 + 0) by rw [uTurn, if_neg (by omega), if_pos (by omega), if_neg (by omega), if_neg (by omega), if_pos (by omega)]]; exact ih _ (by omega) (dn + 1) g2 rw2 (rd + 0) l (0 + 0) rfl (by omega) (by omega))
              | (rw [ua_s (by omega) hu, show uTurn w g2 rw2 rd n2 l tb = (g2, rw2, rd + 1, l, 0 + w) by rw [uTurn, if_neg (by omega), if_neg (by omega), if_neg (by omega), if_neg (by omega), if_neg (by omega)]]; exact ih _ (by omega) (dn + 1) g2 rw2 (rd + 1) l (0 + w) rfl (by omega) (by omega))
    refine z_iload dX3_unitsAhead_39 rfl ?_
    refine z_sipush (v := nI 999) dX3_unitsAhead_41 rfl ?_
    refine z_icmp_gtN (tgt := 186) dX3_unitsAhead_44 (by decide) (by omega) (by omega) (fun c_44 => ?_) (fun c_44 => ?_)
    · refine z_iconst (v := (-1)) dX3_unitsAhead_186 rfl ?_
      refine z_ireturn dX3_unitsAhead_187 (Nat.le_of_ble_eq_true rfl) (Nat.le_of_ble_eq_true rfl) rfl ?_
      exact zi_r (by rw [show dn = 1000 by omega]; rfl)
    · refine z_iconst (v := nI 0) dX3_unitsAhead_47 rfl ?_
      refine z_istore dX3_unitsAhead_48 (Nat.le_of_ble_eq_true rfl) rfl ?_
      refine z_iload dX3_unitsAhead_50 rfl ?_
      refine z_iconst (v := nI 1) dX3_unitsAhead_52 rfl ?_
      refine z_icmp_neN (tgt := 88) dX3_unitsAhead_53 (by decide) (by omega) (by omega) (fun c_53 => ?_) (fun c_53 => ?_)
      · refine z_iload dX3_unitsAhead_88 rfl ?_
        refine z_if_leN (tgt := 99) dX3_unitsAhead_90 (by decide) (by omega) (fun c_90 => ?_) (fun c_90 => ?_)
        · refine z_iload dX3_unitsAhead_99 rfl ?_
          refine z_iconst (v := nI 3) dX3_unitsAhead_101 rfl ?_
          refine z_icmp_eqN (tgt := 117) dX3_unitsAhead_102 (by decide) (by omega) (by omega) (fun c_102 => ?_) (fun c_102 => ?_)
          · refine z_iload dX3_unitsAhead_117 rfl ?_
            refine z_ireturn dX3_unitsAhead_119 (Nat.le_of_ble_eq_true rfl) (Nat.le_of_ble_eq_true rfl) rfl ?_
            exact zi_r (by rw [ua_n (by omega) (uS4 (by omega) (by omega) (by omega))])
          · refine z_iload dX3_unitsAhead_105 rfl ?_
            refine z_iload_n dX3_unitsAhead_107 rfl ?_
            refine z_icmp_leN (tgt := 120) dX3_unitsAhead_108 (by decide) (by omega) (by omega) (fun c_108 => ?_) (fun c_108 => ?_)
            · refine z_iconst (v := nI 1) dX3_unitsAhead_120 rfl ?_
              refine z_istore dX3_unitsAhead_121 (Nat.le_of_ble_eq_true rfl) rfl ?_
              refine z_iload dX3_unitsAhead_123 rfl ?_
              refine z_iload_n dX3_unitsAhead_125 rfl ?_
              refine z_icmp_gtN (tgt := 133) dX3_unitsAhead_126 (by decide) (by omega) (by omega) (fun c_126 => ?_) (fun c_126 => ?_)
              · refine z_iconst (v := nI 2) dX3_unitsAhead_133 rfl ?_
                refine z_istore dX3_unitsAhead_134 (Nat.le_of_ble_eq_true rfl) rfl ?_
                first
                  | (exfalso; omega)
                  | exact J 2 (rr + 1) n 1 (by omega) (by omega) (by omega) (by omega) (by omega) (uS1 (by omega) (by omega))
                  | exact J 1 (rr + 1) n 0 (by omega) (by omega) (by omega) (by omega) (by omega) (uS2 (by omega) (by omega))
                  | (refine z_fg 10 ?_; exact J g rr (n - 1) 0 (by omega) (by omega) (by omega) (by omega) (by omega) (uS3 (by omega) (by omega)))
                  | exact J g rr (n - 1) 0 (by omega) (by omega) (by omega) (by omega) (by omega) (uS3 (by omega) (by omega))
                  | exact J 3 rr n 1 (by omega) (by omega) (by omega) (by omega) (by omega) (uS5 (by omega) (by omega) (by omega) (by omega))
                  | exact J 2 rr n 1 (by omega) (by omega) (by omega) (by omega) (by omega) (uS6 (by omega) (by omega) (by omega) (by omega))
              · refine z_iconst (v := nI 3) dX3_unitsAhead_129 rfl ?_
                refine z_goto (tgt := 134) dX3_unitsAhead_130 (by decide) ?_
                refine z_istore dX3_unitsAhead_134 (Nat.le_of_ble_eq_true rfl) rfl ?_
                first
                  | (exfalso; omega)
                  | exact J 2 (rr + 1) n 1 (by omega) (by omega) (by omega) (by omega) (by omega) (uS1 (by omega) (by omega))
                  | exact J 1 (rr + 1) n 0 (by omega) (by omega) (by omega) (by omega) (by omega) (uS2 (by omega) (by omega))
                  | (refine z_fg 10 ?_; exact J g rr (n - 1) 0 (by omega) (by omega) (by omega) (by omega) (by omega) (uS3 (by omega) (by omega)))
                  | exact J g rr (n - 1) 0 (by omega) (by omega) (by omega) (by omega) (by omega) (uS3 (by omega) (by omega))
                  | exact J 3 rr n 1 (by omega) (by omega) (by omega) (by omega) (by omega) (uS5 (by omega) (by omega) (by omega) (by omega))
                  | exact J 2 rr n 1 (by omega) (by omega) (by omega) (by omega) (by omega) (uS6 (by omega) (by omega) (by omega) (by omega))
            · refine z_iload dX3_unitsAhead_111 rfl ?_
              refine z_iload_n dX3_unitsAhead_113 rfl ?_
              refine z_icmp_ltN (tgt := 120) dX3_unitsAhead_114 (by decide) (by omega) (by omega) (fun c_114 => ?_) (fun c_114 => ?_)
              · refine z_iconst (v := nI 1) dX3_unitsAhead_120 rfl ?_
                refine z_istore dX3_unitsAhead_121 (Nat.le_of_ble_eq_true rfl) rfl ?_
                refine z_iload dX3_unitsAhead_123 rfl ?_
                refine z_iload_n dX3_unitsAhead_125 rfl ?_
                refine z_icmp_gtN (tgt := 133) dX3_unitsAhead_126 (by decide) (by omega) (by omega) (fun c_126 => ?_) (fun c_126 => ?_)
                · refine z_iconst (v := nI 2) dX3_unitsAhead_133 rfl ?_
                  refine z_istore dX3_unitsAhead_134 (Nat.le_of_ble_eq_true rfl) rfl ?_
                  first
                    | (exfalso; omega)
                    | exact J 2 (rr + 1) n 1 (by omega) (by omega) (by omega) (by omega) (by omega) (uS1 (by omega) (by omega))
                    | exact J 1 (rr + 1) n 0 (by omega) (by omega) (by omega) (by omega) (by omega) (uS2 (by omega) (by omega))
                    | (refine z_fg 10 ?_; exact J g rr (n - 1) 0 (by omega) (by omega) (by omega) (by omega) (by omega) (uS3 (by omega) (by omega)))
                    | exact J g rr (n - 1) 0 (by omega) (by omega) (by omega) (by omega) (by omega) (uS3 (by omega) (by omega))
                    | exact J 3 rr n 1 (by omega) (by omega) (by omega) (by omega) (by omega) (uS5 (by omega) (by omega) (by omega) (by omega))
                    | exact J 2 rr n 1 (by omega) (by omega) (by omega) (by omega) (by omega) (uS6 (by omega) (by omega) (by omega) (by omega))
                · refine z_iconst (v := nI 3) dX3_unitsAhead_129 rfl ?_
                  refine z_goto (tgt := 134) dX3_unitsAhead_130 (by decide) ?_
                  refine z_istore dX3_unitsAhead_134 (Nat.le_of_ble_eq_true rfl) rfl ?_
                  first
                    | (exfalso; omega)
                    | exact J 2 (rr + 1) n 1 (by omega) (by omega) (by omega) (by omega) (by omega) (uS1 (by omega) (by omega))
                    | exact J 1 (rr + 1) n 0 (by omega) (by omega) (by omega) (by omega) (by omega) (uS2 (by omega) (by omega))
                    | (refine z_fg 10 ?_; exact J g rr (n - 1) 0 (by omega) (by omega) (by omega) (by omega) (by omega) (uS3 (by omega) (by omega)))
                    | exact J g rr (n - 1) 0 (by omega) (by omega) (by omega) (by omega) (by omega) (uS3 (by omega) (by omega))
                    | exact J 3 rr n 1 (by omega) (by omega) (by omega) (by omega) (by omega) (uS5 (by omega) (by omega) (by omega) (by omega))
                    | exact J 2 rr n 1 (by omega) (by omega) (by omega) (by omega) (by omega) (uS6 (by omega) (by omega) (by omega) (by omega))
              · refine z_iload dX3_unitsAhead_117 rfl ?_
                refine z_ireturn dX3_unitsAhead_119 (Nat.le_of_ble_eq_true rfl) (Nat.le_of_ble_eq_true rfl) rfl ?_
                exact zi_r (by rw [ua_n (by omega) (uS4 (by omega) (by omega) (by omega))])
        · refine z_decN dX3_unitsAhead_93 rfl (by omega) rfl ?_
          refine z_goto (tgt := 136) dX3_unitsAhead_96 (by decide) ?_
          first
            | (exfalso; omega)
            | exact J 2 (rr + 1) n 1 (by omega) (by omega) (by omega) (by omega) (by omega) (uS1 (by omega) (by omega))
            | exact J 1 (rr + 1) n 0 (by omega) (by omega) (by omega) (by omega) (by omega) (uS2 (by omega) (by omega))
            | (refine z_fg 10 ?_; exact J g rr (n - 1) 0 (by omega) (by omega) (by omega) (by omega) (by omega) (uS3 (by omega) (by omega)))
            | exact J g rr (n - 1) 0 (by omega) (by omega) (by omega) (by omega) (by omega) (uS3 (by omega) (by omega))
            | exact J 3 rr n 1 (by omega) (by omega) (by omega) (by omega) (by omega) (uS5 (by omega) (by omega) (by omega) (by omega))
            | exact J 2 rr n 1 (by omega) (by omega) (by omega) (by omega) (by omega) (uS6 (by omega) (by omega) (by omega) (by omega))
      · refine z_incN dX3_unitsAhead_56 rfl rfl ?_
        refine z_iload dX3_unitsAhead_59 rfl ?_
        refine z_bipush (v := nI 48) dX3_unitsAhead_61 rfl ?_
        refine z_icmp_ltN (tgt := 70) dX3_unitsAhead_63 (by decide) (by omega) (by omega) (fun c_63 => ?_) (fun c_63 => ?_)
        · refine z_iconst (v := nI 0) dX3_unitsAhead_70 rfl ?_
          refine z_istore dX3_unitsAhead_71 (Nat.le_of_ble_eq_true rfl) rfl ?_
          refine z_iload dX3_unitsAhead_73 rfl ?_
          refine z_if_eqN (tgt := 82) dX3_unitsAhead_75 (by decide) (by omega) (fun c_75 => ?_) (fun c_75 => ?_)
          · refine z_iconst (v := nI 1) dX3_unitsAhead_82 rfl ?_
            refine z_istore dX3_unitsAhead_83 (Nat.le_of_ble_eq_true rfl) rfl ?_
            refine z_goto (tgt := 136) dX3_unitsAhead_85 (by decide) ?_
            first
              | (exfalso; omega)
              | exact J 2 (rr + 1) n 1 (by omega) (by omega) (by omega) (by omega) (by omega) (uS1 (by omega) (by omega))
              | exact J 1 (rr + 1) n 0 (by omega) (by omega) (by omega) (by omega) (by omega) (uS2 (by omega) (by omega))
              | (refine z_fg 10 ?_; exact J g rr (n - 1) 0 (by omega) (by omega) (by omega) (by omega) (by omega) (uS3 (by omega) (by omega)))
              | exact J g rr (n - 1) 0 (by omega) (by omega) (by omega) (by omega) (by omega) (uS3 (by omega) (by omega))
              | exact J 3 rr n 1 (by omega) (by omega) (by omega) (by omega) (by omega) (uS5 (by omega) (by omega) (by omega) (by omega))
              | exact J 2 rr n 1 (by omega) (by omega) (by omega) (by omega) (by omega) (uS6 (by omega) (by omega) (by omega) (by omega))
          · refine z_iconst (v := nI 2) dX3_unitsAhead_78 rfl ?_
            refine z_goto (tgt := 83) dX3_unitsAhead_79 (by decide) ?_
            refine z_istore dX3_unitsAhead_83 (Nat.le_of_ble_eq_true rfl) rfl ?_
            refine z_goto (tgt := 136) dX3_unitsAhead_85 (by decide) ?_
            first
              | (exfalso; omega)
              | exact J 2 (rr + 1) n 1 (by omega) (by omega) (by omega) (by omega) (by omega) (uS1 (by omega) (by omega))
              | exact J 1 (rr + 1) n 0 (by omega) (by omega) (by omega) (by omega) (by omega) (uS2 (by omega) (by omega))
              | (refine z_fg 10 ?_; exact J g rr (n - 1) 0 (by omega) (by omega) (by omega) (by omega) (by omega) (uS3 (by omega) (by omega)))
              | exact J g rr (n - 1) 0 (by omega) (by omega) (by omega) (by omega) (by omega) (uS3 (by omega) (by omega))
              | exact J 3 rr n 1 (by omega) (by omega) (by omega) (by omega) (by omega) (uS5 (by omega) (by omega) (by omega) (by omega))
              | exact J 2 rr n 1 (by omega) (by omega) (by omega) (by omega) (by omega) (uS6 (by omega) (by omega) (by omega) (by omega))
        · refine z_iconst (v := nI 1) dX3_unitsAhead_66 rfl ?_
          refine z_goto (tgt := 71) dX3_unitsAhead_67 (by decide) ?_
          refine z_istore dX3_unitsAhead_71 (Nat.le_of_ble_eq_true rfl) rfl ?_
          refine z_iload dX3_unitsAhead_73 rfl ?_
          refine z_if_eqN (tgt := 82) dX3_unitsAhead_75 (by decide) (by omega) (fun c_75 => ?_) (fun c_75 => ?_)
          · refine z_iconst (v := nI 1) dX3_unitsAhead_82 rfl ?_
            refine z_istore dX3_unitsAhead_83 (Nat.le_of_ble_eq_true rfl) rfl ?_
            refine z_goto (tgt := 136) dX3_unitsAhead_85 (by decide) ?_
            first
              | (exfalso; omega)
              | exact J 2 (rr + 1) n 1 (by omega) (by omega) (by omega) (by omega) (by omega) (uS1 (by omega) (by omega))
              | exact J 1 (rr + 1) n 0 (by omega) (by omega) (by omega) (by omega) (by omega) (uS2 (by omega) (by omega))
              | (refine z_fg 10 ?_; exact J g rr (n - 1) 0 (by omega) (by omega) (by omega) (by omega) (by omega) (uS3 (by omega) (by omega)))
              | exact J g rr (n - 1) 0 (by omega) (by omega) (by omega) (by omega) (by omega) (uS3 (by omega) (by omega))
              | exact J 3 rr n 1 (by omega) (by omega) (by omega) (by omega) (by omega) (uS5 (by omega) (by omega) (by omega) (by omega))
              | exact J 2 rr n 1 (by omega) (by omega) (by omega) (by omega) (by omega) (uS6 (by omega) (by omega) (by omega) (by omega))
          · refine z_iconst (v := nI 2) dX3_unitsAhead_78 rfl ?_
            refine z_goto (tgt := 83) dX3_unitsAhead_79 (by decide) ?_
            refine z_istore dX3_unitsAhead_83 (Nat.le_of_ble_eq_true rfl) rfl ?_
            refine z_goto (tgt := 136) dX3_unitsAhead_85 (by decide) ?_
            first
              | (exfalso; omega)
              | exact J 2 (rr + 1) n 1 (by omega) (by omega) (by omega) (by omega) (by omega) (uS1 (by omega) (by omega))
              | exact J 1 (rr + 1) n 0 (by omega) (by omega) (by omega) (by omega) (by omega) (uS2 (by omega) (by omega))
              | (refine z_fg 10 ?_; exact J g rr (n - 1) 0 (by omega) (by omega) (by omega) (by omega) (by omega) (uS3 (by omega) (by omega)))
              | exact J g rr (n - 1) 0 (by omega) (by omega) (by omega) (by omega) (by omega) (uS3 (by omega) (by omega))
              | exact J 3 rr n 1 (by omega) (by omega) (by omega) (by omega) (by omega) (uS5 (by omega) (by omega) (by omega) (by omega))
              | exact J 2 rr n 1 (by omega) (by omega) (by omega) (by omega) (by omega) (uS6 (by omega) (by omega) (by omega) (by omega))

set_option maxHeartbeats 4000000 in
set_option maxRecDepth 100000 in
theorem s_units {D : zD} {z0 nx : Nat} {L : zL} {V : zV} {a w sh mo : Nat} {x : Ix} (hs : sIx L a) (h : IX V a x) (hw : w < 10) (b1 : sh < 1000) (b2 : mo < 1000) (hr : x.1.2.2.2.1 < 900000) : Sp D z0 1 0 0 mX3_unitsAhead [.ref a, .int (nI w), .int (nI sh), .int (nI mo)] L V nx (zi (ua w sh mo 999 1 (x.1.1, x.1.2.2.1, x.1.2.2.2.1, x.2.2.2.1.length, x.2.2.2.2.length)) L V nx) := by
  have hs0 := hs
  have h0 := h
  obtain ⟨h1, h2, h3, h4, h5⟩ := hs
  obtain ⟨⟨⟨g1, g2, g3, g4, g5⟩, k1, k2, k3, k4, k5⟩, gd, ge, ⟨f, gn⟩, gl⟩ := h
  have u1 := gn.2.1
  have u2 := gl.2.1
  have u3 := gn.2.2.1
  have u4 := gl.2.2.1
  have h41 := h4.1
  have h51 := h5.1
  refine Sp.of 7 (by decide) rfl rfl (Nat.le_of_ble_eq_true rfl) ?_
  refine z_aload_n dX3_unitsAhead_0 rfl ?_
  refine z_getIe dX3_unitsAhead_1 fX3_35 (by first | assumption | exact And.left (by assumption)) rfl (by first | assumption | exact zup_s _ _ _ _ | rfl) ?_
  refine z_istore dX3_unitsAhead_4 (Nat.le_of_ble_eq_true rfl) rfl ?_
  refine z_aload_n dX3_unitsAhead_6 rfl ?_
  refine z_getIe dX3_unitsAhead_7 fX3_42 (by first | assumption | exact And.left (by assumption)) rfl (by first | assumption | exact zup_s _ _ _ _ | rfl) ?_
  refine z_istore dX3_unitsAhead_10 (Nat.le_of_ble_eq_true rfl) rfl ?_
  refine z_aload_n dX3_unitsAhead_12 rfl ?_
  refine z_getIe dX3_unitsAhead_13 fX3_45 (by first | assumption | exact And.left (by assumption)) rfl (by first | assumption | exact zup_s _ _ _ _ | rfl) ?_
  refine z_istore dX3_unitsAhead_16 (Nat.le_of_ble_eq_true rfl) rfl ?_
  refine z_aload_n dX3_unitsAhead_18 rfl ?_
  refine z_getR dX3_unitsAhead_19 fX3_28 (by first | assumption | exact And.left (by assumption)) rfl ?_
  refine z_getIe dX3_unitsAhead_22 fX3_71 (by first | assumption | exact And.left (by assumption)) rfl (by first | assumption | exact zup_s _ _ _ _ | rfl) ?_
  refine z_istore dX3_unitsAhead_25 (Nat.le_of_ble_eq_true rfl) rfl ?_
  refine z_aload_n dX3_unitsAhead_27 rfl ?_
  refine z_getR dX3_unitsAhead_28 fX3_32 (by first | assumption | exact And.left (by assumption)) rfl ?_
  refine z_getIe dX3_unitsAhead_31 fX3_71 (by first | assumption | exact And.left (by assumption)) rfl (by first | assumption | exact zup_s _ _ _ _ | rfl) ?_
  refine z_istore dX3_unitsAhead_34 (Nat.le_of_ble_eq_true rfl) rfl ?_
  refine z_iconst (v := nI 1) dX3_unitsAhead_36 rfl ?_
  refine z_istore dX3_unitsAhead_37 (Nat.le_of_ble_eq_true rfl) rfl ?_
  exact lp_units hw b1 b2 _ 1 _ _ _ _ _ rfl (by omega) (by omega)

