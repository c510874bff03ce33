/-! the reference: units ahead -/
set_option maxHeartbeats 4000000 in
set_option maxRecDepth 100000 in
theorem lp_mUnits {D : zD} {z0 nx : Nat} {L : zL} {V : zV} {m wv sh mo : Nat} {x1 : Int32} (hm : sM L m) (h1 : V (m + 1) 5341 = nI sh) (h2 : V (m + 1) 5342 = nI mo) (hw : wv < 10) (hsh : sh < 1000) (hmo : mo < 1000) : ∀ (fu : Nat) (dn : Nat) (g : Nat) (rr : Nat) (rd : Nat) (n : Nat) (l : Nat) (y : Int32), 1000 - dn = fu → 1 ≤ dn ∧ dn ≤ 1000 → (1 ≤ g ∧ g ≤ 3) ∧ rr < 9000 + dn ∧ rd < 900000 + dn ∧ n < 10000 + 10 * dn ∧ l < 10000 + 10 * dn → (g = 1 → rr < 48 ∧ rd = 0 ∧ y = nI rr) → Z D z0 5 0 0 mX12_units 0 0 85 [some (.ref m), some (.int x1), some (.int (nI wv)), some (.int (nI g)), some (.int y), some (.int (nI n)), some (.int (nI l)), some (.int (nI rd)), some (.int (nI dn)), none] [] L V nx (zi (ua wv sh mo (1000 - dn) dn (g, rr, rd, n, l)) L V nx) := by
  intro fu
  induction fu using Nat.strongRecOn with
  | ind fu ih =>
    intro dn g rr rd n l y h_fu h_0 h_1 h_2
    have hm0 := hm
    obtain ⟨a0, a1, a2, a3, a4, a5, a6, a7, a8, a9, a10, a11, a12, a13, a14, a15⟩ := hm
    refine z_iload dX12_units_85 rfl ?_
    refine z_sipush (v := nI 999) dX12_units_87 rfl ?_
    refine z_icmp_gtN (tgt := 237) dX12_units_90 (by decide) (by omega) (by omega) (fun c_90 => ?_) (fun c_90 => ?_)
    · refine z_iconst (v := (-1)) dX12_units_237 rfl ?_
      refine z_ireturn dX12_units_238 (Nat.le_of_ble_eq_true rfl) (Nat.le_of_ble_eq_true rfl) rfl ?_
      have ed : dn = 1000 := by omega
      subst ed
      exact zi_r rfl
    · have hd : dn < 1000 := by omega
      refine z_iconst (v := nI 0) dX12_units_93 rfl ?_
      refine z_istore dX12_units_94 (Nat.le_of_ble_eq_true rfl) rfl ?_
      refine z_iload_n dX12_units_96 rfl ?_
      refine z_iconst (v := nI 1) dX12_units_97 rfl ?_
      refine z_icmp_neN (tgt := 145) dX12_units_98 (by decide) (by omega) (by omega) (fun c_98 => ?_) (fun c_98 => ?_)
      · refine z_iload dX12_units_145 rfl ?_
        refine z_if_leN (tgt := 156) dX12_units_147 (by decide) (by omega) (fun c_147 => ?_) (fun c_147 => ?_)
        · have hn0 : ¬ 0 < n := by omega
          refine z_iload_n dX12_units_156 rfl ?_
          refine z_iconst (v := nI 3) dX12_units_157 rfl ?_
          refine z_icmp_neN (tgt := 164) dX12_units_158 (by decide) (by omega) (by omega) (fun c_158 => ?_) (fun c_158 => ?_)
          · refine z_iconst (v := nI 1) dX12_units_164 rfl ?_
            refine z_istore dX12_units_165 (Nat.le_of_ble_eq_true rfl) rfl ?_
            refine z_iload dX12_units_167 rfl ?_
            refine z_aload_n dX12_units_169 rfl ?_
            refine z_getR dX12_units_170 fX12_13 (by first | assumption | exact And.left (by assumption)) rfl ?_
            refine z_sipush (v := nI 5341) dX12_units_173 rfl ?_
            refine z_ialdN dX12_units_176 (by first | assumption | exact And.left (by assumption)) (by omega) (by decide) h1 ?_
            refine z_icmp_gtN (tgt := 185) dX12_units_177 (by decide) (by omega) (by omega) (fun c_177 => ?_) (fun c_177 => ?_)
            · refine z_iload dX12_units_185 rfl ?_
              refine z_aload_n dX12_units_187 rfl ?_
              refine z_getR dX12_units_188 fX12_13 (by first | assumption | exact And.left (by assumption)) rfl ?_
              refine z_sipush (v := nI 5342) dX12_units_191 rfl ?_
              refine z_ialdN dX12_units_194 (by first | assumption | exact And.left (by assumption)) (by omega) (by decide) h2 ?_
              refine z_icmp_ltN (tgt := 201) dX12_units_195 (by decide) (by omega) (by omega) (fun c_195 => ?_) (fun c_195 => ?_)
              · refine z_incN dX12_units_201 rfl rfl ?_
                refine z_iload dX12_units_204 rfl ?_
                refine z_if_eqN (tgt := 216) dX12_units_206 (by decide) (by omega) (fun c_206 => ?_) (fun c_206 => ?_)
                · exact absurd c_206 (by omega)
                · refine z_iload dX12_units_209 rfl ?_
                  refine z_istore dX12_units_211 (Nat.le_of_ble_eq_true rfl) rfl ?_
                  refine z_iconst (v := nI 0) dX12_units_213 rfl ?_
                  refine z_istore dX12_units_214 (Nat.le_of_ble_eq_true rfl) rfl ?_
                  refine z_iload dX12_units_216 rfl ?_
                  refine z_iload_n dX12_units_218 rfl ?_
                  refine z_iconst (v := nI 3) dX12_units_219 rfl ?_
                  refine z_icmp_neN (tgt := 227) dX12_units_220 (by decide) (by omega) (by omega) (fun c_220 => ?_) (fun c_220 => ?_)
                  · refine z_iload_n dX12_units_227 rfl ?_
                    refine z_addN dX12_units_228 ?_
                    refine z_istore dX12_units_229 (Nat.le_of_ble_eq_true rfl) rfl ?_
                    refine z_incN dX12_units_231 rfl rfl ?_
                    refine z_goto (tgt := 85) dX12_units_234 (by decide) ?_
                    refine z_fg 9 ?_
                    first
                      | exact absurd c_220 (by omega)
                      | (rw [ua_s hd (uS1 c_98 (by omega))]; exact ih _ (by omega) (dn + 1) 2 (rr + 1) (0 + 1) l (0 + wv) _ rfl (by omega) (by omega) (fun q => absurd q (by decide)))
                      | (rw [ua_s hd (uS2 c_98 (by omega))]; exact ih _ (by omega) (dn + 1) 1 (rr + 1) 0 n (l + wv) _ rfl (by omega) (by omega) (fun q => ⟨by omega, rfl, rfl⟩))
                      | (rw [ua_s hd (uS3 c_98 hn0), uTurn, if_pos rfl, if_pos rfl, if_pos rfl, if_pos c_220]; exact ih _ (by omega) (dn + 1) g rr rd (n - 1) (l + 0) _ rfl (by omega) (by omega) (fun q => absurd q c_98))
                      | (rw [ua_s hd (uS3 c_98 hn0), uTurn, if_pos rfl, if_pos rfl, if_pos rfl, if_neg c_220]; exact ih _ (by omega) (dn + 1) g rr rd (n - 1) (l + wv) _ rfl (by omega) (by omega) (fun q => absurd q c_98))
                      | (rw [ua_s hd (uS5 c_98 hn0 (fun q => q.elim c_158 (fun z => by omega)) c_177)]; exact ih _ (by omega) (dn + 1) 3 rr (rd + 0) l (0 + 0) _ rfl (by omega) (by omega) (fun q => absurd q (by decide)))
                      | (rw [ua_s hd (uS5 c_98 hn0 (fun q => q.elim c_158 (fun z => by omega)) (by omega))]; exact ih _ (by omega) (dn + 1) 3 rr (rd + 0) l (0 + 0) _ rfl (by omega) (by omega) (fun q => absurd q (by decide)))
                      | (have hg2 : g = 2 := by omega
                         subst hg2
                         rw [ua_s hd (uS6 (by decide) hn0 (fun q => q.elim (fun z => absurd z (by decide)) (fun z => by omega)) (by omega))]
                         exact ih _ (by omega) (dn + 1) 2 rr (rd + 1) l (0 + wv) _ rfl (by omega) (by omega) (fun q => absurd q (by decide)))
                  · refine z_iconst (v := nI 0) dX12_units_223 rfl ?_
                    refine z_goto (tgt := 228) dX12_units_224 (by decide) ?_
                    refine z_addN dX12_units_228 ?_
                    refine z_istore dX12_units_229 (Nat.le_of_ble_eq_true rfl) rfl ?_
                    refine z_incN dX12_units_231 rfl rfl ?_
                    refine z_goto (tgt := 85) dX12_units_234 (by decide) ?_
                    refine z_fg 9 ?_
                    first
                      | exact absurd c_220 (by omega)
                      | (rw [ua_s hd (uS1 c_98 (by omega))]; exact ih _ (by omega) (dn + 1) 2 (rr + 1) (0 + 1) l (0 + wv) _ rfl (by omega) (by omega) (fun q => absurd q (by decide)))
                      | (rw [ua_s hd (uS2 c_98 (by omega))]; exact ih _ (by omega) (dn + 1) 1 (rr + 1) 0 n (l + wv) _ rfl (by omega) (by omega) (fun q => ⟨by omega, rfl, rfl⟩))
                      | (rw [ua_s hd (uS3 c_98 hn0), uTurn, if_pos rfl, if_pos rfl, if_pos rfl, if_pos c_220]; exact ih _ (by omega) (dn + 1) g rr rd (n - 1) (l + 0) _ rfl (by omega) (by omega) (fun q => absurd q c_98))
                      | (rw [ua_s hd (uS3 c_98 hn0), uTurn, if_pos rfl, if_pos rfl, if_pos rfl, if_neg c_220]; exact ih _ (by omega) (dn + 1) g rr rd (n - 1) (l + wv) _ rfl (by omega) (by omega) (fun q => absurd q c_98))
                      | (rw [ua_s hd (uS5 c_98 hn0 (fun q => q.elim c_158 (fun z => by omega)) c_177)]; exact ih _ (by omega) (dn + 1) 3 rr (rd + 0) l (0 + 0) _ rfl (by omega) (by omega) (fun q => absurd q (by decide)))
                      | (rw [ua_s hd (uS5 c_98 hn0 (fun q => q.elim c_158 (fun z => by omega)) (by omega))]; exact ih _ (by omega) (dn + 1) 3 rr (rd + 0) l (0 + 0) _ rfl (by omega) (by omega) (fun q => absurd q (by decide)))
                      | (have hg2 : g = 2 := by omega
                         subst hg2
                         rw [ua_s hd (uS6 (by decide) hn0 (fun q => q.elim (fun z => absurd z (by decide)) (fun z => by omega)) (by omega))]
                         exact ih _ (by omega) (dn + 1) 2 rr (rd + 1) l (0 + wv) _ rfl (by omega) (by omega) (fun q => absurd q (by decide)))
              · refine z_iload dX12_units_198 rfl ?_
                refine z_ireturn dX12_units_200 (Nat.le_of_ble_eq_true rfl) (Nat.le_of_ble_eq_true rfl) rfl ?_
                exact zi_r (by rw [ua_n hd (uS4 c_98 hn0 (Or.inr ⟨by omega, by omega⟩))])
            · refine z_iconst (v := nI 3) dX12_units_180 rfl ?_
              refine z_istore_n dX12_units_181 (Nat.le_of_ble_eq_true rfl) rfl ?_
              refine z_goto (tgt := 204) dX12_units_182 (by decide) ?_
              refine z_iload dX12_units_204 rfl ?_
              refine z_if_eqN (tgt := 216) dX12_units_206 (by decide) (by omega) (fun c_206 => ?_) (fun c_206 => ?_)
              · exact absurd c_206 (by omega)
              · refine z_iload dX12_units_209 rfl ?_
                refine z_istore dX12_units_211 (Nat.le_of_ble_eq_true rfl) rfl ?_
                refine z_iconst (v := nI 0) dX12_units_213 rfl ?_
                refine z_istore dX12_units_214 (Nat.le_of_ble_eq_true rfl) rfl ?_
                refine z_iload dX12_units_216 rfl ?_
                refine z_iload_n dX12_units_218 rfl ?_
                refine z_iconst (v := nI 3) dX12_units_219 rfl ?_
                refine z_icmp_neN (tgt := 227) dX12_units_220 (by decide) (by omega) (by omega) (fun c_220 => ?_) (fun c_220 => ?_)
                · exact absurd c_220 (by omega)
                · refine z_iconst (v := nI 0) dX12_units_223 rfl ?_
                  refine z_goto (tgt := 228) dX12_units_224 (by decide) ?_
                  refine z_addN dX12_units_228 ?_
                  refine z_istore dX12_units_229 (Nat.le_of_ble_eq_true rfl) rfl ?_
                  refine z_incN dX12_units_231 rfl rfl ?_
                  refine z_goto (tgt := 85) dX12_units_234 (by decide) ?_
                  refine z_fg 9 ?_
                  first
                    | exact absurd c_220 (by omega)
                    | (rw [ua_s hd (uS1 c_98 (by omega))]; exact ih _ (by omega) (dn + 1) 2 (rr + 1) (0 + 1) l (0 + wv) _ rfl (by omega) (by omega) (fun q => absurd q (by decide)))
                    | (rw [ua_s hd (uS2 c_98 (by omega))]; exact ih _ (by omega) (dn + 1) 1 (rr + 1) 0 n (l + wv) _ rfl (by omega) (by omega) (fun q => ⟨by omega, rfl, rfl⟩))
                    | (rw [ua_s hd (uS3 c_98 hn0), uTurn, if_pos rfl, if_pos rfl, if_pos rfl, if_pos c_220]; exact ih _ (by omega) (dn + 1) g rr rd (n - 1) (l + 0) _ rfl (by omega) (by omega) (fun q => absurd q c_98))
                    | (rw [ua_s hd (uS3 c_98 hn0), uTurn, if_pos rfl, if_pos rfl, if_pos rfl, if_neg c_220]; exact ih _ (by omega) (dn + 1) g rr rd (n - 1) (l + wv) _ rfl (by omega) (by omega) (fun q => absurd q c_98))
                    | (rw [ua_s hd (uS5 c_98 hn0 (fun q => q.elim c_158 (fun z => by omega)) c_177)]; exact ih _ (by omega) (dn + 1) 3 rr (rd + 0) l (0 + 0) _ rfl (by omega) (by omega) (fun q => absurd q (by decide)))
                    | (rw [ua_s hd (uS5 c_98 hn0 (fun q => q.elim c_158 (fun z => by omega)) (by omega))]; exact ih _ (by omega) (dn + 1) 3 rr (rd + 0) l (0 + 0) _ rfl (by omega) (by omega) (fun q => absurd q (by decide)))
                    | (have hg2 : g = 2 := by omega
                       subst hg2
                       rw [ua_s hd (uS6 (by decide) hn0 (fun q => q.elim (fun z => absurd z (by decide)) (fun z => by omega)) (by omega))]
                       exact ih _ (by omega) (dn + 1) 2 rr (rd + 1) l (0 + wv) _ rfl (by omega) (by omega) (fun q => absurd q (by decide)))
          · refine z_iload dX12_units_161 rfl ?_
            refine z_ireturn dX12_units_163 (Nat.le_of_ble_eq_true rfl) (Nat.le_of_ble_eq_true rfl) rfl ?_
            exact zi_r (by rw [ua_n hd (uS4 c_98 hn0 (Or.inl c_158))])
        · have hn0 : 0 < n := by omega
          refine z_decN dX12_units_150 rfl (by omega) rfl ?_
          refine z_goto (tgt := 204) dX12_units_153 (by decide) ?_
          refine z_iload dX12_units_204 rfl ?_
          refine z_if_eqN (tgt := 216) dX12_units_206 (by decide) (by omega) (fun c_206 => ?_) (fun c_206 => ?_)
          · refine z_iload dX12_units_216 rfl ?_
            refine z_iload_n dX12_units_218 rfl ?_
            refine z_iconst (v := nI 3) dX12_units_219 rfl ?_
            refine z_icmp_neN (tgt := 227) dX12_units_220 (by decide) (by omega) (by omega) (fun c_220 => ?_) (fun c_220 => ?_)
            · refine z_iload_n dX12_units_227 rfl ?_
              refine z_addN dX12_units_228 ?_
              refine z_istore dX12_units_229 (Nat.le_of_ble_eq_true rfl) rfl ?_
              refine z_incN dX12_units_231 rfl rfl ?_
              refine z_goto (tgt := 85) dX12_units_234 (by decide) ?_
              refine z_fg 9 ?_
              first
                | exact absurd c_220 (by omega)
                | (rw [ua_s hd (uS1 c_98 (by omega))]; exact ih _ (by omega) (dn + 1) 2 (rr + 1) (0 + 1) l (0 + wv) _ rfl (by omega) (by omega) (fun q => absurd q (by decide)))
                | (rw [ua_s hd (uS2 c_98 (by omega))]; exact ih _ (by omega) (dn + 1) 1 (rr + 1) 0 n (l + wv) _ rfl (by omega) (by omega) (fun q => ⟨by omega, rfl, rfl⟩))
                | (rw [ua_s hd (uS3 c_98 hn0), uTurn, if_pos rfl, if_pos rfl, if_pos rfl, if_pos c_220]; exact ih _ (by omega) (dn + 1) g rr rd (n - 1) (l + 0) _ rfl (by omega) (by omega) (fun q => absurd q c_98))
                | (rw [ua_s hd (uS3 c_98 hn0), uTurn, if_pos rfl, if_pos rfl, if_pos rfl, if_neg c_220]; exact ih _ (by omega) (dn + 1) g rr rd (n - 1) (l + wv) _ rfl (by omega) (by omega) (fun q => absurd q c_98))
                | (rw [ua_s hd (uS5 c_98 hn0 (fun q => q.elim c_158 (fun z => by omega)) c_177)]; exact ih _ (by omega) (dn + 1) 3 rr (rd + 0) l (0 + 0) _ rfl (by omega) (by omega) (fun q => absurd q (by decide)))
                | (rw [ua_s hd (uS5 c_98 hn0 (fun q => q.elim c_158 (fun z => by omega)) (by omega))]; exact ih _ (by omega) (dn + 1) 3 rr (rd + 0) l (0 + 0) _ rfl (by omega) (by omega) (fun q => absurd q (by decide)))
                | (have hg2 : g = 2 := by omega
                   subst hg2
                   rw [ua_s hd (uS6 (by decide) hn0 (fun q => q.elim (fun z => absurd z (by decide)) (fun z => by omega)) (by omega))]
                   exact ih _ (by omega) (dn + 1) 2 rr (rd + 1) l (0 + wv) _ rfl (by omega) (by omega) (fun q => absurd q (by decide)))
            · refine z_iconst (v := nI 0) dX12_units_223 rfl ?_
              refine z_goto (tgt := 228) dX12_units_224 (by decide) ?_
              refine z_addN dX12_units_228 ?_
              refine z_istore dX12_units_229 (Nat.le_of_ble_eq_true rfl) rfl ?_
              refine z_incN dX12_units_231 rfl rfl ?_
              refine z_goto (tgt := 85) dX12_units_234 (by decide) ?_
              refine z_fg 9 ?_
              first
                | exact absurd c_220 (by omega)
                | (rw [ua_s hd (uS1 c_98 (by omega))]; exact ih _ (by omega) (dn + 1) 2 (rr + 1) (0 + 1) l (0 + wv) _ rfl (by omega) (by omega) (fun q => absurd q (by decide)))
                | (rw [ua_s hd (uS2 c_98 (by omega))]; exact ih _ (by omega) (dn + 1) 1 (rr + 1) 0 n (l + wv) _ rfl (by omega) (by omega) (fun q => ⟨by omega, rfl, rfl⟩))
                | (rw [ua_s hd (uS3 c_98 hn0), uTurn, if_pos rfl, if_pos rfl, if_pos rfl, if_pos c_220]; exact ih _ (by omega) (dn + 1) g rr rd (n - 1) (l + 0) _ rfl (by omega) (by omega) (fun q => absurd q c_98))
                | (rw [ua_s hd (uS3 c_98 hn0), uTurn, if_pos rfl, if_pos rfl, if_pos rfl, if_neg c_220]; exact ih _ (by omega) (dn + 1) g rr rd (n - 1) (l + wv) _ rfl (by omega) (by omega) (fun q => absurd q c_98))
                | (rw [ua_s hd (uS5 c_98 hn0 (fun q => q.elim c_158 (fun z => by omega)) c_177)]; exact ih _ (by omega) (dn + 1) 3 rr (rd + 0) l (0 + 0) _ rfl (by omega) (by omega) (fun q => absurd q (by decide)))
                | (rw [ua_s hd (uS5 c_98 hn0 (fun q => q.elim c_158 (fun z => by omega)) (by omega))]; exact ih _ (by omega) (dn + 1) 3 rr (rd + 0) l (0 + 0) _ rfl (by omega) (by omega) (fun q => absurd q (by decide)))
                | (have hg2 : g = 2 := by omega
                   subst hg2
                   rw [ua_s hd (uS6 (by decide) hn0 (fun q => q.elim (fun z => absurd z (by decide)) (fun z => by omega)) (by omega))]
                   exact ih _ (by omega) (dn + 1) 2 rr (rd + 1) l (0 + wv) _ rfl (by omega) (by omega) (fun q => absurd q (by decide)))
          · exact absurd c_206 (by omega)
      · obtain ⟨r1, r2, r3⟩ := h_2 c_98
        subst r3
        subst r2
        refine z_incN dX12_units_101 rfl rfl ?_
        refine z_iload dX12_units_104 rfl ?_
        refine z_bipush (v := nI 48) dX12_units_106 rfl ?_
        refine z_icmp_neN (tgt := 115) dX12_units_108 (by decide) (by omega) (by omega) (fun c_108 => ?_) (fun c_108 => ?_)
        · refine z_iconst (v := nI 0) dX12_units_115 rfl ?_
          refine z_istore dX12_units_116 (Nat.le_of_ble_eq_true rfl) rfl ?_
          refine z_iload dX12_units_118 rfl ?_
          refine z_if_eqN (tgt := 127) dX12_units_120 (by decide) (by omega) (fun c_120 => ?_) (fun c_120 => ?_)
          · refine z_iconst (v := nI 1) dX12_units_127 rfl ?_
            refine z_istore_n dX12_units_128 (Nat.le_of_ble_eq_true rfl) rfl ?_
            refine z_iload dX12_units_129 rfl ?_
            refine z_if_eqN (tgt := 138) dX12_units_131 (by decide) (by omega) (fun c_131 => ?_) (fun c_131 => ?_)
            · refine z_iload dX12_units_138 rfl ?_
              refine z_istore dX12_units_140 (Nat.le_of_ble_eq_true rfl) rfl ?_
              refine z_goto (tgt := 204) dX12_units_142 (by decide) ?_
              refine z_iload dX12_units_204 rfl ?_
              refine z_if_eqN (tgt := 216) dX12_units_206 (by decide) (by omega) (fun c_206 => ?_) (fun c_206 => ?_)
              · refine z_iload dX12_units_216 rfl ?_
                refine z_iload_n dX12_units_218 rfl ?_
                refine z_iconst (v := nI 3) dX12_units_219 rfl ?_
                refine z_icmp_neN (tgt := 227) dX12_units_220 (by decide) (by omega) (by omega) (fun c_220 => ?_) (fun c_220 => ?_)
                · refine z_iload_n dX12_units_227 rfl ?_
                  refine z_addN dX12_units_228 ?_
                  refine z_istore dX12_units_229 (Nat.le_of_ble_eq_true rfl) rfl ?_
                  refine z_incN dX12_units_231 rfl rfl ?_
                  refine z_goto (tgt := 85) dX12_units_234 (by decide) ?_
                  refine z_fg 9 ?_
                  first
                    | exact absurd c_220 (by omega)
                    | (rw [ua_s hd (uS1 c_98 (by omega))]; exact ih _ (by omega) (dn + 1) 2 (rr + 1) (0 + 1) l (0 + wv) _ rfl (by omega) (by omega) (fun q => absurd q (by decide)))
                    | (rw [ua_s hd (uS2 c_98 (by omega))]; exact ih _ (by omega) (dn + 1) 1 (rr + 1) 0 n (l + wv) _ rfl (by omega) (by omega) (fun q => ⟨by omega, rfl, rfl⟩))
                    | (rw [ua_s hd (uS3 c_98 hn0), uTurn, if_pos rfl, if_pos rfl, if_pos rfl, if_pos c_220]; exact ih _ (by omega) (dn + 1) g rr rd (n - 1) (l + 0) _ rfl (by omega) (by omega) (fun q => absurd q c_98))
                    | (rw [ua_s hd (uS3 c_98 hn0), uTurn, if_pos rfl, if_pos rfl, if_pos rfl, if_neg c_220]; exact ih _ (by omega) (dn + 1) g rr rd (n - 1) (l + wv) _ rfl (by omega) (by omega) (fun q => absurd q c_98))
                    | (rw [ua_s hd (uS5 c_98 hn0 (fun q => q.elim c_158 (fun z => by omega)) c_177)]; exact ih _ (by omega) (dn + 1) 3 rr (rd + 0) l (0 + 0) _ rfl (by omega) (by omega) (fun q => absurd q (by decide)))
                    | (rw [ua_s hd (uS5 c_98 hn0 (fun q => q.elim c_158 (fun z => by omega)) (by omega))]; exact ih _ (by omega) (dn + 1) 3 rr (rd + 0) l (0 + 0) _ rfl (by omega) (by omega) (fun q => absurd q (by decide)))
                    | (have hg2 : g = 2 := by omega
                       subst hg2
                       rw [ua_s hd (uS6 (by decide) hn0 (fun q => q.elim (fun z => absurd z (by decide)) (fun z => by omega)) (by omega))]
                       exact ih _ (by omega) (dn + 1) 2 rr (rd + 1) l (0 + wv) _ rfl (by omega) (by omega) (fun q => absurd q (by decide)))
                · exact absurd c_220 (by omega)
              · exact absurd c_206 (by omega)
            · exact absurd c_131 (by omega)
          · exact absurd c_120 (by omega)
        · refine z_iconst (v := nI 1) dX12_units_111 rfl ?_
          refine z_goto (tgt := 116) dX12_units_112 (by decide) ?_
          refine z_istore dX12_units_116 (Nat.le_of_ble_eq_true rfl) rfl ?_
          refine z_iload dX12_units_118 rfl ?_
          refine z_if_eqN (tgt := 127) dX12_units_120 (by decide) (by omega) (fun c_120 => ?_) (fun c_120 => ?_)
          · exact absurd c_120 (by omega)
          · refine z_iconst (v := nI 2) dX12_units_123 rfl ?_
            refine z_goto (tgt := 128) dX12_units_124 (by decide) ?_
            refine z_istore_n dX12_units_128 (Nat.le_of_ble_eq_true rfl) rfl ?_
            refine z_iload dX12_units_129 rfl ?_
            refine z_if_eqN (tgt := 138) dX12_units_131 (by decide) (by omega) (fun c_131 => ?_) (fun c_131 => ?_)
            · exact absurd c_131 (by omega)
            · refine z_iconst (v := nI 1) dX12_units_134 rfl ?_
              refine z_goto (tgt := 140) dX12_units_135 (by decide) ?_
              refine z_istore dX12_units_140 (Nat.le_of_ble_eq_true rfl) rfl ?_
              refine z_goto (tgt := 204) dX12_units_142 (by decide) ?_
              refine z_iload dX12_units_204 rfl ?_
              refine z_if_eqN (tgt := 216) dX12_units_206 (by decide) (by omega) (fun c_206 => ?_) (fun c_206 => ?_)
              · exact absurd c_206 (by omega)
              · refine z_iload dX12_units_209 rfl ?_
                refine z_istore dX12_units_211 (Nat.le_of_ble_eq_true rfl) rfl ?_
                refine z_iconst (v := nI 0) dX12_units_213 rfl ?_
                refine z_istore dX12_units_214 (Nat.le_of_ble_eq_true rfl) rfl ?_
                refine z_iload dX12_units_216 rfl ?_
                refine z_iload_n dX12_units_218 rfl ?_
                refine z_iconst (v := nI 3) dX12_units_219 rfl ?_
                refine z_icmp_neN (tgt := 227) dX12_units_220 (by decide) (by omega) (by omega) (fun c_220 => ?_) (fun c_220 => ?_)
                · refine z_iload_n dX12_units_227 rfl ?_
                  refine z_addN dX12_units_228 ?_
                  refine z_istore dX12_units_229 (Nat.le_of_ble_eq_true rfl) rfl ?_
                  refine z_incN dX12_units_231 rfl rfl ?_
                  refine z_goto (tgt := 85) dX12_units_234 (by decide) ?_
                  refine z_fg 9 ?_
                  first
                    | exact absurd c_220 (by omega)
                    | (rw [ua_s hd (uS1 c_98 (by omega))]; exact ih _ (by omega) (dn + 1) 2 (rr + 1) (0 + 1) l (0 + wv) _ rfl (by omega) (by omega) (fun q => absurd q (by decide)))
                    | (rw [ua_s hd (uS2 c_98 (by omega))]; exact ih _ (by omega) (dn + 1) 1 (rr + 1) 0 n (l + wv) _ rfl (by omega) (by omega) (fun q => ⟨by omega, rfl, rfl⟩))
                    | (rw [ua_s hd (uS3 c_98 hn0), uTurn, if_pos rfl, if_pos rfl, if_pos rfl, if_pos c_220]; exact ih _ (by omega) (dn + 1) g rr rd (n - 1) (l + 0) _ rfl (by omega) (by omega) (fun q => absurd q c_98))
                    | (rw [ua_s hd (uS3 c_98 hn0), uTurn, if_pos rfl, if_pos rfl, if_pos rfl, if_neg c_220]; exact ih _ (by omega) (dn + 1) g rr rd (n - 1) (l + wv) _ rfl (by omega) (by omega) (fun q => absurd q c_98))
                    | (rw [ua_s hd (uS5 c_98 hn0 (fun q => q.elim c_158 (fun z => by omega)) c_177)]; exact ih _ (by omega) (dn + 1) 3 rr (rd + 0) l (0 + 0) _ rfl (by omega) (by omega) (fun q => absurd q (by decide)))
                    | (rw [ua_s hd (uS5 c_98 hn0 (fun q => q.elim c_158 (fun z => by omega)) (by omega))]; exact ih _ (by omega) (dn + 1) 3 rr (rd + 0) l (0 + 0) _ rfl (by omega) (by omega) (fun q => absurd q (by decide)))
                    | (have hg2 : g = 2 := by omega
                       subst hg2
                       rw [ua_s hd (uS6 (by decide) hn0 (fun q => q.elim (fun z => absurd z (by decide)) (fun z => by omega)) (by omega))]
                       exact ih _ (by omega) (dn + 1) 2 rr (rd + 1) l (0 + wv) _ rfl (by omega) (by omega) (fun q => absurd q (by decide)))
                · exact absurd c_220 (by omega)

set_option maxHeartbeats 4000000 in
set_option maxRecDepth 100000 in
theorem m_units {D : zD} {z0 nx : Nat} {L : zL} {V : zV} {m : Nat} {w : Wo} (hm : sM L m) (h : MW V m w) {i : Int32} {x : Int32} (hU0 : ∀ i, i < 2 → (xof w i).1.1 = 1 → (xof w i).1.2.2.1 < 48 ∧ (xof w i).1.2.2.2.1 = 0) (hrd : ∀ i, i < 2 → (xof w i).1.2.2.2.1 < 900000) : Sp D z0 5 0 0 mX12_units [.ref m, .int i, .int x] L V nx (zq (some (.int (o_units i x w).1)) L nx (fun V' => zEq V V' m (m + 16) ∧ MW V' m (o_units i x w).2)) := by
  have hm0 := hm
  have h0 := h
  obtain ⟨a0, a1, a2, a3, a4, a5, a6, a7, a8, a9, a10, a11, a12, a13, a14, a15⟩ := hm
  refine Sp.of 7 (by decide) rfl rfl (Nat.le_of_ble_eq_true rfl) ?_
  refine z_aload_n dX12_units_0 rfl ?_
  refine z_iconst (v := nI 0) dX12_units_1 rfl ?_
  refine z_putI dX12_units_2 fX12_1 (by first | assumption | exact And.left (by assumption)) rfl ?_
  have h9 := MW_thr (x := nI 0) h0
  have e0 : zEq V (zup V m 0 (nI 0)) m (m + 16) := zEq.rf.up (by omega) (by omega)
  generalize zup V m 0 (nI 0) = V1 at h9 e0 ⊢
  clear h0 h
  have h0 := h9
  obtain ⟨k1, k2, k3, k4, k5, k6, k7⟩ := h9
  refine z_iload_n dX12_units_5 rfl ?_
  refine z_callS1i dX12_units_6 kX12_isIndex lX12_346 s_mIx (Nat.le_of_ble_eq_true rfl) (Nat.le_of_ble_eq_true rfl) ⟨Nat.le_of_ble_eq_true rfl, Nat.le_of_ble_eq_true rfl⟩ ?_
  refine z_if_neB (tgt := 15) dX12_units_9 (by decide) (fun c_9 => ?_) (fun c_9 => ?_)
  · refine z_iload_n dX12_units_15 rfl ?_
    refine z_i2l dX12_units_16 ?_
    refine z_lconst dX12_units_17 rfl ?_
    refine z_ldc2 dX12_units_18 qX12_405 ?_
    refine z_callS3i dX12_units_21 kX12_isIn lX12_86 (s_isIn (v := x.toInt64)) (Nat.le_of_ble_eq_true rfl) (Nat.le_of_ble_eq_true rfl) ⟨Nat.le_of_ble_eq_true rfl, Nat.le_of_ble_eq_true rfl⟩ ?_
    refine z_if_neB (tgt := 30) dX12_units_24 (by decide) (fun c_24 => ?_) (fun c_24 => ?_)
    · have c_x : rng 6 x := (rng_i (n := 5) (by decide)).mp (by rw [i64] at c_24; exact c_24)
      have hR : o_units i x w = (cif (und (xof w (tn i))) (ua (tn x) w.1.1.2.1 w.1.1.2.2 999 1 ((xof w (tn i)).1.1, (xof w (tn i)).1.2.2.1, (xof w (tn i)).1.2.2.2.1, (xof w (tn i)).2.2.2.1.length, (xof w (tn i)).2.2.2.2.length), w) (-5, w)) := by unfold o_units; rw [cif_y c_9, cif_y c_x]
      obtain ⟨j, hj, rfl⟩ := c_x
      obtain ⟨k, hk, rfl⟩ := c_9
      have hT := tn_k (k := k) (by omega)
      have hX0 := k1.2.2.2 k hk
      obtain ⟨x1, x2, x3, x4, x5, x6⟩ := k1.2.2.2 k hk
      obtain ⟨n1, n2, n3, n4, n5⟩ := x1
      have hs6 := x6.1
      rw [hT, tn_k (k := j) (by omega)] at hR
      have hMN := k1.1
      have g14 := x4.1
      have g15 := x5.1
      have xb := x6.2.2.2.2.2.2
      refine z_aload_n dX12_units_30 rfl ?_
      refine z_iload_n dX12_units_31 rfl ?_
      refine z_callV1i dX12_units_32 kX12_isBuilt lX12_369 (by first | assumption | exact And.left (by assumption)) rfl (s_mBuilt hm0 hk hX0) (Nat.le_of_ble_eq_true rfl) (Nat.le_of_ble_eq_true rfl) ⟨Nat.le_of_ble_eq_true rfl, Nat.le_of_ble_eq_true rfl⟩ ?_
      refine z_if_neB (tgt := 41) dX12_units_35 (by decide) (fun c_35 => ?_) (fun c_35 => ?_)
      · refine z_aload_n dX12_units_41 rfl ?_
        refine z_iload_n dX12_units_42 rfl ?_
        refine z_iconst (v := nI 0) dX12_units_43 rfl ?_
        refine z_callV2i dX12_units_44 kX12_ofIndex lX12_104 (by first | assumption | exact And.left (by assumption)) rfl (s_ofIx hm0 hk (by omega) n1) (Nat.le_of_ble_eq_true rfl) (Nat.le_of_ble_eq_true rfl) ⟨Nat.le_of_ble_eq_true rfl, Nat.le_of_ble_eq_true rfl⟩ ?_
        refine z_istore_n dX12_units_47 (Nat.le_of_ble_eq_true rfl) rfl ?_
        refine z_aload_n dX12_units_48 rfl ?_
        refine z_iload_n dX12_units_49 rfl ?_
        refine z_iconst (v := nI 1) dX12_units_50 rfl ?_
        refine z_callV2i dX12_units_51 kX12_ofIndex lX12_104 (by first | assumption | exact And.left (by assumption)) rfl (s_ofIx hm0 hk (by omega) n2) (Nat.le_of_ble_eq_true rfl) (Nat.le_of_ble_eq_true rfl) ⟨Nat.le_of_ble_eq_true rfl, Nat.le_of_ble_eq_true rfl⟩ ?_
        refine z_istore dX12_units_54 (Nat.le_of_ble_eq_true rfl) rfl ?_
        refine z_aload_n dX12_units_56 rfl ?_
        refine z_iload_n dX12_units_57 rfl ?_
        refine z_bipush (v := nI 14) dX12_units_58 rfl ?_
        refine z_callV2i dX12_units_60 kX12_ofIndex lX12_104 (by first | assumption | exact And.left (by assumption)) rfl (s_ofIx hm0 hk (by omega) g14) (Nat.le_of_ble_eq_true rfl) (Nat.le_of_ble_eq_true rfl) ⟨Nat.le_of_ble_eq_true rfl, Nat.le_of_ble_eq_true rfl⟩ ?_
        refine z_istore dX12_units_63 (Nat.le_of_ble_eq_true rfl) rfl ?_
        refine z_aload_n dX12_units_65 rfl ?_
        refine z_iload_n dX12_units_66 rfl ?_
        refine z_bipush (v := nI 15) dX12_units_67 rfl ?_
        refine z_callV2i dX12_units_69 kX12_ofIndex lX12_104 (by first | assumption | exact And.left (by assumption)) rfl (s_ofIx hm0 hk (by omega) g15) (Nat.le_of_ble_eq_true rfl) (Nat.le_of_ble_eq_true rfl) ⟨Nat.le_of_ble_eq_true rfl, Nat.le_of_ble_eq_true rfl⟩ ?_
        refine z_istore dX12_units_72 (Nat.le_of_ble_eq_true rfl) rfl ?_
        refine z_aload_n dX12_units_74 rfl ?_
        refine z_iload_n dX12_units_75 rfl ?_
        refine z_iconst (v := nI 2) dX12_units_76 rfl ?_
        refine z_callV2i dX12_units_77 kX12_ofIndex lX12_104 (by first | assumption | exact And.left (by assumption)) rfl (s_ofIx hm0 hk (by omega) n3) (Nat.le_of_ble_eq_true rfl) (Nat.le_of_ble_eq_true rfl) ⟨Nat.le_of_ble_eq_true rfl, Nat.le_of_ble_eq_true rfl⟩ ?_
        refine z_istore dX12_units_80 (Nat.le_of_ble_eq_true rfl) rfl ?_
        refine z_iconst (v := nI 1) dX12_units_82 rfl ?_
        refine z_istore dX12_units_83 (Nat.le_of_ble_eq_true rfl) rfl ?_
        rw [hR, cif_y (show und (xof w k) from c_35)]
        have hu : und (xof w k) := c_35
        have hu1 : 1 ≤ (w.1.2.2.2 k).1.1 ∧ (w.1.2.2.2 k).1.1 ≤ 3 := hu
        have b1 := x6.2.2.1
        have b2 : (w.1.2.2.2 k).1.2.2.2.1 < 900000 := hrd k hk
        have b3 := xb.2.1
        have b4 := xb.2.2.1
        refine Z.mono (lp_mUnits (D := D) (z0 := z0) (nx := nx) (sh := w.1.1.2.1) (mo := w.1.1.2.2) hm0 hMN.2.1 hMN.2.2.1 (by omega) (by have := hMN.2.2.2.2.1; omega) (by have := hMN.2.2.2.2.2.2; omega) _ 1 (w.1.2.2.2 k).1.1 (w.1.2.2.2 k).1.2.2.1 (w.1.2.2.2 k).1.2.2.2.1 (w.1.2.2.2 k).2.2.2.1.length (w.1.2.2.2 k).2.2.2.2.length _ rfl (by omega) (by omega) (fun q => ⟨(hU0 k hk q).1, (hU0 k hk q).2, if_pos q⟩)) ?_
        intro r2 L2 V9 n9 h9
        obtain ⟨g1, g2, g3, g4⟩ := h9
        rw [g3]
        exact ⟨g1, g2, g4, e0, h0⟩
      · refine z_bipush (v := (-5)) dX12_units_38 rfl ?_
        refine z_ireturn dX12_units_40 (Nat.le_of_ble_eq_true rfl) (Nat.le_of_ble_eq_true rfl) rfl ?_
        rw [hR, cif_n (show ¬ und (xof w k) from c_35)]
        exact ⟨rfl, rfl, rfl, e0, h0⟩
    · have c_x : ¬ rng 6 x := fun z => c_24 (by rw [i64]; exact (rng_i (n := 5) (by decide)).mpr z)
      refine z_bipush (v := (-3)) dX12_units_27 rfl ?_
      refine z_ireturn dX12_units_29 (Nat.le_of_ble_eq_true rfl) (Nat.le_of_ble_eq_true rfl) rfl ?_
      rw [show o_units i x w = (-3, w) from by unfold o_units; rw [cif_y c_9]; rw [cif_n c_x]]
      exact ⟨rfl, rfl, rfl, e0, h0⟩
  · refine z_bipush (v := (-2)) dX12_units_12 rfl ?_
    refine z_ireturn dX12_units_14 (Nat.le_of_ble_eq_true rfl) (Nat.le_of_ble_eq_true rfl) rfl ?_
    rw [show o_units i x w = (-2, w) from by unfold o_units; rw [cif_n c_9]]
    exact ⟨rfl, rfl, rfl, e0, h0⟩

