/-! the law: one turn of its loop, case by case -/
section L3
variable {g : GG} {m : Mm} {b K t x a ou bc bs : Nat} {xs : Nat → Int32} {Fi : Ou → Mm → Prop}
theorem l_sign (hg : GO g) (hX : va_X b K xs g.1 g.1.heap) (hbl : b < g.1.heap.size) (hK : K ≤ 2560) (hi : 5 * t + 5 ≤ K) (hI : LI g m x a ou) (k : ∀ m', LI g m' x a ou → V g m_L_law 9 182 bc bs 941 (lwo b x a ou (nI (5 * t))) [] m' Fi) : V g m_L_law 9 182 (bc + 506) (bs + 4566) 112 (lwo b x a ou (nI (5 * t))) [] m Fi := by
  obtain ⟨A, E, col, B, sc, ar, f, tx, lb, pr, n, day, len, ft, ed, hA, hB, hR⟩ := hI
  subst hA
  have j1 : vp_in (nI (5 * t) + 1) K := sc_in (c := 1) hK hi (by omega)
  first | refine V_aload_n d_L_law_112 rfl rfl ?_ | refine V_aloadN_n d_L_law_112 rfl rfl ?_
  first | refine V_aload_n d_L_law_113 rfl rfl ?_ | refine V_aloadN_n d_L_law_113 rfl rfl ?_
  refine V_iload d_L_law_114 rfl ?_
  refine V_iconst (v := 1) d_L_law_116 (by decide) ?_
  refine V_iadd d_L_law_117 ?_
  refine V_sld d_L_law_118 hX hbl (by assumption) ?_
  refine V_bud (bc' := bc + 1) (bs' := bs + 6) (by omega) (by omega) ?_
  refine V_callW cb_L_sign ms_L_66 (by decide) rfl d_L_law_119 (c_L_sign hg (c_T_sign hg hB.1 _) hB.1.1.1 (vI_of (io_sign _)) (vE_of (io_sign _))) ⟨by decide, by decide⟩ rfl rfl (Nat.le_of_ble_eq_true rfl) (fun _ _ h => (Hv_x h).elim) (fun v9 m2 hH => ?_)
  obtain ⟨code, hv9⟩ := Hv_o hH
  subst hv9
  obtain ⟨E', col', hB1, hAG⟩ := LI_V hB hH
  refine V_istore d_L_law_122 rfl ?_
  first | refine V_aload_n d_L_law_124 rfl rfl ?_ | refine V_aloadN_n d_L_law_124 rfl rfl ?_
  first | refine V_aload_n d_L_law_125 rfl rfl ?_ | refine V_aloadN_n d_L_law_125 rfl rfl ?_
  refine V_iload d_L_law_126 rfl ?_
  refine V_iconst (v := 1) d_L_law_128 (by decide) ?_
  refine V_iadd d_L_law_129 ?_
  refine V_sld d_L_law_130 hX hbl (by assumption) ?_
  refine VcallV cb_M_sign mv_L_71 rfl (ci := 6) rfl rfl d_L_law_131 (c_M_sign hg hB1.2.1 hR _) ⟨by decide, by decide⟩ rfl hB1.2.1.1 rfl (Nat.le_of_ble_eq_true rfl) (fun _ _ h => nomatch h.1) (fun v8 m3 h8 => ?_)
  obtain ⟨hv8, sc', ar', hM, hR2, hG⟩ := h8
  cases hv8
  have hB2 := LB_M hB1 hM
  have e1 := hAG _ hG
  first | refine V_aload_n d_L_law_134 rfl rfl ?_ | refine V_aloadN_n d_L_law_134 rfl rfl ?_
  refine VcallV cb_M_thrown mv_L_72 rfl (ci := 6) rfl rfl d_L_law_135 (c_M_thrown hg hM) ⟨by decide, by decide⟩ rfl hM.1 rfl (Nat.le_of_ble_eq_true rfl) (fun _ _ h => nomatch h.1) (fun v7 m7 h7 => ?_)
  obtain ⟨hv7, e7⟩ := h7
  cases hv7
  subst m7
  refine V_iload d_L_law_138 rfl ?_
  refine V_icmp_eq (tgt := 145) d_L_law_140 (by decide) (fun h_140 => ?_) (fun h_140 => ?_)
  · refine V_goto (tgt := 941) d_L_law_145 (by decide) ?_
    exact V_lo (lwo b (A 0) a ou (nI (5 * t))) ⟨rfl, rfl, rfl, rfl, rfl, trivial⟩ (k _ ⟨A, E', col', B, sc', ar', f, _, _, _, _, _, _, _, _, rfl, hB2, hR2⟩)
  · exact absurd e1 h_140
/-- behind the helper's read -/
theorem l_read_t (hg : GO g) (hX : va_X b K xs g.1 g.1.heap) (hbl : b < g.1.heap.size) {m2 : Mm} {A : Nat → Nat} {E' : Nat → Nat → Nat} {col' : Nat → Nat} {B : Nat → Nat} {sc : Fw} {ar : Ar} {f' : Nat → Int64} {tx lb pr : Sq} {n : Nat} {day : Int32} {len : Nat} {ft : Fw} {ed : Nat → Edd} {r : Ou} {code : Int32} (j1 : vp_in (nI (5 * t) + 1) K) (hB1 : LB g m2 A E' col' a B ou sc ar f' tx lb pr n day len ft ed) (hAG : ∀ v c, AG [xIA, xUO] r v c → c = code ∧ (code = 0 → f' 0 = v.toInt64 ∧ r = oI v)) (hC : CT g m_M_read 4 96 0 0 [.ref a, .int (xs (nI (5 * t) + 1).toNatClampNeg)] m2 (Pq g m2 a B [xIA, xUO] r tx lb pr n day len ft ed)) (k : ∀ m', LI g m' (A 0) a ou → V g m_L_law 9 182 bc bs 941 (lwo b (A 0) a ou (nI (5 * t))) [] m' Fi) : V g m_L_law 9 182 bc bs 159 (lwo b (A 0) a ou (nI (5 * t))) [.int code] m2 Fi := by
  have hz : vp_in (0 : Int32) 1 := vp_nI (j := 0) (by omega) (by omega)
  refine V_istore d_L_law_159 rfl ?_
  first | refine V_aload_n d_L_law_161 rfl rfl ?_ | refine V_aloadN_n d_L_law_161 rfl rfl ?_
  first | refine V_aload_n d_L_law_162 rfl rfl ?_ | refine V_aloadN_n d_L_law_162 rfl rfl ?_
  refine V_iload d_L_law_163 rfl ?_
  refine V_iconst (v := 1) d_L_law_165 (by decide) ?_
  refine V_iadd d_L_law_166 ?_
  refine V_sld d_L_law_167 hX hbl (by assumption) ?_
  refine VcallV cb_M_read mv_L_78 rfl (ci := 6) rfl rfl d_L_law_168 (hC) ⟨by decide, by decide⟩ rfl hB1.2.1.1 rfl (Nat.le_of_ble_eq_true rfl) (fun _ _ h => by obtain ⟨_, h, -⟩ := h; cases h) (fun v8 m3 h8 => ?_)
  obtain ⟨v, hv8, sc', ar', hM, hR2, hG⟩ := h8
  cases hv8
  have hB2 := LB_M hB1 hM
  obtain ⟨e1, e2⟩ := hAG _ _ hG
  refine V_istore d_L_law_171 rfl ?_
  first | refine V_aload_n d_L_law_173 rfl rfl ?_ | refine V_aloadN_n d_L_law_173 rfl rfl ?_
  refine VcallV cb_M_thrown mv_L_72 rfl (ci := 6) rfl rfl d_L_law_174 (c_M_thrown hg hM) ⟨by decide, by decide⟩ rfl hM.1 rfl (Nat.le_of_ble_eq_true rfl) (fun _ _ h => nomatch h.1) (fun v7 m7 h7 => ?_)
  obtain ⟨hv7, e7⟩ := h7
  cases hv7
  subst m7
  refine V_iload d_L_law_177 rfl ?_
  refine V_icmp_eq (tgt := 184) d_L_law_179 (by decide) (fun h_179 => ?_) (fun h_179 => ?_)
  · refine V_iload d_L_law_184 rfl ?_
    refine V_if_ne (tgt := 201) d_L_law_186 (by decide) (fun h_186 => ?_) (fun h_186 => ?_)
    · refine V_goto (tgt := 941) d_L_law_201 (by decide) ?_
      exact V_lo (lwo b (A 0) a ou (nI (5 * t))) ⟨rfl, rfl, rfl, rfl, rfl, trivial⟩ (k _ ⟨A, E', col', B, sc', ar', f', _, _, _, _, _, _, _, _, rfl, hB2, hR2⟩)
    · first | refine V_aload_n d_L_law_189 rfl rfl ?_ | refine V_aloadN_n d_L_law_189 rfl rfl ?_
      refine V_iconst (v := 0) d_L_law_190 (by decide) ?_
      refine Vlald d_L_law_191 hB2.2.2.1 hz ?_
      refine V_iload d_L_law_192 rfl ?_
      refine V_i2l d_L_law_194 ?_
      refine V_lcmp d_L_law_195 ?_
      refine V_if_eq (tgt := 201) d_L_law_196 (by decide) (fun h_196 => ?_) (fun h_196 => ?_)
      · refine V_goto (tgt := 941) d_L_law_201 (by decide) ?_
        exact V_lo (lwo b (A 0) a ou (nI (5 * t))) ⟨rfl, rfl, rfl, rfl, rfl, trivial⟩ (k _ ⟨A, E', col', B, sc', ar', f', _, _, _, _, _, _, _, _, rfl, hB2, hR2⟩)
      · exact absurd (lc_ne (e2 h_186).1) h_196
  · exact absurd e1 h_179
theorem l_read (hg : GO g) (hX : va_X b K xs g.1 g.1.heap) (hbl : b < g.1.heap.size) (hK : K ≤ 2560) (hi : 5 * t + 5 ≤ K) (hI : LI g m x a ou) (k : ∀ m', LI g m' x a ou → V g m_L_law 9 182 bc bs 941 (lwo b x a ou (nI (5 * t))) [] m' Fi) : V g m_L_law 9 182 (bc + 506) (bs + 4566) 148 (lwo b x a ou (nI (5 * t))) [] m Fi := by
  obtain ⟨A, E, col, B, sc, ar, f, tx, lb, pr, n, day, len, ft, ed, hA, hB, hR⟩ := hI
  subst hA
  have j1 : vp_in (nI (5 * t) + 1) K := sc_in (c := 1) hK hi (by omega)
  first | refine V_aload_n d_L_law_148 rfl rfl ?_ | refine V_aloadN_n d_L_law_148 rfl rfl ?_
  first | refine V_aload_n d_L_law_149 rfl rfl ?_ | refine V_aloadN_n d_L_law_149 rfl rfl ?_
  refine V_iload d_L_law_150 rfl ?_
  refine V_iconst (v := 1) d_L_law_152 (by decide) ?_
  refine V_iadd d_L_law_153 ?_
  refine V_sld d_L_law_154 hX hbl (by assumption) ?_
  first | refine V_aload_n d_L_law_155 rfl rfl ?_ | refine V_aloadN_n d_L_law_155 rfl rfl ?_
  refine V_callW cb_L_read ms_L_75 (by decide) rfl d_L_law_156 (c_L_read (f := f) hg (c_T_read hg hB.1 _) hB.1.1.1 (fun v m1 h => ?_) (fun E9 m1 h => ?_)) ⟨by decide, by decide⟩ rfl rfl (Nat.le_of_ble_eq_true rfl) (fun _ _ h => (Hq_x h).elim) (fun v9 m2 hH => ?_)
  · rcases h with ⟨-, h⟩ | ⟨-, f1, f2, f3, ⟨-, h⟩ | ⟨-, ⟨-, h⟩ | ⟨-, h⟩⟩⟩
    · exact hI_of (L := [xIA]) (Or.inr ⟨xIA, by simp, rfl⟩) hB v m1 h
    · exact hI_of (L := [xIA]) (io_i _) hB v m1 h
    · exact hI_of (L := [xUO]) (Or.inr ⟨xUO, by simp, rfl⟩) hB v m1 h
    · exact hI_of (L := [xIA]) (io_i _) hB v m1 h
  · rcases h with ⟨-, h⟩ | ⟨-, f1, f2, f3, ⟨-, h⟩ | ⟨-, ⟨-, h⟩ | ⟨-, h⟩⟩⟩
    · exact hE_of (Or.inr ⟨xIA, by simp, rfl⟩) E9 m1 h
    · exact hE_of (io_i _) E9 m1 h
    · exact hE_of (Or.inr ⟨xUO, by simp, rfl⟩) E9 m1 h
    · exact hE_of (io_i _) E9 m1 h
  obtain ⟨code, hv9⟩ := Hq_o hH
  subst hv9
  obtain ⟨r9, m9, hP, hc⟩ := hH
  rcases hP with ⟨d1, hP⟩ | ⟨d1, f1, f2, f3, ⟨d2, hP⟩ | ⟨d2, ⟨d3, hP⟩ | ⟨d3, hP⟩⟩⟩
  · obtain ⟨E', col', f', hB1, hAG⟩ := LI_H hB ⟨r9, m9, hP, hc⟩
    refine l_read_t hg hX hbl j1 hB1 hAG ((c_M_read hg hB1.2.1 hR _ (fun _ => 0) (fun _ => 0) (fun _ => 0)).mono (fun o9 m9 h9 => ?_)) k
    rcases h9 with ⟨z1, h⟩ | ⟨z1, ⟨z2, h⟩ | ⟨z2, ⟨z3, h⟩ | ⟨z3, h⟩⟩⟩
    · exact h
    · rw [d1] at z1; cases z1
    · rw [d1] at z1; cases z1
    · rw [d1] at z1; cases z1
  · obtain ⟨E', col', f', hB1, hAG⟩ := LI_H hB ⟨r9, m9, hP, hc⟩
    refine l_read_t hg hX hbl j1 hB1 hAG ((c_M_read hg hB1.2.1 hR _ f1 f2 f3).mono (fun o9 m9 h9 => ?_)) k
    rcases h9 with ⟨z1, h⟩ | ⟨z1, ⟨z2, h⟩ | ⟨z2, ⟨z3, h⟩ | ⟨z3, h⟩⟩⟩
    · rw [d1] at z1; cases z1
    · exact h
    · rw [d2] at z2; cases z2
    · rw [d2] at z2; cases z2
  · obtain ⟨E', col', f', hB1, hAG⟩ := LI_H hB ⟨r9, m9, hP, hc⟩
    refine l_read_t hg hX hbl j1 hB1 hAG ((c_M_read hg hB1.2.1 hR _ f1 f2 f3).mono (fun o9 m9 h9 => ?_)) k
    rcases h9 with ⟨z1, h⟩ | ⟨z1, ⟨z2, h⟩ | ⟨z2, ⟨z3, h⟩ | ⟨z3, h⟩⟩⟩
    · rw [d1] at z1; cases z1
    · rw [d2] at z2; cases z2
    · exact h
    · exact absurd d3 z3
  · obtain ⟨E', col', f', hB1, hAG⟩ := LI_H hB ⟨r9, m9, hP, hc⟩
    refine l_read_t hg hX hbl j1 hB1 hAG ((c_M_read hg hB1.2.1 hR _ f1 f2 f3).mono (fun o9 m9 h9 => ?_)) k
    rcases h9 with ⟨z1, h⟩ | ⟨z1, ⟨z2, h⟩ | ⟨z2, ⟨z3, h⟩ | ⟨z3, h⟩⟩⟩
    · rw [d1] at z1; cases z1
    · rw [d2] at z2; cases z2
    · exact absurd z3 d3
    · exact h
theorem l_today (hg : GO g) (hX : va_X b K xs g.1 g.1.heap) (hbl : b < g.1.heap.size) (hK : K ≤ 2560) (hi : 5 * t + 5 ≤ K) (hI : LI g m x a ou) (k : ∀ m', LI g m' x a ou → V g m_L_law 9 182 bc bs 941 (lwo b x a ou (nI (5 * t))) [] m' Fi) : V g m_L_law 9 182 (bc + 506) (bs + 4566) 204 (lwo b x a ou (nI (5 * t))) [] m Fi := by
  obtain ⟨A, E, col, B, sc, ar, f, tx, lb, pr, n, day, len, ft, ed, hA, hB, hR⟩ := hI
  subst hA
  have j1 : vp_in (nI (5 * t) + 1) K := sc_in (c := 1) hK hi (by omega)
  have hz : vp_in (0 : Int32) 1 := vp_nI (j := 0) (by omega) (by omega)
  first | refine V_aload_n d_L_law_204 rfl rfl ?_ | refine V_aloadN_n d_L_law_204 rfl rfl ?_
  first | refine V_aload_n d_L_law_205 rfl rfl ?_ | refine V_aloadN_n d_L_law_205 rfl rfl ?_
  refine V_iload d_L_law_206 rfl ?_
  refine V_iconst (v := 1) d_L_law_208 (by decide) ?_
  refine V_iadd d_L_law_209 ?_
  refine V_sld d_L_law_210 hX hbl (by assumption) ?_
  first | refine V_aload_n d_L_law_211 rfl rfl ?_ | refine V_aloadN_n d_L_law_211 rfl rfl ?_
  refine V_bud (bc' := bc + 1) (bs' := bs + 6) (by omega) (by omega) ?_
  refine V_callW cb_L_today ms_L_79 (by decide) rfl d_L_law_212 (c_L_today hg (c_T_today hg hB.1 _) hB.1.1.1 (hI_of (io_today _) hB) (hE_of (io_today _))) ⟨by decide, by decide⟩ rfl rfl (Nat.le_of_ble_eq_true rfl) (fun _ _ h => (Hq_x h).elim) (fun v9 m2 hH => ?_)
  obtain ⟨code, hv9⟩ := Hq_o hH
  subst hv9
  obtain ⟨E', col', f', hB1, hAG⟩ := LI_H hB hH
  refine V_istore d_L_law_215 rfl ?_
  first | refine V_aload_n d_L_law_217 rfl rfl ?_ | refine V_aloadN_n d_L_law_217 rfl rfl ?_
  first | refine V_aload_n d_L_law_218 rfl rfl ?_ | refine V_aloadN_n d_L_law_218 rfl rfl ?_
  refine V_iload d_L_law_219 rfl ?_
  refine V_iconst (v := 1) d_L_law_221 (by decide) ?_
  refine V_iadd d_L_law_222 ?_
  refine V_sld d_L_law_223 hX hbl (by assumption) ?_
  refine VcallV cb_M_today mv_L_81 rfl (ci := 6) rfl rfl d_L_law_224 (c_M_today hg hB1.2.1 hR _) ⟨by decide, by decide⟩ rfl hB1.2.1.1 rfl (Nat.le_of_ble_eq_true rfl) (fun _ _ h => by obtain ⟨_, h, -⟩ := h; cases h) (fun v8 m3 h8 => ?_)
  obtain ⟨v, hv8, sc', ar', hM, hR2, hG⟩ := h8
  cases hv8
  have hB2 := LB_M hB1 hM
  obtain ⟨e1, e2⟩ := hAG _ _ hG
  refine V_istore d_L_law_227 rfl ?_
  first | refine V_aload_n d_L_law_229 rfl rfl ?_ | refine V_aloadN_n d_L_law_229 rfl rfl ?_
  refine VcallV cb_M_thrown mv_L_72 rfl (ci := 6) rfl rfl d_L_law_230 (c_M_thrown hg hM) ⟨by decide, by decide⟩ rfl hM.1 rfl (Nat.le_of_ble_eq_true rfl) (fun _ _ h => nomatch h.1) (fun v7 m7 h7 => ?_)
  obtain ⟨hv7, e7⟩ := h7
  cases hv7
  subst m7
  refine V_iload d_L_law_233 rfl ?_
  refine V_icmp_eq (tgt := 240) d_L_law_235 (by decide) (fun h_235 => ?_) (fun h_235 => ?_)
  · refine V_iload d_L_law_240 rfl ?_
    refine V_if_ne (tgt := 257) d_L_law_242 (by decide) (fun h_242 => ?_) (fun h_242 => ?_)
    · refine V_goto (tgt := 941) d_L_law_257 (by decide) ?_
      exact V_lo (lwo b (A 0) a ou (nI (5 * t))) ⟨rfl, rfl, rfl, rfl, rfl, trivial⟩ (k _ ⟨A, E', col', B, sc', ar', f', _, _, _, _, _, _, _, _, rfl, hB2, hR2⟩)
    · first | refine V_aload_n d_L_law_245 rfl rfl ?_ | refine V_aloadN_n d_L_law_245 rfl rfl ?_
      refine V_iconst (v := 0) d_L_law_246 (by decide) ?_
      refine Vlald d_L_law_247 hB2.2.2.1 hz ?_
      refine V_iload d_L_law_248 rfl ?_
      refine V_i2l d_L_law_250 ?_
      refine V_lcmp d_L_law_251 ?_
      refine V_if_eq (tgt := 257) d_L_law_252 (by decide) (fun h_252 => ?_) (fun h_252 => ?_)
      · refine V_goto (tgt := 941) d_L_law_257 (by decide) ?_
        exact V_lo (lwo b (A 0) a ou (nI (5 * t))) ⟨rfl, rfl, rfl, rfl, rfl, trivial⟩ (k _ ⟨A, E', col', B, sc', ar', f', _, _, _, _, _, _, _, _, rfl, hB2, hR2⟩)
      · exact absurd (lc_ne (e2 h_242).1) h_252
  · exact absurd e1 h_235
theorem l_fits (hg : GO g) (hX : va_X b K xs g.1 g.1.heap) (hbl : b < g.1.heap.size) (hK : K ≤ 2560) (hi : 5 * t + 5 ≤ K) (hI : LI g m x a ou) (k : ∀ m', LI g m' x a ou → V g m_L_law 9 182 bc bs 941 (lwo b x a ou (nI (5 * t))) [] m' Fi) : V g m_L_law 9 182 (bc + 506) (bs + 4566) 260 (lwo b x a ou (nI (5 * t))) [] m Fi := by
  obtain ⟨A, E, col, B, sc, ar, f, tx, lb, pr, n, day, len, ft, ed, hA, hB, hR⟩ := hI
  subst hA
  have j1 : vp_in (nI (5 * t) + 1) K := sc_in (c := 1) hK hi (by omega)
  have j2 : vp_in (nI (5 * t) + 2) K := sc_in (c := 2) hK hi (by omega)
  have j3 : vp_in (nI (5 * t) + 3) K := sc_in (c := 3) hK hi (by omega)
  have j4 : vp_in (nI (5 * t) + 4) K := sc_in (c := 4) hK hi (by omega)
  have hz : vp_in (0 : Int32) 1 := vp_nI (j := 0) (by omega) (by omega)
  first | refine V_aload_n d_L_law_260 rfl rfl ?_ | refine V_aloadN_n d_L_law_260 rfl rfl ?_
  first | refine V_aload_n d_L_law_261 rfl rfl ?_ | refine V_aloadN_n d_L_law_261 rfl rfl ?_
  refine V_iload d_L_law_262 rfl ?_
  refine V_iconst (v := 1) d_L_law_264 (by decide) ?_
  refine V_iadd d_L_law_265 ?_
  refine V_sld d_L_law_266 hX hbl (by assumption) ?_
  first | refine V_aload_n d_L_law_267 rfl rfl ?_ | refine V_aloadN_n d_L_law_267 rfl rfl ?_
  refine V_iload d_L_law_268 rfl ?_
  refine V_iconst (v := 2) d_L_law_270 (by decide) ?_
  refine V_iadd d_L_law_271 ?_
  refine V_sld d_L_law_272 hX hbl (by assumption) ?_
  first | refine V_aload_n d_L_law_273 rfl rfl ?_ | refine V_aloadN_n d_L_law_273 rfl rfl ?_
  refine V_iload d_L_law_274 rfl ?_
  refine V_iconst (v := 3) d_L_law_276 (by decide) ?_
  refine V_iadd d_L_law_277 ?_
  refine V_sld d_L_law_278 hX hbl (by assumption) ?_
  first | refine V_aload_n d_L_law_279 rfl rfl ?_ | refine V_aloadN_n d_L_law_279 rfl rfl ?_
  refine V_iload d_L_law_280 rfl ?_
  refine V_iconst (v := 4) d_L_law_282 (by decide) ?_
  refine V_iadd d_L_law_283 ?_
  refine V_sld d_L_law_284 hX hbl (by assumption) ?_
  first | refine V_aload_n d_L_law_285 rfl rfl ?_ | refine V_aloadN_n d_L_law_285 rfl rfl ?_
  refine V_bud (bc' := bc + 1) (bs' := bs + 6) (by omega) (by omega) ?_
  refine V_callW cb_L_fits ms_L_82 (by decide) rfl d_L_law_286 (c_L_fits (f := f) hg (c_T_fits hg hB.1 _ _ _ _) hB.1.1.1 (fun v m1 h => by obtain ⟨pc, h⟩ := h; exact hI_of (io_fits _ _ _ _ _ _) hB v m1 h) (fun E9 m1 h => by obtain ⟨pc, h⟩ := h; exact hE_of (io_fits _ _ _ _ _ _) E9 m1 h)) ⟨by decide, by decide⟩ rfl rfl (Nat.le_of_ble_eq_true rfl) (fun _ _ h => (Hq_x h).elim) (fun v9 m2 hH => ?_)
  obtain ⟨code, hv9⟩ := Hq_o hH
  subst hv9
  obtain ⟨r9, m9, ⟨pc, hP⟩, hc⟩ := hH
  obtain ⟨E', col', f', hB1, hAG⟩ := LI_H hB ⟨r9, m9, hP, hc⟩
  refine V_istore d_L_law_289 rfl ?_
  first | refine V_aload_n d_L_law_291 rfl rfl ?_ | refine V_aloadN_n d_L_law_291 rfl rfl ?_
  first | refine V_aload_n d_L_law_292 rfl rfl ?_ | refine V_aloadN_n d_L_law_292 rfl rfl ?_
  refine V_iload d_L_law_293 rfl ?_
  refine V_iconst (v := 1) d_L_law_295 (by decide) ?_
  refine V_iadd d_L_law_296 ?_
  refine V_sld d_L_law_297 hX hbl (by assumption) ?_
  first | refine V_aload_n d_L_law_298 rfl rfl ?_ | refine V_aloadN_n d_L_law_298 rfl rfl ?_
  refine V_iload d_L_law_299 rfl ?_
  refine V_iconst (v := 2) d_L_law_301 (by decide) ?_
  refine V_iadd d_L_law_302 ?_
  refine V_sld d_L_law_303 hX hbl (by assumption) ?_
  first | refine V_aload_n d_L_law_304 rfl rfl ?_ | refine V_aloadN_n d_L_law_304 rfl rfl ?_
  refine V_iload d_L_law_305 rfl ?_
  refine V_iconst (v := 3) d_L_law_307 (by decide) ?_
  refine V_iadd d_L_law_308 ?_
  refine V_sld d_L_law_309 hX hbl (by assumption) ?_
  first | refine V_aload_n d_L_law_310 rfl rfl ?_ | refine V_aloadN_n d_L_law_310 rfl rfl ?_
  refine V_iload d_L_law_311 rfl ?_
  refine V_iconst (v := 4) d_L_law_313 (by decide) ?_
  refine V_iadd d_L_law_314 ?_
  refine V_sld d_L_law_315 hX hbl (by assumption) ?_
  refine VcallV cb_M_fits mv_L_85 rfl (ci := 6) rfl rfl d_L_law_316 (c_M_fits hg hB1.2.1 hR _ _ _ _ pc) ⟨by decide, by decide⟩ rfl hB1.2.1.1 rfl (Nat.le_of_ble_eq_true rfl) (fun _ _ h => by obtain ⟨_, h, -⟩ := h; cases h) (fun v8 m3 h8 => ?_)
  obtain ⟨v, hv8, sc', ar', hM, hR2, hG⟩ := h8
  cases hv8
  have hB2 := LB_M hB1 hM
  obtain ⟨e1, e2⟩ := hAG _ _ hG
  refine V_istore d_L_law_319 rfl ?_
  first | refine V_aload_n d_L_law_321 rfl rfl ?_ | refine V_aloadN_n d_L_law_321 rfl rfl ?_
  refine VcallV cb_M_thrown mv_L_72 rfl (ci := 6) rfl rfl d_L_law_322 (c_M_thrown hg hM) ⟨by decide, by decide⟩ rfl hM.1 rfl (Nat.le_of_ble_eq_true rfl) (fun _ _ h => nomatch h.1) (fun v7 m7 h7 => ?_)
  obtain ⟨hv7, e7⟩ := h7
  cases hv7
  subst m7
  refine V_iload d_L_law_325 rfl ?_
  refine V_icmp_eq (tgt := 332) d_L_law_327 (by decide) (fun h_327 => ?_) (fun h_327 => ?_)
  · refine V_iload d_L_law_332 rfl ?_
    refine V_if_ne (tgt := 349) d_L_law_334 (by decide) (fun h_334 => ?_) (fun h_334 => ?_)
    · refine V_goto (tgt := 941) d_L_law_349 (by decide) ?_
      exact V_lo (lwo b (A 0) a ou (nI (5 * t))) ⟨rfl, rfl, rfl, rfl, rfl, trivial⟩ (k _ ⟨A, E', col', B, sc', ar', f', _, _, _, _, _, _, _, _, rfl, hB2, hR2⟩)
    · first | refine V_aload_n d_L_law_337 rfl rfl ?_ | refine V_aloadN_n d_L_law_337 rfl rfl ?_
      refine V_iconst (v := 0) d_L_law_338 (by decide) ?_
      refine Vlald d_L_law_339 hB2.2.2.1 hz ?_
      refine V_iload d_L_law_340 rfl ?_
      refine V_i2l d_L_law_342 ?_
      refine V_lcmp d_L_law_343 ?_
      refine V_if_eq (tgt := 349) d_L_law_344 (by decide) (fun h_344 => ?_) (fun h_344 => ?_)
      · refine V_goto (tgt := 941) d_L_law_349 (by decide) ?_
        exact V_lo (lwo b (A 0) a ou (nI (5 * t))) ⟨rfl, rfl, rfl, rfl, rfl, trivial⟩ (k _ ⟨A, E', col', B, sc', ar', f', _, _, _, _, _, _, _, _, rfl, hB2, hR2⟩)
      · exact absurd (lc_ne (e2 h_334).1) h_344
  · exact absurd e1 h_327
theorem l_at (hg : GO g) (hX : va_X b K xs g.1 g.1.heap) (hbl : b < g.1.heap.size) (hK : K ≤ 2560) (hi : 5 * t + 5 ≤ K) (hI : LI g m x a ou) (k : ∀ m', LI g m' x a ou → V g m_L_law 9 182 bc bs 941 (lwo b x a ou (nI (5 * t))) [] m' Fi) : V g m_L_law 9 182 (bc + 506) (bs + 4566) 352 (lwo b x a ou (nI (5 * t))) [] m Fi := by
  obtain ⟨A, E, col, B, sc, ar, f, tx, lb, pr, n, day, len, ft, ed, hA, hB, hR⟩ := hI
  subst hA
  have j1 : vp_in (nI (5 * t) + 1) K := sc_in (c := 1) hK hi (by omega)
  first | refine V_aload_n d_L_law_352 rfl rfl ?_ | refine V_aloadN_n d_L_law_352 rfl rfl ?_
  first | refine V_aload_n d_L_law_353 rfl rfl ?_ | refine V_aloadN_n d_L_law_353 rfl rfl ?_
  refine V_iload d_L_law_354 rfl ?_
  refine V_iconst (v := 1) d_L_law_356 (by decide) ?_
  refine V_iadd d_L_law_357 ?_
  refine V_sld d_L_law_358 hX hbl (by assumption) ?_
  refine V_bud (bc' := bc) (bs' := bs) (by omega) (by omega) ?_
  refine VcallV cb_T_at mv_L_86 rfl (ci := 5) rfl rfl d_L_law_359 (c_T_at hg hB.1 _) ⟨by decide, by decide⟩ rfl hB.1.1.1 rfl (Nat.le_of_ble_eq_true rfl) (fun _ _ h => nomatch h.1) (fun v9 m2 hP => ?_)
  obtain ⟨hv9, E', col', hB1⟩ := LB_T hB hP
  cases hv9
  first | refine V_aload_n d_L_law_362 rfl rfl ?_ | refine V_aloadN_n d_L_law_362 rfl rfl ?_
  first | refine V_aload_n d_L_law_363 rfl rfl ?_ | refine V_aloadN_n d_L_law_363 rfl rfl ?_
  refine V_iload d_L_law_364 rfl ?_
  refine V_iconst (v := 1) d_L_law_366 (by decide) ?_
  refine V_iadd d_L_law_367 ?_
  refine V_sld d_L_law_368 hX hbl (by assumption) ?_
  refine VcallV cb_M_at mv_L_89 rfl (ci := 6) rfl rfl d_L_law_369 (c_M_at hg hB1.2.1 hR _) ⟨by decide, by decide⟩ rfl hB1.2.1.1 rfl (Nat.le_of_ble_eq_true rfl) (fun _ _ h => by obtain ⟨_, h, -⟩ := h; cases h) (fun v8 m3 h8 => ?_)
  obtain ⟨v, hv8, sc', ar', hM, hR2, hG⟩ := h8
  cases hv8
  have hB2 := LB_M hB1 hM
  have e1 := hG.2
  refine V_icmp_eq (tgt := 941) d_L_law_372 (by decide) (fun h_372 => ?_) (fun h_372 => ?_)
  · exact V_lo (lwo b (A 0) a ou (nI (5 * t))) ⟨rfl, rfl, rfl, rfl, rfl, trivial⟩ (k _ ⟨A, E', col', B, sc', ar', f, _, _, _, _, _, _, _, _, rfl, hB2, hR2⟩)
  · exact absurd e1.symm h_372
theorem l_price (hg : GO g) (hX : va_X b K xs g.1 g.1.heap) (hbl : b < g.1.heap.size) (hK : K ≤ 2560) (hi : 5 * t + 5 ≤ K) (hI : LI g m x a ou) (k : ∀ m', LI g m' x a ou → V g m_L_law 9 182 bc bs 941 (lwo b x a ou (nI (5 * t))) [] m' Fi) : V g m_L_law 9 182 (bc + 506) (bs + 4566) 377 (lwo b x a ou (nI (5 * t))) [] m Fi := by
  obtain ⟨A, E, col, B, sc, ar, f, tx, lb, pr, n, day, len, ft, ed, hA, hB, hR⟩ := hI
  subst hA
  have j1 : vp_in (nI (5 * t) + 1) K := sc_in (c := 1) hK hi (by omega)
  have j2 : vp_in (nI (5 * t) + 2) K := sc_in (c := 2) hK hi (by omega)
  have hz : vp_in (0 : Int32) 1 := vp_nI (j := 0) (by omega) (by omega)
  first | refine V_aload_n d_L_law_377 rfl rfl ?_ | refine V_aloadN_n d_L_law_377 rfl rfl ?_
  first | refine V_aload_n d_L_law_378 rfl rfl ?_ | refine V_aloadN_n d_L_law_378 rfl rfl ?_
  refine V_iload d_L_law_379 rfl ?_
  refine V_iconst (v := 1) d_L_law_381 (by decide) ?_
  refine V_iadd d_L_law_382 ?_
  refine V_sld d_L_law_383 hX hbl (by assumption) ?_
  first | refine V_aload_n d_L_law_384 rfl rfl ?_ | refine V_aloadN_n d_L_law_384 rfl rfl ?_
  refine V_iload d_L_law_385 rfl ?_
  refine V_iconst (v := 2) d_L_law_387 (by decide) ?_
  refine V_iadd d_L_law_388 ?_
  refine V_sld d_L_law_389 hX hbl (by assumption) ?_
  first | refine V_aload_n d_L_law_390 rfl rfl ?_ | refine V_aloadN_n d_L_law_390 rfl rfl ?_
  refine V_bud (bc' := bc + 1) (bs' := bs + 6) (by omega) (by omega) ?_
  refine V_callW cb_L_price ms_L_90 (by decide) rfl d_L_law_391 (c_L_price hg (c_T_price hg hB.1 _ _) hB.1.1.1 (hI_of (io_price _ _ _) hB) (hE_of (io_price _ _ _))) ⟨by decide, by decide⟩ rfl rfl (Nat.le_of_ble_eq_true rfl) (fun _ _ h => (Hq_x h).elim) (fun v9 m2 hH => ?_)
  obtain ⟨code, hv9⟩ := Hq_o hH
  subst hv9
  obtain ⟨E', col', f', hB1, hAG⟩ := LI_H hB hH
  refine V_istore d_L_law_394 rfl ?_
  first | refine V_aload_n d_L_law_396 rfl rfl ?_ | refine V_aloadN_n d_L_law_396 rfl rfl ?_
  first | refine V_aload_n d_L_law_397 rfl rfl ?_ | refine V_aloadN_n d_L_law_397 rfl rfl ?_
  refine V_iload d_L_law_398 rfl ?_
  refine V_iconst (v := 1) d_L_law_400 (by decide) ?_
  refine V_iadd d_L_law_401 ?_
  refine V_sld d_L_law_402 hX hbl (by assumption) ?_
  first | refine V_aload_n d_L_law_403 rfl rfl ?_ | refine V_aloadN_n d_L_law_403 rfl rfl ?_
  refine V_iload d_L_law_404 rfl ?_
  refine V_iconst (v := 2) d_L_law_406 (by decide) ?_
  refine V_iadd d_L_law_407 ?_
  refine V_sld d_L_law_408 hX hbl (by assumption) ?_
  refine VcallV cb_M_price mv_L_93 rfl (ci := 6) rfl rfl d_L_law_409 (c_M_price hg hB1.2.1 hR _ _) ⟨by decide, by decide⟩ rfl hB1.2.1.1 rfl (Nat.le_of_ble_eq_true rfl) (fun _ _ h => by obtain ⟨_, h, -⟩ := h; cases h) (fun v8 m3 h8 => ?_)
  obtain ⟨v, hv8, sc', ar', hM, hR2, hG⟩ := h8
  cases hv8
  have hB2 := LB_M hB1 hM
  obtain ⟨e1, e2⟩ := hAG _ _ hG
  refine V_istore d_L_law_412 rfl ?_
  first | refine V_aload_n d_L_law_414 rfl rfl ?_ | refine V_aloadN_n d_L_law_414 rfl rfl ?_
  refine VcallV cb_M_thrown mv_L_72 rfl (ci := 6) rfl rfl d_L_law_415 (c_M_thrown hg hM) ⟨by decide, by decide⟩ rfl hM.1 rfl (Nat.le_of_ble_eq_true rfl) (fun _ _ h => nomatch h.1) (fun v7 m7 h7 => ?_)
  obtain ⟨hv7, e7⟩ := h7
  cases hv7
  subst m7
  refine V_iload d_L_law_418 rfl ?_
  refine V_icmp_eq (tgt := 425) d_L_law_420 (by decide) (fun h_420 => ?_) (fun h_420 => ?_)
  · refine V_iload d_L_law_425 rfl ?_
    refine V_if_ne (tgt := 442) d_L_law_427 (by decide) (fun h_427 => ?_) (fun h_427 => ?_)
    · refine V_goto (tgt := 941) d_L_law_442 (by decide) ?_
      exact V_lo (lwo b (A 0) a ou (nI (5 * t))) ⟨rfl, rfl, rfl, rfl, rfl, trivial⟩ (k _ ⟨A, E', col', B, sc', ar', f', _, _, _, _, _, _, _, _, rfl, hB2, hR2⟩)
    · first | refine V_aload_n d_L_law_430 rfl rfl ?_ | refine V_aloadN_n d_L_law_430 rfl rfl ?_
      refine V_iconst (v := 0) d_L_law_431 (by decide) ?_
      refine Vlald d_L_law_432 hB2.2.2.1 hz ?_
      refine V_iload d_L_law_433 rfl ?_
      refine V_i2l d_L_law_435 ?_
      refine V_lcmp d_L_law_436 ?_
      refine V_if_eq (tgt := 442) d_L_law_437 (by decide) (fun h_437 => ?_) (fun h_437 => ?_)
      · refine V_goto (tgt := 941) d_L_law_442 (by decide) ?_
        exact V_lo (lwo b (A 0) a ou (nI (5 * t))) ⟨rfl, rfl, rfl, rfl, rfl, trivial⟩ (k _ ⟨A, E', col', B, sc', ar', f', _, _, _, _, _, _, _, _, rfl, hB2, hR2⟩)
      · exact absurd (lc_ne (e2 h_427).1) h_437
  · exact absurd e1 h_420
theorem l_zone (hg : GO g) (hX : va_X b K xs g.1 g.1.heap) (hbl : b < g.1.heap.size) (hK : K ≤ 2560) (hi : 5 * t + 5 ≤ K) (hI : LI g m x a ou) (k : ∀ m', LI g m' x a ou → V g m_L_law 9 182 bc bs 941 (lwo b x a ou (nI (5 * t))) [] m' Fi) : V g m_L_law 9 182 (bc + 506) (bs + 4566) 445 (lwo b x a ou (nI (5 * t))) [] m Fi := by
  obtain ⟨A, E, col, B, sc, ar, f, tx, lb, pr, n, day, len, ft, ed, hA, hB, hR⟩ := hI
  subst hA
  have j1 : vp_in (nI (5 * t) + 1) K := sc_in (c := 1) hK hi (by omega)
  have hz : vp_in (0 : Int32) 1 := vp_nI (j := 0) (by omega) (by omega)
  first | refine V_aload_n d_L_law_445 rfl rfl ?_ | refine V_aloadN_n d_L_law_445 rfl rfl ?_
  first | refine V_aload_n d_L_law_446 rfl rfl ?_ | refine V_aloadN_n d_L_law_446 rfl rfl ?_
  refine V_iload d_L_law_447 rfl ?_
  refine V_iconst (v := 1) d_L_law_449 (by decide) ?_
  refine V_iadd d_L_law_450 ?_
  refine V_sld d_L_law_451 hX hbl (by assumption) ?_
  first | refine V_aload_n d_L_law_452 rfl rfl ?_ | refine V_aloadN_n d_L_law_452 rfl rfl ?_
  refine V_bud (bc' := bc + 1) (bs' := bs + 6) (by omega) (by omega) ?_
  refine V_callW cb_L_zone ms_L_94 (by decide) rfl d_L_law_453 (c_L_zone hg (c_T_zone hg hB.1 _) hB.1.1.1 (hI_of (io_zone _ _) hB) (hE_of (io_zone _ _))) ⟨by decide, by decide⟩ rfl rfl (Nat.le_of_ble_eq_true rfl) (fun _ _ h => (Hq_x h).elim) (fun v9 m2 hH => ?_)
  obtain ⟨code, hv9⟩ := Hq_o hH
  subst hv9
  obtain ⟨E', col', f', hB1, hAG⟩ := LI_H hB hH
  refine V_istore d_L_law_456 rfl ?_
  first | refine V_aload_n d_L_law_458 rfl rfl ?_ | refine V_aloadN_n d_L_law_458 rfl rfl ?_
  first | refine V_aload_n d_L_law_459 rfl rfl ?_ | refine V_aloadN_n d_L_law_459 rfl rfl ?_
  refine V_iload d_L_law_460 rfl ?_
  refine V_iconst (v := 1) d_L_law_462 (by decide) ?_
  refine V_iadd d_L_law_463 ?_
  refine V_sld d_L_law_464 hX hbl (by assumption) ?_
  refine VcallV cb_M_zone mv_L_96 rfl (ci := 6) rfl rfl d_L_law_465 (c_M_zone hg hB1.2.1 hR _) ⟨by decide, by decide⟩ rfl hB1.2.1.1 rfl (Nat.le_of_ble_eq_true rfl) (fun _ _ h => by obtain ⟨_, h, -⟩ := h; cases h) (fun v8 m3 h8 => ?_)
  obtain ⟨v, hv8, sc', ar', hM, hR2, hG⟩ := h8
  cases hv8
  have hB2 := LB_M hB1 hM
  obtain ⟨e1, e2⟩ := hAG _ _ hG
  refine V_istore d_L_law_468 rfl ?_
  first | refine V_aload_n d_L_law_470 rfl rfl ?_ | refine V_aloadN_n d_L_law_470 rfl rfl ?_
  refine VcallV cb_M_thrown mv_L_72 rfl (ci := 6) rfl rfl d_L_law_471 (c_M_thrown hg hM) ⟨by decide, by decide⟩ rfl hM.1 rfl (Nat.le_of_ble_eq_true rfl) (fun _ _ h => nomatch h.1) (fun v7 m7 h7 => ?_)
  obtain ⟨hv7, e7⟩ := h7
  cases hv7
  subst m7
  refine V_iload d_L_law_474 rfl ?_
  refine V_icmp_eq (tgt := 481) d_L_law_476 (by decide) (fun h_476 => ?_) (fun h_476 => ?_)
  · refine V_iload d_L_law_481 rfl ?_
    refine V_if_ne (tgt := 498) d_L_law_483 (by decide) (fun h_483 => ?_) (fun h_483 => ?_)
    · refine V_goto (tgt := 941) d_L_law_498 (by decide) ?_
      exact V_lo (lwo b (A 0) a ou (nI (5 * t))) ⟨rfl, rfl, rfl, rfl, rfl, trivial⟩ (k _ ⟨A, E', col', B, sc', ar', f', _, _, _, _, _, _, _, _, rfl, hB2, hR2⟩)
    · first | refine V_aload_n d_L_law_486 rfl rfl ?_ | refine V_aloadN_n d_L_law_486 rfl rfl ?_
      refine V_iconst (v := 0) d_L_law_487 (by decide) ?_
      refine Vlald d_L_law_488 hB2.2.2.1 hz ?_
      refine V_iload d_L_law_489 rfl ?_
      refine V_i2l d_L_law_491 ?_
      refine V_lcmp d_L_law_492 ?_
      refine V_if_eq (tgt := 498) d_L_law_493 (by decide) (fun h_493 => ?_) (fun h_493 => ?_)
      · refine V_goto (tgt := 941) d_L_law_498 (by decide) ?_
        exact V_lo (lwo b (A 0) a ou (nI (5 * t))) ⟨rfl, rfl, rfl, rfl, rfl, trivial⟩ (k _ ⟨A, E', col', B, sc', ar', f', _, _, _, _, _, _, _, _, rfl, hB2, hR2⟩)
      · exact absurd (lc_ne (e2 h_483).1) h_493
  · exact absurd e1 h_476
theorem l_hours (hg : GO g) (hX : va_X b K xs g.1 g.1.heap) (hbl : b < g.1.heap.size) (hK : K ≤ 2560) (hi : 5 * t + 5 ≤ K) (hI : LI g m x a ou) (k : ∀ m', LI g m' x a ou → V g m_L_law 9 182 bc bs 941 (lwo b x a ou (nI (5 * t))) [] m' Fi) : V g m_L_law 9 182 (bc + 506) (bs + 4566) 501 (lwo b x a ou (nI (5 * t))) [] m Fi := by
  obtain ⟨A, E, col, B, sc, ar, f, tx, lb, pr, n, day, len, ft, ed, hA, hB, hR⟩ := hI
  subst hA
  have j1 : vp_in (nI (5 * t) + 1) K := sc_in (c := 1) hK hi (by omega)
  have j2 : vp_in (nI (5 * t) + 2) K := sc_in (c := 2) hK hi (by omega)
  have hz : vp_in (0 : Int32) 1 := vp_nI (j := 0) (by omega) (by omega)
  first | refine V_aload_n d_L_law_501 rfl rfl ?_ | refine V_aloadN_n d_L_law_501 rfl rfl ?_
  first | refine V_aload_n d_L_law_502 rfl rfl ?_ | refine V_aloadN_n d_L_law_502 rfl rfl ?_
  refine V_iload d_L_law_503 rfl ?_
  refine V_iconst (v := 1) d_L_law_505 (by decide) ?_
  refine V_iadd d_L_law_506 ?_
  refine V_sld d_L_law_507 hX hbl (by assumption) ?_
  first | refine V_aload_n d_L_law_508 rfl rfl ?_ | refine V_aloadN_n d_L_law_508 rfl rfl ?_
  refine V_iload d_L_law_509 rfl ?_
  refine V_iconst (v := 2) d_L_law_511 (by decide) ?_
  refine V_iadd d_L_law_512 ?_
  refine V_sld d_L_law_513 hX hbl (by assumption) ?_
  first | refine V_aload_n d_L_law_514 rfl rfl ?_ | refine V_aloadN_n d_L_law_514 rfl rfl ?_
  refine V_bud (bc' := bc + 1) (bs' := bs + 6) (by omega) (by omega) ?_
  refine V_callW cb_L_hours ms_L_97 (by decide) rfl d_L_law_515 (c_L_hours hg (c_T_hours hg hB.1 _ _) hB.1.1.1 (hI_hours hB) (hE_of (io_hours _ _ _))) ⟨by decide, by decide⟩ rfl rfl (Nat.le_of_ble_eq_true rfl) (fun _ _ h => (Hq_x h).elim) (fun v9 m2 hH => ?_)
  obtain ⟨code, hv9⟩ := Hq_o hH
  subst hv9
  obtain ⟨E', col', f', hB1, hAG⟩ := LI_H hB hH
  refine V_istore d_L_law_518 rfl ?_
  first | refine V_aload_n d_L_law_520 rfl rfl ?_ | refine V_aloadN_n d_L_law_520 rfl rfl ?_
  first | refine V_aload_n d_L_law_521 rfl rfl ?_ | refine V_aloadN_n d_L_law_521 rfl rfl ?_
  refine V_iload d_L_law_522 rfl ?_
  refine V_iconst (v := 1) d_L_law_524 (by decide) ?_
  refine V_iadd d_L_law_525 ?_
  refine V_sld d_L_law_526 hX hbl (by assumption) ?_
  first | refine V_aload_n d_L_law_527 rfl rfl ?_ | refine V_aloadN_n d_L_law_527 rfl rfl ?_
  refine V_iload d_L_law_528 rfl ?_
  refine V_iconst (v := 2) d_L_law_530 (by decide) ?_
  refine V_iadd d_L_law_531 ?_
  refine V_sld d_L_law_532 hX hbl (by assumption) ?_
  refine VcallV cb_M_hours mv_L_99 rfl (ci := 6) rfl rfl d_L_law_533 (c_M_hours hg hB1.2.1 hR _ _) ⟨by decide, by decide⟩ rfl hB1.2.1.1 rfl (Nat.le_of_ble_eq_true rfl) (fun _ _ h => by obtain ⟨_, h, -⟩ := h; cases h) (fun v8 m3 h8 => ?_)
  obtain ⟨v, hv8, sc', ar', hM, hR2, hG⟩ := h8
  cases hv8
  have hB2 := LB_M hB1 hM
  obtain ⟨e1, e2⟩ := hAG _ _ hG
  refine V_istore d_L_law_536 rfl ?_
  first | refine V_aload_n d_L_law_538 rfl rfl ?_ | refine V_aloadN_n d_L_law_538 rfl rfl ?_
  refine VcallV cb_M_thrown mv_L_72 rfl (ci := 6) rfl rfl d_L_law_539 (c_M_thrown hg hM) ⟨by decide, by decide⟩ rfl hM.1 rfl (Nat.le_of_ble_eq_true rfl) (fun _ _ h => nomatch h.1) (fun v7 m7 h7 => ?_)
  obtain ⟨hv7, e7⟩ := h7
  cases hv7
  subst m7
  refine V_iload d_L_law_542 rfl ?_
  refine V_icmp_eq (tgt := 549) d_L_law_544 (by decide) (fun h_544 => ?_) (fun h_544 => ?_)
  · refine V_iload d_L_law_549 rfl ?_
    refine V_if_ne (tgt := 573) d_L_law_551 (by decide) (fun h_551 => ?_) (fun h_551 => ?_)
    · refine V_goto (tgt := 941) d_L_law_573 (by decide) ?_
      exact V_lo (lwo b (A 0) a ou (nI (5 * t))) ⟨rfl, rfl, rfl, rfl, rfl, trivial⟩ (k _ ⟨A, E', col', B, sc', ar', f', _, _, _, _, _, _, _, _, rfl, hB2, hR2⟩)
    · obtain ⟨b9, hb9⟩ := bi_hours (e2 h_551).2
      have hf := (e2 h_551).1
      first | refine V_aload_n d_L_law_554 rfl rfl ?_ | refine V_aloadN_n d_L_law_554 rfl rfl ?_
      refine V_iconst (v := 0) d_L_law_555 (by decide) ?_
      refine Vlald d_L_law_556 hB2.2.2.1 hz ?_
      refine V_iload d_L_law_557 rfl ?_
      refine V_if_eq (tgt := 566) d_L_law_559 (by decide) (fun h_559 => ?_) (fun h_559 => ?_)
      · refine V_lconst (v := 0) d_L_law_566 (by decide) ?_
        refine V_lcmp d_L_law_567 ?_
        refine V_if_eq (tgt := 573) d_L_law_568 (by decide) (fun h_568 => ?_) (fun h_568 => ?_)
        · refine V_goto (tgt := 941) d_L_law_573 (by decide) ?_
          exact V_lo (lwo b (A 0) a ou (nI (5 * t))) ⟨rfl, rfl, rfl, rfl, rfl, trivial⟩ (k _ ⟨A, E', col', B, sc', ar', f', _, _, _, _, _, _, _, _, rfl, hB2, hR2⟩)
        · exact absurd (lc_ne (hf.trans (by rw [h_559]; rfl))) h_568
      · have hv1 : v = 1 := by cases b9 with | false => exact absurd hb9 h_559 | true => exact hb9
        refine V_lconst (v := 1) d_L_law_562 (by decide) ?_
        refine V_goto (tgt := 567) d_L_law_563 (by decide) ?_
        refine V_lcmp d_L_law_567 ?_
        refine V_if_eq (tgt := 573) d_L_law_568 (by decide) (fun h_568 => ?_) (fun h_568 => ?_)
        · refine V_goto (tgt := 941) d_L_law_573 (by decide) ?_
          exact V_lo (lwo b (A 0) a ou (nI (5 * t))) ⟨rfl, rfl, rfl, rfl, rfl, trivial⟩ (k _ ⟨A, E', col', B, sc', ar', f', _, _, _, _, _, _, _, _, rfl, hB2, hR2⟩)
        · exact absurd (lc_ne (hf.trans (by rw [hv1]; rfl))) h_568
  · exact absurd e1 h_544
theorem l_label (hg : GO g) (hX : va_X b K xs g.1 g.1.heap) (hbl : b < g.1.heap.size) (hK : K ≤ 2560) (hi : 5 * t + 5 ≤ K) (hI : LI g m x a ou) (k : ∀ m', LI g m' x a ou → V g m_L_law 9 182 bc bs 941 (lwo b x a ou (nI (5 * t))) [] m' Fi) : V g m_L_law 9 182 (bc + 506) (bs + 4566) 576 (lwo b x a ou (nI (5 * t))) [] m Fi := by
  obtain ⟨A, E, col, B, sc, ar, f, tx, lb, pr, n, day, len, ft, ed, hA, hB, hR⟩ := hI
  subst hA
  have j1 : vp_in (nI (5 * t) + 1) K := sc_in (c := 1) hK hi (by omega)
  have j2 : vp_in (nI (5 * t) + 2) K := sc_in (c := 2) hK hi (by omega)
  have hz : vp_in (0 : Int32) 1 := vp_nI (j := 0) (by omega) (by omega)
  first | refine V_aload_n d_L_law_576 rfl rfl ?_ | refine V_aloadN_n d_L_law_576 rfl rfl ?_
  first | refine V_aload_n d_L_law_577 rfl rfl ?_ | refine V_aloadN_n d_L_law_577 rfl rfl ?_
  refine V_iload d_L_law_578 rfl ?_
  refine V_iconst (v := 1) d_L_law_580 (by decide) ?_
  refine V_iadd d_L_law_581 ?_
  refine V_sld d_L_law_582 hX hbl (by assumption) ?_
  first | refine V_aload_n d_L_law_583 rfl rfl ?_ | refine V_aloadN_n d_L_law_583 rfl rfl ?_
  refine V_iload d_L_law_584 rfl ?_
  refine V_iconst (v := 2) d_L_law_586 (by decide) ?_
  refine V_iadd d_L_law_587 ?_
  refine V_sld d_L_law_588 hX hbl (by assumption) ?_
  first | refine V_aload_n d_L_law_589 rfl rfl ?_ | refine V_aloadN_n d_L_law_589 rfl rfl ?_
  refine V_bud (bc' := bc + 1) (bs' := bs + 6) (by omega) (by omega) ?_
  refine V_callW cb_L_label ms_L_100 (by decide) rfl d_L_law_590 (c_L_label hg (c_T_label hg hB.1 _ _) hB.1.1.1 (hI_of (io_label _ _ _) hB) (hE_of (io_label _ _ _))) ⟨by decide, by decide⟩ rfl rfl (Nat.le_of_ble_eq_true rfl) (fun _ _ h => (Hq_x h).elim) (fun v9 m2 hH => ?_)
  obtain ⟨code, hv9⟩ := Hq_o hH
  subst hv9
  obtain ⟨E', col', f', hB1, hAG⟩ := LI_H hB hH
  refine V_istore d_L_law_593 rfl ?_
  first | refine V_aload_n d_L_law_595 rfl rfl ?_ | refine V_aloadN_n d_L_law_595 rfl rfl ?_
  first | refine V_aload_n d_L_law_596 rfl rfl ?_ | refine V_aloadN_n d_L_law_596 rfl rfl ?_
  refine V_iload d_L_law_597 rfl ?_
  refine V_iconst (v := 1) d_L_law_599 (by decide) ?_
  refine V_iadd d_L_law_600 ?_
  refine V_sld d_L_law_601 hX hbl (by assumption) ?_
  first | refine V_aload_n d_L_law_602 rfl rfl ?_ | refine V_aloadN_n d_L_law_602 rfl rfl ?_
  refine V_iload d_L_law_603 rfl ?_
  refine V_iconst (v := 2) d_L_law_605 (by decide) ?_
  refine V_iadd d_L_law_606 ?_
  refine V_sld d_L_law_607 hX hbl (by assumption) ?_
  refine VcallV cb_M_label mv_L_102 rfl (ci := 6) rfl rfl d_L_law_608 (c_M_label hg hB1.2.1 hR _ _) ⟨by decide, by decide⟩ rfl hB1.2.1.1 rfl (Nat.le_of_ble_eq_true rfl) (fun _ _ h => by obtain ⟨_, h, -⟩ := h; cases h) (fun v8 m3 h8 => ?_)
  obtain ⟨v, hv8, sc', ar', hM, hR2, hG⟩ := h8
  cases hv8
  have hB2 := LB_M hB1 hM
  obtain ⟨e1, e2⟩ := hAG _ _ hG
  refine V_istore d_L_law_611 rfl ?_
  first | refine V_aload_n d_L_law_613 rfl rfl ?_ | refine V_aloadN_n d_L_law_613 rfl rfl ?_
  refine VcallV cb_M_thrown mv_L_72 rfl (ci := 6) rfl rfl d_L_law_614 (c_M_thrown hg hM) ⟨by decide, by decide⟩ rfl hM.1 rfl (Nat.le_of_ble_eq_true rfl) (fun _ _ h => nomatch h.1) (fun v7 m7 h7 => ?_)
  obtain ⟨hv7, e7⟩ := h7
  cases hv7
  subst m7
  refine V_iload d_L_law_617 rfl ?_
  refine V_icmp_eq (tgt := 624) d_L_law_619 (by decide) (fun h_619 => ?_) (fun h_619 => ?_)
  · refine V_iload d_L_law_624 rfl ?_
    refine V_if_ne (tgt := 641) d_L_law_626 (by decide) (fun h_626 => ?_) (fun h_626 => ?_)
    · refine V_goto (tgt := 941) d_L_law_641 (by decide) ?_
      exact V_lo (lwo b (A 0) a ou (nI (5 * t))) ⟨rfl, rfl, rfl, rfl, rfl, trivial⟩ (k _ ⟨A, E', col', B, sc', ar', f', _, _, _, _, _, _, _, _, rfl, hB2, hR2⟩)
    · first | refine V_aload_n d_L_law_629 rfl rfl ?_ | refine V_aloadN_n d_L_law_629 rfl rfl ?_
      refine V_iconst (v := 0) d_L_law_630 (by decide) ?_
      refine Vlald d_L_law_631 hB2.2.2.1 hz ?_
      refine V_iload d_L_law_632 rfl ?_
      refine V_i2l d_L_law_634 ?_
      refine V_lcmp d_L_law_635 ?_
      refine V_if_eq (tgt := 641) d_L_law_636 (by decide) (fun h_636 => ?_) (fun h_636 => ?_)
      · refine V_goto (tgt := 941) d_L_law_641 (by decide) ?_
        exact V_lo (lwo b (A 0) a ou (nI (5 * t))) ⟨rfl, rfl, rfl, rfl, rfl, trivial⟩ (k _ ⟨A, E', col', B, sc', ar', f', _, _, _, _, _, _, _, _, rfl, hB2, hR2⟩)
      · exact absurd (lc_ne (e2 h_626).1) h_636
  · exact absurd e1 h_619
theorem l_print (hg : GO g) (hX : va_X b K xs g.1 g.1.heap) (hbl : b < g.1.heap.size) (hK : K ≤ 2560) (hi : 5 * t + 5 ≤ K) (hI : LI g m x a ou) (k : ∀ m', LI g m' x a ou → V g m_L_law 9 182 bc bs 941 (lwo b x a ou (nI (5 * t))) [] m' Fi) : V g m_L_law 9 182 (bc + 506) (bs + 4566) 644 (lwo b x a ou (nI (5 * t))) [] m Fi := by
  obtain ⟨A, E, col, B, sc, ar, f, tx, lb, pr, n, day, len, ft, ed, hA, hB, hR⟩ := hI
  subst hA
  have j1 : vp_in (nI (5 * t) + 1) K := sc_in (c := 1) hK hi (by omega)
  have j2 : vp_in (nI (5 * t) + 2) K := sc_in (c := 2) hK hi (by omega)
  have hz : vp_in (0 : Int32) 1 := vp_nI (j := 0) (by omega) (by omega)
  first | refine V_aload_n d_L_law_644 rfl rfl ?_ | refine V_aloadN_n d_L_law_644 rfl rfl ?_
  first | refine V_aload_n d_L_law_645 rfl rfl ?_ | refine V_aloadN_n d_L_law_645 rfl rfl ?_
  refine V_iload d_L_law_646 rfl ?_
  refine V_iconst (v := 1) d_L_law_648 (by decide) ?_
  refine V_iadd d_L_law_649 ?_
  refine V_sld d_L_law_650 hX hbl (by assumption) ?_
  first | refine V_aload_n d_L_law_651 rfl rfl ?_ | refine V_aloadN_n d_L_law_651 rfl rfl ?_
  refine V_iload d_L_law_652 rfl ?_
  refine V_iconst (v := 2) d_L_law_654 (by decide) ?_
  refine V_iadd d_L_law_655 ?_
  refine V_sld d_L_law_656 hX hbl (by assumption) ?_
  first | refine V_aload_n d_L_law_657 rfl rfl ?_ | refine V_aloadN_n d_L_law_657 rfl rfl ?_
  refine V_bud (bc' := bc + 1) (bs' := bs + 6) (by omega) (by omega) ?_
  refine V_callW cb_L_print ms_L_103 (by decide) rfl d_L_law_658 (c_L_print hg (c_T_print hg hB.1 _ _) hB.1.1.1 (hI_of (io_print _ _) hB) (hE_of (io_print _ _))) ⟨by decide, by decide⟩ rfl rfl (Nat.le_of_ble_eq_true rfl) (fun _ _ h => (Hq_x h).elim) (fun v9 m2 hH => ?_)
  obtain ⟨code, hv9⟩ := Hq_o hH
  subst hv9
  obtain ⟨E', col', f', hB1, hAG⟩ := LI_H hB hH
  refine V_istore d_L_law_661 rfl ?_
  first | refine V_aload_n d_L_law_663 rfl rfl ?_ | refine V_aloadN_n d_L_law_663 rfl rfl ?_
  first | refine V_aload_n d_L_law_664 rfl rfl ?_ | refine V_aloadN_n d_L_law_664 rfl rfl ?_
  refine V_iload d_L_law_665 rfl ?_
  refine V_iconst (v := 1) d_L_law_667 (by decide) ?_
  refine V_iadd d_L_law_668 ?_
  refine V_sld d_L_law_669 hX hbl (by assumption) ?_
  first | refine V_aload_n d_L_law_670 rfl rfl ?_ | refine V_aloadN_n d_L_law_670 rfl rfl ?_
  refine V_iload d_L_law_671 rfl ?_
  refine V_iconst (v := 2) d_L_law_673 (by decide) ?_
  refine V_iadd d_L_law_674 ?_
  refine V_sld d_L_law_675 hX hbl (by assumption) ?_
  refine VcallV cb_M_print mv_L_105 rfl (ci := 6) rfl rfl d_L_law_676 (c_M_print hg hB1.2.1 hR _ _) ⟨by decide, by decide⟩ rfl hB1.2.1.1 rfl (Nat.le_of_ble_eq_true rfl) (fun _ _ h => by obtain ⟨_, h, -⟩ := h; cases h) (fun v8 m3 h8 => ?_)
  obtain ⟨v, hv8, sc', ar', hM, hR2, hG⟩ := h8
  cases hv8
  have hB2 := LB_M hB1 hM
  obtain ⟨e1, e2⟩ := hAG _ _ hG
  refine V_istore d_L_law_679 rfl ?_
  first | refine V_aload_n d_L_law_681 rfl rfl ?_ | refine V_aloadN_n d_L_law_681 rfl rfl ?_
  refine VcallV cb_M_thrown mv_L_72 rfl (ci := 6) rfl rfl d_L_law_682 (c_M_thrown hg hM) ⟨by decide, by decide⟩ rfl hM.1 rfl (Nat.le_of_ble_eq_true rfl) (fun _ _ h => nomatch h.1) (fun v7 m7 h7 => ?_)
  obtain ⟨hv7, e7⟩ := h7
  cases hv7
  subst m7
  refine V_iload d_L_law_685 rfl ?_
  refine V_icmp_eq (tgt := 692) d_L_law_687 (by decide) (fun h_687 => ?_) (fun h_687 => ?_)
  · refine V_iload d_L_law_692 rfl ?_
    refine V_if_ne (tgt := 709) d_L_law_694 (by decide) (fun h_694 => ?_) (fun h_694 => ?_)
    · refine V_goto (tgt := 941) d_L_law_709 (by decide) ?_
      exact V_lo (lwo b (A 0) a ou (nI (5 * t))) ⟨rfl, rfl, rfl, rfl, rfl, trivial⟩ (k _ ⟨A, E', col', B, sc', ar', f', _, _, _, _, _, _, _, _, rfl, hB2, hR2⟩)
    · first | refine V_aload_n d_L_law_697 rfl rfl ?_ | refine V_aloadN_n d_L_law_697 rfl rfl ?_
      refine V_iconst (v := 0) d_L_law_698 (by decide) ?_
      refine Vlald d_L_law_699 hB2.2.2.1 hz ?_
      refine V_iload d_L_law_700 rfl ?_
      refine V_i2l d_L_law_702 ?_
      refine V_lcmp d_L_law_703 ?_
      refine V_if_eq (tgt := 709) d_L_law_704 (by decide) (fun h_704 => ?_) (fun h_704 => ?_)
      · refine V_goto (tgt := 941) d_L_law_709 (by decide) ?_
        exact V_lo (lwo b (A 0) a ou (nI (5 * t))) ⟨rfl, rfl, rfl, rfl, rfl, trivial⟩ (k _ ⟨A, E', col', B, sc', ar', f', _, _, _, _, _, _, _, _, rfl, hB2, hR2⟩)
      · exact absurd (lc_ne (e2 h_694).1) h_704
  · exact absurd e1 h_687
theorem l_out (hg : GO g) (hX : va_X b K xs g.1 g.1.heap) (hbl : b < g.1.heap.size) (hK : K ≤ 2560) (hi : 5 * t + 5 ≤ K) (hI : LI g m x a ou) (k : ∀ m', LI g m' x a ou → V g m_L_law 9 182 bc bs 941 (lwo b x a ou (nI (5 * t))) [] m' Fi) : V g m_L_law 9 182 (bc + 506) (bs + 4566) 712 (lwo b x a ou (nI (5 * t))) [] m Fi := by
  obtain ⟨A, E, col, B, sc, ar, f, tx, lb, pr, n, day, len, ft, ed, hA, hB, hR⟩ := hI
  subst hA
  have j1 : vp_in (nI (5 * t) + 1) K := sc_in (c := 1) hK hi (by omega)
  have hz : vp_in (0 : Int32) 1 := vp_nI (j := 0) (by omega) (by omega)
  first | refine V_aload_n d_L_law_712 rfl rfl ?_ | refine V_aloadN_n d_L_law_712 rfl rfl ?_
  first | refine V_aload_n d_L_law_713 rfl rfl ?_ | refine V_aloadN_n d_L_law_713 rfl rfl ?_
  refine V_iload d_L_law_714 rfl ?_
  refine V_iconst (v := 1) d_L_law_716 (by decide) ?_
  refine V_iadd d_L_law_717 ?_
  refine V_sld d_L_law_718 hX hbl (by assumption) ?_
  first | refine V_aload_n d_L_law_719 rfl rfl ?_ | refine V_aloadN_n d_L_law_719 rfl rfl ?_
  refine V_bud (bc' := bc + 1) (bs' := bs + 6) (by omega) (by omega) ?_
  refine V_callW cb_L_out ms_L_106 (by decide) rfl d_L_law_720 (c_L_out hg (c_T_out hg hB.1 _) hB.1.1.1 (hI_of (io_out _) hB) (hE_of (io_out _))) ⟨by decide, by decide⟩ rfl rfl (Nat.le_of_ble_eq_true rfl) (fun _ _ h => (Hq_x h).elim) (fun v9 m2 hH => ?_)
  obtain ⟨code, hv9⟩ := Hq_o hH
  subst hv9
  obtain ⟨E', col', f', hB1, hAG⟩ := LI_H hB hH
  refine V_istore d_L_law_723 rfl ?_
  first | refine V_aload_n d_L_law_725 rfl rfl ?_ | refine V_aloadN_n d_L_law_725 rfl rfl ?_
  first | refine V_aload_n d_L_law_726 rfl rfl ?_ | refine V_aloadN_n d_L_law_726 rfl rfl ?_
  refine V_iload d_L_law_727 rfl ?_
  refine V_iconst (v := 1) d_L_law_729 (by decide) ?_
  refine V_iadd d_L_law_730 ?_
  refine V_sld d_L_law_731 hX hbl (by assumption) ?_
  refine VcallV cb_M_out mv_L_108 rfl (ci := 6) rfl rfl d_L_law_732 (c_M_out hg hB1.2.1 hR _) ⟨by decide, by decide⟩ rfl hB1.2.1.1 rfl (Nat.le_of_ble_eq_true rfl) (fun _ _ h => by obtain ⟨_, h, -⟩ := h; cases h) (fun v8 m3 h8 => ?_)
  obtain ⟨v, hv8, sc', ar', hM, hR2, hG⟩ := h8
  cases hv8
  have hB2 := LB_M hB1 hM
  obtain ⟨e1, e2⟩ := hAG _ _ hG
  refine V_istore d_L_law_735 rfl ?_
  first | refine V_aload_n d_L_law_737 rfl rfl ?_ | refine V_aloadN_n d_L_law_737 rfl rfl ?_
  refine VcallV cb_M_thrown mv_L_72 rfl (ci := 6) rfl rfl d_L_law_738 (c_M_thrown hg hM) ⟨by decide, by decide⟩ rfl hM.1 rfl (Nat.le_of_ble_eq_true rfl) (fun _ _ h => nomatch h.1) (fun v7 m7 h7 => ?_)
  obtain ⟨hv7, e7⟩ := h7
  cases hv7
  subst m7
  refine V_iload d_L_law_741 rfl ?_
  refine V_icmp_eq (tgt := 748) d_L_law_743 (by decide) (fun h_743 => ?_) (fun h_743 => ?_)
  · refine V_iload d_L_law_748 rfl ?_
    refine V_if_ne (tgt := 765) d_L_law_750 (by decide) (fun h_750 => ?_) (fun h_750 => ?_)
    · refine V_goto (tgt := 941) d_L_law_765 (by decide) ?_
      exact V_lo (lwo b (A 0) a ou (nI (5 * t))) ⟨rfl, rfl, rfl, rfl, rfl, trivial⟩ (k _ ⟨A, E', col', B, sc', ar', f', _, _, _, _, _, _, _, _, rfl, hB2, hR2⟩)
    · first | refine V_aload_n d_L_law_753 rfl rfl ?_ | refine V_aloadN_n d_L_law_753 rfl rfl ?_
      refine V_iconst (v := 0) d_L_law_754 (by decide) ?_
      refine Vlald d_L_law_755 hB2.2.2.1 hz ?_
      refine V_iload d_L_law_756 rfl ?_
      refine V_i2l d_L_law_758 ?_
      refine V_lcmp d_L_law_759 ?_
      refine V_if_eq (tgt := 765) d_L_law_760 (by decide) (fun h_760 => ?_) (fun h_760 => ?_)
      · refine V_goto (tgt := 941) d_L_law_765 (by decide) ?_
        exact V_lo (lwo b (A 0) a ou (nI (5 * t))) ⟨rfl, rfl, rfl, rfl, rfl, trivial⟩ (k _ ⟨A, E', col', B, sc', ar', f', _, _, _, _, _, _, _, _, rfl, hB2, hR2⟩)
      · exact absurd (lc_ne (e2 h_750).1) h_760
  · exact absurd e1 h_743
theorem l_number (hg : GO g) (hX : va_X b K xs g.1 g.1.heap) (hbl : b < g.1.heap.size) (hK : K ≤ 2560) (hi : 5 * t + 5 ≤ K) (hI : LI g m x a ou) (k : ∀ m', LI g m' x a ou → V g m_L_law 9 182 bc bs 941 (lwo b x a ou (nI (5 * t))) [] m' Fi) : V g m_L_law 9 182 (bc + 506) (bs + 4566) 768 (lwo b x a ou (nI (5 * t))) [] m Fi := by
  obtain ⟨A, E, col, B, sc, ar, f, tx, lb, pr, n, day, len, ft, ed, hA, hB, hR⟩ := hI
  subst hA
  have j1 : vp_in (nI (5 * t) + 1) K := sc_in (c := 1) hK hi (by omega)
  first | refine V_aload_n d_L_law_768 rfl rfl ?_ | refine V_aloadN_n d_L_law_768 rfl rfl ?_
  first | refine V_aload_n d_L_law_769 rfl rfl ?_ | refine V_aloadN_n d_L_law_769 rfl rfl ?_
  refine V_iload d_L_law_770 rfl ?_
  refine V_iconst (v := 1) d_L_law_772 (by decide) ?_
  refine V_iadd d_L_law_773 ?_
  refine V_sld d_L_law_774 hX hbl (by assumption) ?_
  refine V_bud (bc' := bc + 1) (bs' := bs + 6) (by omega) (by omega) ?_
  refine V_callW cb_L_number ms_L_109 (by decide) rfl d_L_law_775 (c_L_number hg (c_T_number hg hB.1 _) hB.1.1.1 (vI_of (io_number _)) (vE_of (io_number _))) ⟨by decide, by decide⟩ rfl rfl (Nat.le_of_ble_eq_true rfl) (fun _ _ h => (Hv_x h).elim) (fun v9 m2 hH => ?_)
  obtain ⟨code, hv9⟩ := Hv_o hH
  subst hv9
  obtain ⟨E', col', hB1, hAG⟩ := LI_V hB hH
  refine V_istore d_L_law_778 rfl ?_
  first | refine V_aload_n d_L_law_780 rfl rfl ?_ | refine V_aloadN_n d_L_law_780 rfl rfl ?_
  first | refine V_aload_n d_L_law_781 rfl rfl ?_ | refine V_aloadN_n d_L_law_781 rfl rfl ?_
  refine V_iload d_L_law_782 rfl ?_
  refine V_iconst (v := 1) d_L_law_784 (by decide) ?_
  refine V_iadd d_L_law_785 ?_
  refine V_sld d_L_law_786 hX hbl (by assumption) ?_
  refine VcallV cb_M_number mv_L_111 rfl (ci := 6) rfl rfl d_L_law_787 (c_M_number hg hB1.2.1 hR _) ⟨by decide, by decide⟩ rfl hB1.2.1.1 rfl (Nat.le_of_ble_eq_true rfl) (fun _ _ h => nomatch h.1) (fun v8 m3 h8 => ?_)
  obtain ⟨hv8, sc', ar', hM, hR2, hG⟩ := h8
  cases hv8
  have hB2 := LB_M hB1 hM
  have e1 := hAG _ hG
  first | refine V_aload_n d_L_law_790 rfl rfl ?_ | refine V_aloadN_n d_L_law_790 rfl rfl ?_
  refine VcallV cb_M_thrown mv_L_72 rfl (ci := 6) rfl rfl d_L_law_791 (c_M_thrown hg hM) ⟨by decide, by decide⟩ rfl hM.1 rfl (Nat.le_of_ble_eq_true rfl) (fun _ _ h => nomatch h.1) (fun v7 m7 h7 => ?_)
  obtain ⟨hv7, e7⟩ := h7
  cases hv7
  subst m7
  refine V_iload d_L_law_794 rfl ?_
  refine V_icmp_eq (tgt := 801) d_L_law_796 (by decide) (fun h_796 => ?_) (fun h_796 => ?_)
  · refine V_goto (tgt := 941) d_L_law_801 (by decide) ?_
    exact V_lo (lwo b (A 0) a ou (nI (5 * t))) ⟨rfl, rfl, rfl, rfl, rfl, trivial⟩ (k _ ⟨A, E', col', B, sc', ar', f, _, _, _, _, _, _, _, _, rfl, hB2, hR2⟩)
  · exact absurd e1 h_796
theorem l_track (hg : GO g) (hX : va_X b K xs g.1 g.1.heap) (hbl : b < g.1.heap.size) (hK : K ≤ 2560) (hi : 5 * t + 5 ≤ K) (hI : LI g m x a ou) (k : ∀ m', LI g m' x a ou → V g m_L_law 9 182 bc bs 941 (lwo b x a ou (nI (5 * t))) [] m' Fi) : V g m_L_law 9 182 (bc + 506) (bs + 4566) 804 (lwo b x a ou (nI (5 * t))) [] m Fi := by
  obtain ⟨A, E, col, B, sc, ar, f, tx, lb, pr, n, day, len, ft, ed, hA, hB, hR⟩ := hI
  subst hA
  have hz : vp_in (0 : Int32) 1 := vp_nI (j := 0) (by omega) (by omega)
  first | refine V_aload_n d_L_law_804 rfl rfl ?_ | refine V_aloadN_n d_L_law_804 rfl rfl ?_
  first | refine V_aload_n d_L_law_805 rfl rfl ?_ | refine V_aloadN_n d_L_law_805 rfl rfl ?_
  refine V_bud (bc' := bc + 1) (bs' := bs + 6) (by omega) (by omega) ?_
  refine V_callW cb_L_track ms_L_112 (by decide) rfl d_L_law_806 (c_L_track hg (c_T_track hg hB.1) hB.1.1.1 (hI_of (io_track _) hB) (hE_of (io_track _))) ⟨by decide, by decide⟩ rfl rfl (Nat.le_of_ble_eq_true rfl) (fun _ _ h => (Hq_x h).elim) (fun v9 m2 hH => ?_)
  obtain ⟨code, hv9⟩ := Hq_o hH
  subst hv9
  obtain ⟨E', col', f', hB1, hAG⟩ := LI_H hB hH
  refine V_istore d_L_law_809 rfl ?_
  first | refine V_aload_n d_L_law_811 rfl rfl ?_ | refine V_aloadN_n d_L_law_811 rfl rfl ?_
  refine VcallV cb_M_track mv_L_115 rfl (ci := 6) rfl rfl d_L_law_812 (c_M_track hg hB1.2.1 hR) ⟨by decide, by decide⟩ rfl hB1.2.1.1 rfl (Nat.le_of_ble_eq_true rfl) (fun _ _ h => by obtain ⟨_, h, -⟩ := h; cases h) (fun v8 m3 h8 => ?_)
  obtain ⟨v, hv8, sc', ar', hM, hR2, hG⟩ := h8
  cases hv8
  have hB2 := LB_M hB1 hM
  obtain ⟨e1, e2⟩ := hAG _ _ hG
  refine V_istore d_L_law_815 rfl ?_
  first | refine V_aload_n d_L_law_817 rfl rfl ?_ | refine V_aloadN_n d_L_law_817 rfl rfl ?_
  refine VcallV cb_M_thrown mv_L_72 rfl (ci := 6) rfl rfl d_L_law_818 (c_M_thrown hg hM) ⟨by decide, by decide⟩ rfl hM.1 rfl (Nat.le_of_ble_eq_true rfl) (fun _ _ h => nomatch h.1) (fun v7 m7 h7 => ?_)
  obtain ⟨hv7, e7⟩ := h7
  cases hv7
  subst m7
  refine V_iload d_L_law_821 rfl ?_
  refine V_icmp_eq (tgt := 828) d_L_law_823 (by decide) (fun h_823 => ?_) (fun h_823 => ?_)
  · refine V_iload d_L_law_828 rfl ?_
    refine V_if_ne (tgt := 845) d_L_law_830 (by decide) (fun h_830 => ?_) (fun h_830 => ?_)
    · refine V_goto (tgt := 941) d_L_law_845 (by decide) ?_
      exact V_lo (lwo b (A 0) a ou (nI (5 * t))) ⟨rfl, rfl, rfl, rfl, rfl, trivial⟩ (k _ ⟨A, E', col', B, sc', ar', f', _, _, _, _, _, _, _, _, rfl, hB2, hR2⟩)
    · first | refine V_aload_n d_L_law_833 rfl rfl ?_ | refine V_aloadN_n d_L_law_833 rfl rfl ?_
      refine V_iconst (v := 0) d_L_law_834 (by decide) ?_
      refine Vlald d_L_law_835 hB2.2.2.1 hz ?_
      refine V_iload d_L_law_836 rfl ?_
      refine V_i2l d_L_law_838 ?_
      refine V_lcmp d_L_law_839 ?_
      refine V_if_eq (tgt := 845) d_L_law_840 (by decide) (fun h_840 => ?_) (fun h_840 => ?_)
      · refine V_goto (tgt := 941) d_L_law_845 (by decide) ?_
        exact V_lo (lwo b (A 0) a ou (nI (5 * t))) ⟨rfl, rfl, rfl, rfl, rfl, trivial⟩ (k _ ⟨A, E', col', B, sc', ar', f', _, _, _, _, _, _, _, _, rfl, hB2, hR2⟩)
      · exact absurd (lc_ne (e2 h_830).1) h_840
  · exact absurd e1 h_823
theorem l_told (hg : GO g) (hX : va_X b K xs g.1 g.1.heap) (hbl : b < g.1.heap.size) (hK : K ≤ 2560) (hi : 5 * t + 5 ≤ K) (hI : LI g m x a ou) (k : ∀ m', LI g m' x a ou → V g m_L_law 9 182 bc bs 941 (lwo b x a ou (nI (5 * t))) [] m' Fi) : V g m_L_law 9 182 (bc + 506) (bs + 4566) 848 (lwo b x a ou (nI (5 * t))) [] m Fi := by
  obtain ⟨A, E, col, B, sc, ar, f, tx, lb, pr, n, day, len, ft, ed, hA, hB, hR⟩ := hI
  subst hA
  have j1 : vp_in (nI (5 * t) + 1) K := sc_in (c := 1) hK hi (by omega)
  have j2 : vp_in (nI (5 * t) + 2) K := sc_in (c := 2) hK hi (by omega)
  have hz : vp_in (0 : Int32) 1 := vp_nI (j := 0) (by omega) (by omega)
  first | refine V_aload_n d_L_law_848 rfl rfl ?_ | refine V_aloadN_n d_L_law_848 rfl rfl ?_
  first | refine V_aload_n d_L_law_849 rfl rfl ?_ | refine V_aloadN_n d_L_law_849 rfl rfl ?_
  refine V_iload d_L_law_850 rfl ?_
  refine V_iconst (v := 1) d_L_law_852 (by decide) ?_
  refine V_iadd d_L_law_853 ?_
  refine V_sld d_L_law_854 hX hbl (by assumption) ?_
  first | refine V_aload_n d_L_law_855 rfl rfl ?_ | refine V_aloadN_n d_L_law_855 rfl rfl ?_
  refine V_iload d_L_law_856 rfl ?_
  refine V_iconst (v := 2) d_L_law_858 (by decide) ?_
  refine V_iadd d_L_law_859 ?_
  refine V_sld d_L_law_860 hX hbl (by assumption) ?_
  first | refine V_aload_n d_L_law_861 rfl rfl ?_ | refine V_aloadN_n d_L_law_861 rfl rfl ?_
  refine V_bud (bc' := bc + 1) (bs' := bs + 6) (by omega) (by omega) ?_
  refine V_callW cb_L_told ms_L_116 (by decide) rfl d_L_law_862 (c_L_told hg (c_T_told hg hB.1 _ _) hB.1.1.1 (hI_of (io_told _ _) hB) (hE_of (io_told _ _))) ⟨by decide, by decide⟩ rfl rfl (Nat.le_of_ble_eq_true rfl) (fun _ _ h => (Hq_x h).elim) (fun v9 m2 hH => ?_)
  obtain ⟨code, hv9⟩ := Hq_o hH
  subst hv9
  obtain ⟨E', col', f', hB1, hAG⟩ := LI_H hB hH
  refine V_istore d_L_law_865 rfl ?_
  first | refine V_aload_n d_L_law_867 rfl rfl ?_ | refine V_aloadN_n d_L_law_867 rfl rfl ?_
  first | refine V_aload_n d_L_law_868 rfl rfl ?_ | refine V_aloadN_n d_L_law_868 rfl rfl ?_
  refine V_iload d_L_law_869 rfl ?_
  refine V_iconst (v := 1) d_L_law_871 (by decide) ?_
  refine V_iadd d_L_law_872 ?_
  refine V_sld d_L_law_873 hX hbl (by assumption) ?_
  first | refine V_aload_n d_L_law_874 rfl rfl ?_ | refine V_aloadN_n d_L_law_874 rfl rfl ?_
  refine V_iload d_L_law_875 rfl ?_
  refine V_iconst (v := 2) d_L_law_877 (by decide) ?_
  refine V_iadd d_L_law_878 ?_
  refine V_sld d_L_law_879 hX hbl (by assumption) ?_
  refine VcallV cb_M_told mv_L_118 rfl (ci := 6) rfl rfl d_L_law_880 (c_M_told hg hB1.2.1 hR _ _) ⟨by decide, by decide⟩ rfl hB1.2.1.1 rfl (Nat.le_of_ble_eq_true rfl) (fun _ _ h => by obtain ⟨_, h, -⟩ := h; cases h) (fun v8 m3 h8 => ?_)
  obtain ⟨v, hv8, sc', ar', hM, hR2, hG⟩ := h8
  cases hv8
  have hB2 := LB_M hB1 hM
  obtain ⟨e1, e2⟩ := hAG _ _ hG
  refine V_istore d_L_law_883 rfl ?_
  first | refine V_aload_n d_L_law_885 rfl rfl ?_ | refine V_aloadN_n d_L_law_885 rfl rfl ?_
  refine VcallV cb_M_thrown mv_L_72 rfl (ci := 6) rfl rfl d_L_law_886 (c_M_thrown hg hM) ⟨by decide, by decide⟩ rfl hM.1 rfl (Nat.le_of_ble_eq_true rfl) (fun _ _ h => nomatch h.1) (fun v7 m7 h7 => ?_)
  obtain ⟨hv7, e7⟩ := h7
  cases hv7
  subst m7
  refine V_iload d_L_law_889 rfl ?_
  refine V_icmp_eq (tgt := 896) d_L_law_891 (by decide) (fun h_891 => ?_) (fun h_891 => ?_)
  · refine V_iload d_L_law_896 rfl ?_
    refine V_if_ne (tgt := 913) d_L_law_898 (by decide) (fun h_898 => ?_) (fun h_898 => ?_)
    · refine V_goto (tgt := 941) d_L_law_913 (by decide) ?_
      exact V_lo (lwo b (A 0) a ou (nI (5 * t))) ⟨rfl, rfl, rfl, rfl, rfl, trivial⟩ (k _ ⟨A, E', col', B, sc', ar', f', _, _, _, _, _, _, _, _, rfl, hB2, hR2⟩)
    · first | refine V_aload_n d_L_law_901 rfl rfl ?_ | refine V_aloadN_n d_L_law_901 rfl rfl ?_
      refine V_iconst (v := 0) d_L_law_902 (by decide) ?_
      refine Vlald d_L_law_903 hB2.2.2.1 hz ?_
      refine V_iload d_L_law_904 rfl ?_
      refine V_i2l d_L_law_906 ?_
      refine V_lcmp d_L_law_907 ?_
      refine V_if_eq (tgt := 913) d_L_law_908 (by decide) (fun h_908 => ?_) (fun h_908 => ?_)
      · refine V_goto (tgt := 941) d_L_law_913 (by decide) ?_
        exact V_lo (lwo b (A 0) a ou (nI (5 * t))) ⟨rfl, rfl, rfl, rfl, rfl, trivial⟩ (k _ ⟨A, E', col', B, sc', ar', f', _, _, _, _, _, _, _, _, rfl, hB2, hR2⟩)
      · exact absurd (lc_ne (e2 h_898).1) h_908
  · exact absurd e1 h_891
theorem l_count (hg : GO g) (hX : va_X b K xs g.1 g.1.heap) (hbl : b < g.1.heap.size) (hK : K ≤ 2560) (hi : 5 * t + 5 ≤ K) (hI : LI g m x a ou) (k : ∀ m', LI g m' x a ou → V g m_L_law 9 182 bc bs 941 (lwo b x a ou (nI (5 * t))) [] m' Fi) : V g m_L_law 9 182 (bc + 506) (bs + 4566) 916 (lwo b x a ou (nI (5 * t))) [] m Fi := by
  obtain ⟨A, E, col, B, sc, ar, f, tx, lb, pr, n, day, len, ft, ed, hA, hB, hR⟩ := hI
  subst hA
  have j1 : vp_in (nI (5 * t) + 1) K := sc_in (c := 1) hK hi (by omega)
  first | refine V_aload_n d_L_law_916 rfl rfl ?_ | refine V_aloadN_n d_L_law_916 rfl rfl ?_
  first | refine V_aload_n d_L_law_917 rfl rfl ?_ | refine V_aloadN_n d_L_law_917 rfl rfl ?_
  refine V_iload d_L_law_918 rfl ?_
  refine V_iconst (v := 1) d_L_law_920 (by decide) ?_
  refine V_iadd d_L_law_921 ?_
  refine V_sld d_L_law_922 hX hbl (by assumption) ?_
  refine V_bud (bc' := bc) (bs' := bs) (by omega) (by omega) ?_
  refine VcallV cb_T_count mv_L_119 rfl (ci := 5) rfl rfl d_L_law_923 (c_T_count hg hB.1 _) ⟨by decide, by decide⟩ rfl hB.1.1.1 rfl (Nat.le_of_ble_eq_true rfl) (fun _ _ h => nomatch h.1) (fun v9 m2 hP => ?_)
  obtain ⟨hv9, E', col', hB1⟩ := LB_T hB hP
  cases hv9
  first | refine V_aload_n d_L_law_926 rfl rfl ?_ | refine V_aloadN_n d_L_law_926 rfl rfl ?_
  first | refine V_aload_n d_L_law_927 rfl rfl ?_ | refine V_aloadN_n d_L_law_927 rfl rfl ?_
  refine V_iload d_L_law_928 rfl ?_
  refine V_iconst (v := 1) d_L_law_930 (by decide) ?_
  refine V_iadd d_L_law_931 ?_
  refine V_sld d_L_law_932 hX hbl (by assumption) ?_
  refine VcallV cb_M_count mv_L_122 rfl (ci := 6) rfl rfl d_L_law_933 (c_M_count hg hB1.2.1 hR _) ⟨by decide, by decide⟩ rfl hB1.2.1.1 rfl (Nat.le_of_ble_eq_true rfl) (fun _ _ h => by obtain ⟨_, h, -⟩ := h; cases h) (fun v8 m3 h8 => ?_)
  obtain ⟨v, hv8, sc', ar', hM, hR2, hG⟩ := h8
  cases hv8
  have hB2 := LB_M hB1 hM
  have e1 := hG.2
  refine V_icmp_eq (tgt := 941) d_L_law_936 (by decide) (fun h_936 => ?_) (fun h_936 => ?_)
  · exact V_lo (lwo b (A 0) a ou (nI (5 * t))) ⟨rfl, rfl, rfl, rfl, rfl, trivial⟩ (k _ ⟨A, E', col', B, sc', ar', f, _, _, _, _, _, _, _, _, rfl, hB2, hR2⟩)
  · exact absurd e1.symm h_936
end L3
