/-! the reference: track, fits -/
section M12
variable {g : GG} {m0 m : Mm} {a : Nat} {B : Nat → Nat} {sc : Fw} {ar : Ar} {tx lb pr : Sq} {n : Nat} {day : Int32} {len : Nat} {ft : Fw} {ed : Nat → Edd}
set_option maxRecDepth 20000 in
theorem l_M_track (hg : GO g) (hM : Md g m0 m a B sc ar) {f : Nat → Int32} (hf : ∀ j, j < 8 → ar 34 j = f j) {e : Int32} {Fi : Ou → Mm → Prop} : ∀ (k i : Nat) (b : Bool) (v : Int32) (x : List (Nat × Value)), i + k = 7 → chk [(0, .ref a), (1, .int e), (3, .int (bi b)), (4, .int v), (5, .int (nI i))] x → V g m_M_track 1 23 0 0 171 [(0, .ref a), (1, .int e), (3, .int (bi (b && adg f k i))), (4, .int (lcF f k i v))] [] m Fi → V g m_M_track 1 23 0 0 117 x [] m Fi := by
  intro k
  induction k with
  | zero =>
    intro i b v x hi hx hV
    refine V_lo _ hx ?_
    refine V_iload d_M_track_117 rfl ?_
    refine V_bipush (v := 7) d_M_track_119 (by decide) ?_
    refine V_icmp_ge (tgt := 171) d_M_track_121 (by decide) (fun h_121 => ?_) (fun h_121 => ?_)
    · rw [adg, Bool.and_true] at hV
      exact V_lo [(0, .ref a), (1, .int e), (3, .int (bi b)), (4, .int v)] ⟨rfl, rfl, rfl, rfl, trivial⟩ hV
    · exact absurd (nI_le (a := 7) (by omega) (by omega)) h_121
  | succ k ih =>
    intro i b v x hi hx hV
    have hin : vp_in (nI i) 20 := vp_nI (by omega) (by omega)
    rw [adg, lcF, ← Bool.and_assoc] at hV
    have nxt : ∀ (x : List (Nat × Value)), chk [(0, .ref a), (1, .int e), (4, .int v), (5, .int (nI i))] x → V g m_M_track 1 23 0 0 146 x [.int (bi (b && dg (f i)))] m Fi := by
      intro x hx
      refine V_lo _ hx ?_
      refine V_istore_n d_M_track_146 rfl rfl ?_
      refine V_bipush (v := 10) d_M_track_147 (by decide) ?_
      refine V_iload d_M_track_149 rfl ?_
      refine V_imul d_M_track_151 ?_
      rw [Int32.mul_comm]
      first | refine V_aload_n d_M_track_152 rfl rfl ?_ | refine V_aloadN_n d_M_track_152 rfl rfl ?_
      refine Vget fl_M_113 d_M_track_153 hM.1 rfl ?_
      refine V_iload d_M_track_156 rfl ?_
      refine Miald d_M_track_158 hM (by decide) (by exact hin) ?_
      rw [nI_clamp (by omega), hf i (by omega)]
      refine V_iadd d_M_track_159 ?_
      refine V_bipush (v := 48) d_M_track_160 (by decide) ?_
      refine V_isub d_M_track_162 ?_
      refine V_istore d_M_track_163 rfl ?_
      refine V_iinc d_M_track_165 rfl (nI_inc _) rfl ?_
      refine V_goto (tgt := 117) d_M_track_168 (by decide) ?_
      exact ih (i + 1) _ _ _ (by omega) ⟨rfl, rfl, rfl, rfl, rfl, trivial⟩ hV
    refine V_lo _ hx ?_
    refine V_iload d_M_track_117 rfl ?_
    refine V_bipush (v := 7) d_M_track_119 (by decide) ?_
    refine V_icmp_ge (tgt := 171) d_M_track_121 (by decide) (fun h_121 => ?_) (fun h_121 => ?_)
    · exact absurd h_121 (nI_ge (b := 7) (by omega) (by omega))
    · refine V_iload_n d_M_track_124 rfl rfl ?_
      refine V_if_eq (tgt := 145) d_M_track_125 (by decide) (fun h_125 => ?_) (fun h_125 => ?_)
      · have e1 : b = false := bi_eq0.mp h_125
        subst e1
        refine V_iconst (v := 0) d_M_track_145 (by decide) ?_
        exact nxt _ ⟨rfl, rfl, rfl, rfl, trivial⟩
      · have e1 : b = true := bi_ne0.mp h_125
        subst e1
        rw [Bool.true_and] at nxt
        first | refine V_aload_n d_M_track_128 rfl rfl ?_ | refine V_aloadN_n d_M_track_128 rfl rfl ?_
        refine Vget fl_M_113 d_M_track_129 hM.1 rfl ?_
        refine V_iload d_M_track_132 rfl ?_
        refine Miald d_M_track_134 hM (by decide) (by exact hin) ?_
        rw [nI_clamp (by omega), hf i (by omega)]
        refine V_callS cb_M_digit ms_M_124 rfl rfl d_M_track_135 (c_M_digit hg _) ⟨by decide, by decide⟩ rfl rfl (Nat.le_of_ble_eq_true rfl) (fun _ _ h => nomatch h.1) (fun v m2 hR => ?_)
        obtain ⟨hv9, e9⟩ := hR
        cases hv9
        subst m2
        refine V_if_eq (tgt := 145) d_M_track_138 (by decide) (fun h_138 => ?_) (fun h_138 => ?_)
        · have e2 : dg (f i) = false := bi_eq0.mp h_138
          rw [e2] at nxt
          refine V_iconst (v := 0) d_M_track_145 (by decide) ?_
          exact nxt _ ⟨rfl, rfl, rfl, rfl, trivial⟩
        · have e2 : dg (f i) = true := bi_ne0.mp h_138
          rw [e2] at nxt
          refine V_iconst (v := 1) d_M_track_141 (by decide) ?_
          refine V_goto (tgt := 146) d_M_track_142 (by decide) ?_
          exact nxt _ ⟨rfl, rfl, rfl, rfl, trivial⟩
theorem RM_lb0 {code : Int32} (hR : RM sc ar tx lb pr n day len ft ed) : RM (upd (upd sc 0 code) 33 0) ar tx (lb.1, 0) pr n day len ft ed := ⟨hR.1, ⟨rfl, Nat.zero_le _, fun j hj => absurd hj (Nat.not_lt_zero j)⟩, hR.2.2⟩
set_option maxRecDepth 20000 in
set_option maxHeartbeats 1000000 in
theorem c_M_track (hg : GO g) (hM : Md g m0 m a B sc ar) (hR : RM sc ar tx lb pr n day len ft ed) : CT g m_M_track 1 23 0 0 [.ref a] m (Pq g m0 a B [xIS] (trkO lb ed (acA ed n day)).1 tx (trkO lb ed (acA ed n day)).2 pr n day len ft ed) := by
  have hn4 := hR.2.2.2.1.2
  obtain ⟨q1, q2, q3⟩ := hR.2.1
  refine CT_go (lo := [(0, .ref a)]) rfl rfl rfl rfl hg ?_
  first | refine V_aload_n d_M_track_0 rfl rfl ?_ | refine V_aloadN_n d_M_track_0 rfl rfl ?_
  refine VcallV cb_M_acting mv_M_167 rfl (ci := 6) rfl rfl d_M_track_1 (c_M_acting hg hM hR) ⟨by decide, by decide⟩ rfl hM.1 rfl (Nat.le_of_ble_eq_true rfl) (fun _ _ h => nomatch h.1) (fun v m2 hR => ?_)
  obtain ⟨hv9, e9⟩ := hR
  cases hv9
  subst m2
  cases ha : acA ed n day with
  | none =>
    refine V_istore_n d_M_track_4 rfl rfl ?_
    first | refine V_aload_n d_M_track_5 rfl rfl ?_ | refine V_aloadN_n d_M_track_5 rfl rfl ?_
    refine V_iload_n d_M_track_6 rfl rfl ?_
    refine V_if_ge (tgt := 14) d_M_track_7 (by decide) (fun h_7 => ?_) (fun h_7 => ?_)
    · exact absurd h_7 (show ¬ (0 : Int32) ≤ -1 by decide)
    · refine V_iconst (v := 1) d_M_track_10 (by decide) ?_
      refine V_goto (tgt := 15) d_M_track_11 (by decide) ?_
      refine Mput (k := 0) pl_M_7 d_M_track_15 hM rfl rfl (fun m hM => ?_)
      first | refine V_aload_n d_M_track_18 rfl rfl ?_ | refine V_aloadN_n d_M_track_18 rfl rfl ?_
      refine Vget fl_M_7 d_M_track_19 hM.1 rfl ?_
      refine V_if_eq (tgt := 27) d_M_track_22 (by decide) (fun h_22 => ?_) (fun h_22 => ?_)
      · exact absurd h_22 (show ¬ (1 : Int32) = 0 by decide)
      · refine V_iconst (v := 0) d_M_track_25 (by decide) ?_
        exact V_iret d_M_track_26 rfl rfl ⟨_, rfl, _, _, hM, hR, (show AG [xIS] eIS 0 1 from ⟨by decide, by decide⟩)⟩
  | some i =>
    have hi := acA_lt ha
    have hE := hR.2.2.2.2.2.2 i hi
    have hp : (0 : Int32) ≤ nI i := i_nlt (nI_pos (by omega))
    rw [trkO]
    have hR2 := RM_lb0 (code := 0) hR
    refine V_istore_n d_M_track_4 rfl rfl ?_
    first | refine V_aload_n d_M_track_5 rfl rfl ?_ | refine V_aloadN_n d_M_track_5 rfl rfl ?_
    refine V_iload_n d_M_track_6 rfl rfl ?_
    refine V_if_ge (tgt := 14) d_M_track_7 (by decide) (fun h_7 => ?_) (fun h_7 => ?_)
    · refine V_iconst (v := 0) d_M_track_14 (by decide) ?_
      refine Mput (k := 0) pl_M_7 d_M_track_15 hM rfl rfl (fun m hM => ?_)
      first | refine V_aload_n d_M_track_18 rfl rfl ?_ | refine V_aloadN_n d_M_track_18 rfl rfl ?_
      refine Vget fl_M_7 d_M_track_19 hM.1 rfl ?_
      refine V_if_eq (tgt := 27) d_M_track_22 (by decide) (fun h_22 => ?_) (fun h_22 => ?_)
      · first | refine V_aload_n d_M_track_27 rfl rfl ?_ | refine V_aloadN_n d_M_track_27 rfl rfl ?_
        refine Vget fl_M_110 d_M_track_28 hM.1 rfl ?_
        refine V_istore_n d_M_track_31 rfl rfl ?_
        first | refine V_aload_n d_M_track_32 rfl rfl ?_ | refine V_aloadN_n d_M_track_32 rfl rfl ?_
        refine V_iconst (v := 0) d_M_track_33 (by decide) ?_
        refine Mput (k := 33) pl_M_110 d_M_track_34 hM rfl rfl (fun m hM => ?_)
        refine V_lo [(0, .ref a), (1, .int (nI i)), (2, .int (nI lb.2))] ⟨rfl, rfl, by rw [← q1]; rfl, trivial⟩ ?_
        unfold lvF
        refine V_iload_n d_M_track_37 rfl rfl ?_
        refine V_bipush (v := 8) d_M_track_38 (by decide) ?_
        refine V_icmp_eq (tgt := 45) d_M_track_40 (by decide) (fun h_40 => ?_) (fun h_40 => ?_)
        · have e8 : lb.2 = 8 := nI_ij (b := 8) (by omega) (by omega) h_40
          rw [if_neg (fun z => z e8)]
          have hf : ∀ j, j < 8 → ar 34 j = sF lb j := fun j hj => by
            rw [sF_at (by omega) (by omega)]
            exact q3 j (by omega)
          have i0 : vp_in (0 : Int32) 20 := vp_nI (j := 0) (by omega) (by omega)
          have i1 : vp_in (1 : Int32) 20 := vp_nI (j := 1) (by omega) (by omega)
          have i2 : vp_in (2 : Int32) 20 := vp_nI (j := 2) (by omega) (by omega)
          have i7 : vp_in (7 : Int32) 20 := vp_nI (j := 7) (by omega) (by omega)
          have c0 : (0 : Int32).toNatClampNeg = 0 := rfl
          have c1 : (1 : Int32).toNatClampNeg = 1 := rfl
          have c2' : (2 : Int32).toNatClampNeg = 2 := rfl
          have c7 : (7 : Int32).toNatClampNeg = 7 := rfl
          -- behind the form's first half
          have key : ∀ (b : Bool) (x : List (Nat × Value)), b = (wi (sF lb 0) 65 90 && (wi (sF lb 1) 49 57 && (decide (sF lb 2 = 45) && wi (sF lb 7) 65 90))) → chk [(0, .ref a), (1, .int (nI i))] x → V g m_M_track 1 23 0 0 110 x [.int (bi b)] m (Pq g m0 a B [xIS] (oI (if lfF (sF lb) = false then -2 else lvS (sF lb) (ed i) (fndF (ed i).2.1 (sF lb 0) (ed i).1 0)), (lb.1, 0)).1 tx (oI (if lfF (sF lb) = false then -2 else lvS (sF lb) (ed i) (fndF (ed i).2.1 (sF lb 0) (ed i).1 0)), (lb.1, 0)).2 pr n day len ft ed) := by
            intro b x hb hx
            refine V_lo _ hx ?_
            refine V_istore_n d_M_track_110 rfl rfl ?_
            refine V_iconst (v := 0) d_M_track_111 (by decide) ?_
            refine V_istore d_M_track_112 rfl ?_
            refine V_iconst (v := 3) d_M_track_114 (by decide) ?_
            refine V_istore d_M_track_115 rfl ?_
            refine l_M_track hg hM hf (e := nI i) 4 3 b 0 _ (by omega) ⟨rfl, rfl, rfl, rfl, rfl, trivial⟩ ?_
            have eform : (b && adg (sF lb) 4 3) = lfF (sF lb) := by
              rw [hb]
              unfold lfF
              rw [Bool.and_comm]
            rw [eform]
            refine V_iload_n d_M_track_171 rfl rfl ?_
            refine V_if_ne (tgt := 178) d_M_track_172 (by decide) (fun h_172 => ?_) (fun h_172 => ?_)
            · have e1 : lfF (sF lb) = true := bi_ne0.mp h_172
              rw [if_neg (by rw [e1]; decide)]
              have ewi : wi (sF lb 1) 49 57 = true := by
                unfold lfF at e1
                simp only [Bool.and_eq_true] at e1
                exact e1.2.2.1
              obtain ⟨u, eu, lu, uu⟩ := wi_ex (l := 49) (h := 57) (by omega) (by omega) ewi
              obtain ⟨k, rfl⟩ : ∃ k, u = k + 48 := ⟨u - 48, by omega⟩
              have ez : sF lb 1 - 48 = nI k := by rw [eu]; exact nI_subC k 48
              first | refine V_aload_n d_M_track_178 rfl rfl ?_ | refine V_aloadN_n d_M_track_178 rfl rfl ?_
              refine V_iload_n d_M_track_179 rfl rfl ?_
              first | refine V_aload_n d_M_track_180 rfl rfl ?_ | refine V_aloadN_n d_M_track_180 rfl rfl ?_
              refine Vget fl_M_113 d_M_track_181 hM.1 rfl ?_
              refine V_iconst (v := 0) d_M_track_184 (by decide) ?_
              refine Miald d_M_track_185 hM (by decide) (by exact i0) ?_
              rw [c0, hf 0 (by omega)]
              refine VcallV cb_M_find mv_M_170 rfl (ci := 6) rfl rfl d_M_track_186 (c_M_find hg hM (by omega) hE (sF lb 0)) ⟨by decide, by decide⟩ rfl hM.1 rfl (Nat.le_of_ble_eq_true rfl) (fun _ _ h => nomatch h.1) (fun v m2 hR => ?_)
              obtain ⟨hv9, e9⟩ := hR
              cases hv9
              subst m2
              cases hfd : fndF (ed i).2.1 (sF lb 0) (ed i).1 0 with
              | none =>
                refine V_istore d_M_track_189 rfl ?_
                refine V_iload d_M_track_191 rfl ?_
                refine V_if_ge (tgt := 199) d_M_track_193 (by decide) (fun h_193 => ?_) (fun h_193 => ?_)
                · exact absurd h_193 (show ¬ (0 : Int32) ≤ -1 by decide)
                · refine V_bipush (v := -3) d_M_track_196 (by decide) ?_
                  exact V_iret d_M_track_198 rfl rfl ⟨_, rfl, _, _, hM, hR2, rfl, rfl⟩
              | some j =>
                obtain ⟨-, hj, -⟩ := fndF_some hfd
                have h8 := hE.2.2.2.2.1
                obtain ⟨⟨r1, r2, -⟩, -⟩ := hE.2.2.2.2.2.2.1 j (by omega)
                have hin : vp_in (nI (8 * i + j)) 32 := vp_nI (by omega) (by omega)
                rw [lvS]
                refine V_istore (x := nI (8 * i + j)) d_M_track_189 rfl ?_
                refine V_iload d_M_track_191 rfl ?_
                refine V_if_ge (tgt := 199) d_M_track_193 (by decide) (fun h_193 => ?_) (fun h_193 => ?_)
                · first | refine V_aload_n d_M_track_199 rfl rfl ?_ | refine V_aloadN_n d_M_track_199 rfl rfl ?_
                  refine Vget fl_M_113 d_M_track_200 hM.1 rfl ?_
                  refine V_iconst (v := 1) d_M_track_203 (by decide) ?_
                  refine Miald d_M_track_204 hM (by decide) (by exact i1) ?_
                  rw [c1, hf 1 (by omega)]
                  refine V_bipush (v := 48) d_M_track_205 (by decide) ?_
                  refine V_isub d_M_track_207 ?_
                  rw [ez]
                  refine V_istore d_M_track_208 rfl ?_
                  first | refine V_aload_n d_M_track_210 rfl rfl ?_ | refine V_aloadN_n d_M_track_210 rfl rfl ?_
                  refine V_iload_n d_M_track_211 rfl rfl ?_
                  refine V_iload d_M_track_212 rfl ?_
                  refine VcallV cb_M_zoneBy mv_M_177 rfl (ci := 6) rfl rfl d_M_track_214 (c_M_zoneBy hg hM (by omega) hE (lcF (sF lb) 4 3 0)) ⟨by decide, by decide⟩ rfl hM.1 rfl (Nat.le_of_ble_eq_true rfl) (fun _ _ h => nomatch h.1) (fun v m2 hR => ?_)
                  obtain ⟨hv9, e9⟩ := hR
                  cases hv9
                  subst m2
                  have ezn : znF (ed i).2.2.2.1 (ed i).2.2.2.2.1 (ed i).2.2.2.2.2.1 (lcF (sF lb) 4 3 0) (min (ed i).2.2.1 8) 0 = zC (ed i) (lcF (sF lb) 4 3 0) := rfl
                  rw [ezn]
                  have bad : (¬ nI k = zC (ed i) (lcF (sF lb) 4 3 0) ∨ hasD ((ed i).2.1 j 1) (nI k) = false) → ∀ x', V g m_M_track 1 23 0 0 237 x' [] m (Pq g m0 a B [xIS] (oI (if ¬ nI k = zC (ed i) (lcF (sF lb) 4 3 0) ∨ hasD ((ed i).2.1 j 1) (nI k) = false then -4 else if sF lb 7 = ckL (sF lb) then 1 else -5), (lb.1, 0)).1 tx (oI (if ¬ nI k = zC (ed i) (lcF (sF lb) 4 3 0) ∨ hasD ((ed i).2.1 j 1) (nI k) = false then -4 else if sF lb 7 = ckL (sF lb) then 1 else -5), (lb.1, 0)).2 pr n day len ft ed) := by
                    intro hb x'
                    rw [if_pos hb]
                    refine V_bipush (v := -4) d_M_track_237 (by decide) ?_
                    exact V_iret d_M_track_239 rfl rfl ⟨_, rfl, _, _, hM, hR2, rfl, rfl⟩
                  refine V_iload d_M_track_217 rfl ?_
                  refine V_icmp_ne (tgt := 237) d_M_track_219 (by decide) (fun h_219 => ?_) (fun h_219 => ?_)
                  · exact bad (Or.inl (fun z => h_219 z.symm)) _
                  · first | refine V_aload_n d_M_track_222 rfl rfl ?_ | refine V_aloadN_n d_M_track_222 rfl rfl ?_
                    refine Vget fl_M_35 d_M_track_223 hM.1 rfl ?_
                    refine V_iload d_M_track_226 rfl ?_
                    refine Miald d_M_track_228 hM (by decide) (by exact hin) ?_
                    rw [nI_clamp (by omega), r2]
                    refine V_iload d_M_track_229 rfl ?_
                    refine V_ishr d_M_track_231 ?_
                    refine V_iconst (v := 1) d_M_track_232 (by decide) ?_
                    refine V_iand d_M_track_233 ?_
                    refine V_if_ne (tgt := 240) d_M_track_234 (by decide) (fun h_234 => ?_) (fun h_234 => ?_)
                    · have hb : hasD ((ed i).2.1 j 1) (nI k) = true := by
                        rw [hasD_bt (by omega) (by omega)]
                        cases hbt : bt ((ed i).2.1 j 1) k with
                        | true => rfl
                        | false => exact absurd ((bitZ (by omega)).mpr hbt) h_234
                      rw [if_neg (fun z => z.elim (fun q => q h_219.symm) (fun q => by rw [hb] at q; cases q))]
                      have hI : Ia g m (B 34) 20 (ar 34) := hM.2.1 34 (by decide)
                      first | refine V_aload_n d_M_track_240 rfl rfl ?_ | refine V_aloadN_n d_M_track_240 rfl rfl ?_
                      refine Vget fl_M_113 d_M_track_241 hM.1 rfl ?_
                      refine V_callS cb_M_check ms_M_180 rfl rfl d_M_track_244 (c_M_check hg hI (by omega) (by omega)) ⟨by decide, by decide⟩ rfl rfl (Nat.le_of_ble_eq_true rfl) (fun _ _ h => nomatch h.1) (fun v m2 hR => ?_)
                      obtain ⟨hv9, e9⟩ := hR
                      cases hv9
                      subst m2
                      rw [ckL_c (f := ar 34) (h := sF lb) (fun j hj => hf j (by omega))]
                      first | refine V_aload_n d_M_track_247 rfl rfl ?_ | refine V_aloadN_n d_M_track_247 rfl rfl ?_
                      refine Vget fl_M_113 d_M_track_248 hM.1 rfl ?_
                      refine V_bipush (v := 7) d_M_track_251 (by decide) ?_
                      refine Miald d_M_track_253 hM (by decide) (by exact i7) ?_
                      rw [c7, hf 7 (by omega)]
                      refine V_icmp_ne (tgt := 261) d_M_track_254 (by decide) (fun h_254 => ?_) (fun h_254 => ?_)
                      · refine V_bipush (v := -5) d_M_track_261 (by decide) ?_
                        rw [if_neg (fun z => h_254 z.symm)]
                        exact V_iret d_M_track_263 rfl rfl ⟨_, rfl, _, _, hM, hR2, rfl, rfl⟩
                      · refine V_iconst (v := 1) d_M_track_257 (by decide) ?_
                        refine V_goto (tgt := 263) d_M_track_258 (by decide) ?_
                        rw [if_pos h_254.symm]
                        exact V_iret d_M_track_263 rfl rfl ⟨_, rfl, _, _, hM, hR2, rfl, rfl⟩
                    · refine bad (Or.inr ?_) _
                      rw [hasD_bt (by omega) (by omega)]
                      exact (bitZ (by omega)).mp h_234
                · exact absurd (i_nlt (nI_pos (by omega))) h_193
            · have e1 : lfF (sF lb) = false := bi_eq0.mp h_172
              rw [if_pos e1]
              refine V_bipush (v := -2) d_M_track_175 (by decide) ?_
              exact V_iret d_M_track_177 rfl rfl ⟨_, rfl, _, _, hM, hR2, rfl, rfl⟩
          have no : (wi (sF lb 0) 65 90 && (wi (sF lb 1) 49 57 && (decide (sF lb 2 = 45) && wi (sF lb 7) 65 90))) = false → ∀ x, chk [(0, .ref a), (1, .int (nI i))] x → V g m_M_track 1 23 0 0 109 x [] m (Pq g m0 a B [xIS] (oI (if lfF (sF lb) = false then -2 else lvS (sF lb) (ed i) (fndF (ed i).2.1 (sF lb 0) (ed i).1 0)), (lb.1, 0)).1 tx (oI (if lfF (sF lb) = false then -2 else lvS (sF lb) (ed i) (fndF (ed i).2.1 (sF lb 0) (ed i).1 0)), (lb.1, 0)).2 pr n day len ft ed) := by
            intro hb x hx
            refine V_iconst (v := 0) d_M_track_109 (by decide) ?_
            exact key false _ hb.symm hx
          first | refine V_aload_n d_M_track_45 rfl rfl ?_ | refine V_aloadN_n d_M_track_45 rfl rfl ?_
          refine Vget fl_M_113 d_M_track_46 hM.1 rfl ?_
          refine V_iconst (v := 0) d_M_track_49 (by decide) ?_
          refine Miald d_M_track_50 hM (by decide) (by exact i0) ?_
          rw [c0, hf 0 (by omega)]
          refine V_bipush (v := 65) d_M_track_51 (by decide) ?_
          refine V_bipush (v := 90) d_M_track_53 (by decide) ?_
          refine V_callS cb_M_not ms_M_156 rfl rfl d_M_track_55 (c_M_not hg _ 65 90) ⟨by decide, by decide⟩ rfl rfl (Nat.le_of_ble_eq_true rfl) (fun _ _ h => nomatch h.1) (fun v m2 hR => ?_)
          obtain ⟨hv9, e9⟩ := hR
          cases hv9
          subst m2
          refine V_if_ne (tgt := 109) d_M_track_58 (by decide) (fun h_58 => ?_) (fun h_58 => ?_)
          · have w0 : wi (sF lb 0) 65 90 = false := by simpa using bi_ne0.mp h_58
            exact no (by rw [w0]; rfl) _ ⟨rfl, rfl, trivial⟩
          · have w0 : wi (sF lb 0) 65 90 = true := by simpa using bi_eq0.mp h_58
            first | refine V_aload_n d_M_track_61 rfl rfl ?_ | refine V_aloadN_n d_M_track_61 rfl rfl ?_
            refine Vget fl_M_113 d_M_track_62 hM.1 rfl ?_
            refine V_iconst (v := 1) d_M_track_65 (by decide) ?_
            refine Miald d_M_track_66 hM (by decide) (by exact i1) ?_
            rw [c1, hf 1 (by omega)]
            refine V_bipush (v := 49) d_M_track_67 (by decide) ?_
            refine V_bipush (v := 57) d_M_track_69 (by decide) ?_
            refine V_callS cb_M_not ms_M_156 rfl rfl d_M_track_71 (c_M_not hg _ 49 57) ⟨by decide, by decide⟩ rfl rfl (Nat.le_of_ble_eq_true rfl) (fun _ _ h => nomatch h.1) (fun v m2 hR => ?_)
            obtain ⟨hv9, e9⟩ := hR
            cases hv9
            subst m2
            refine V_if_ne (tgt := 109) d_M_track_74 (by decide) (fun h_74 => ?_) (fun h_74 => ?_)
            · have w1 : wi (sF lb 1) 49 57 = false := by simpa using bi_ne0.mp h_74
              exact no (by rw [w1, Bool.false_and, Bool.and_false]) _ ⟨rfl, rfl, trivial⟩
            · have w1 : wi (sF lb 1) 49 57 = true := by simpa using bi_eq0.mp h_74
              first | refine V_aload_n d_M_track_77 rfl rfl ?_ | refine V_aloadN_n d_M_track_77 rfl rfl ?_
              refine Vget fl_M_113 d_M_track_78 hM.1 rfl ?_
              refine V_iconst (v := 2) d_M_track_81 (by decide) ?_
              refine Miald d_M_track_82 hM (by decide) (by exact i2) ?_
              rw [c2', hf 2 (by omega)]
              refine V_bipush (v := 45) d_M_track_83 (by decide) ?_
              refine V_icmp_ne (tgt := 109) d_M_track_85 (by decide) (fun h_85 => ?_) (fun h_85 => ?_)
              · exact no (by rw [decide_eq_false h_85, Bool.false_and, Bool.and_false, Bool.and_false]) _ ⟨rfl, rfl, trivial⟩
              · first | refine V_aload_n d_M_track_88 rfl rfl ?_ | refine V_aloadN_n d_M_track_88 rfl rfl ?_
                refine Vget fl_M_113 d_M_track_89 hM.1 rfl ?_
                refine V_bipush (v := 7) d_M_track_92 (by decide) ?_
                refine Miald d_M_track_94 hM (by decide) (by exact i7) ?_
                rw [c7, hf 7 (by omega)]
                refine V_bipush (v := 65) d_M_track_95 (by decide) ?_
                refine V_bipush (v := 90) d_M_track_97 (by decide) ?_
                refine V_callS cb_M_not ms_M_156 rfl rfl d_M_track_99 (c_M_not hg _ 65 90) ⟨by decide, by decide⟩ rfl rfl (Nat.le_of_ble_eq_true rfl) (fun _ _ h => nomatch h.1) (fun v m2 hR => ?_)
                obtain ⟨hv9, e9⟩ := hR
                cases hv9
                subst m2
                refine V_if_ne (tgt := 109) d_M_track_102 (by decide) (fun h_102 => ?_) (fun h_102 => ?_)
                · have w7 : wi (sF lb 7) 65 90 = false := by simpa using bi_ne0.mp h_102
                  exact no (by rw [w7, Bool.and_false, Bool.and_false, Bool.and_false]) _ ⟨rfl, rfl, trivial⟩
                · have w7 : wi (sF lb 7) 65 90 = true := by simpa using bi_eq0.mp h_102
                  refine V_iconst (v := 1) d_M_track_105 (by decide) ?_
                  refine V_goto (tgt := 110) d_M_track_106 (by decide) ?_
                  exact key true _ (by rw [w0, w1, decide_eq_true h_85, w7]; rfl) ⟨rfl, rfl, trivial⟩
        · have e8 : ¬ lb.2 = 8 := fun z => h_40 (by rw [z]; rfl)
          rw [if_pos e8]
          refine V_iconst (v := -1) d_M_track_43 (by decide) ?_
          exact V_iret d_M_track_44 rfl rfl ⟨_, rfl, _, _, hM, hR2, rfl, rfl⟩
      · exact absurd rfl h_22
    · exact absurd hp h_7
end M12
