/-! the reference: fits -/
theorem insF_pr {c p : Int32} {n : Nat} {Q : Int32 → Int32 → Prop} : ∀ (i : Nat) (s : Fw × Fw), i ≤ n → (∀ q, q ≤ n → q ≠ i → Q (s.1 q) (s.2 q)) → Q c p → ∀ q, q ≤ n → Q ((insF c p i s).1 q) ((insF c p i s).2 q)
  | 0, s, _, h, hc, q, hq => by
    rw [insF]
    show Q (upd s.1 0 c q) (upd s.2 0 p q)
    unfold upd
    by_cases e : q = 0
    · rw [if_pos e, if_pos e]; exact hc
    · rw [if_neg e, if_neg e]; exact h q hq e
  | i + 1, s, hi, h, hc, q, hq => by
    rw [insF]
    split
    · show Q (upd s.1 (i + 1) c q) (upd s.2 (i + 1) p q)
      unfold upd
      by_cases e : q = i + 1
      · rw [if_pos e, if_pos e]; exact hc
      · rw [if_neg e, if_neg e]; exact h q hq e
    · refine insF_pr i _ (by omega) (fun r hr hne => ?_) hc q hq
      show Q (upd s.1 (i + 1) (s.1 i) r) (upd s.2 (i + 1) (s.2 i) r)
      unfold upd
      by_cases e : r = i + 1
      · rw [if_pos e, if_pos e]; exact h i (by omega) (by omega)
      · rw [if_neg e, if_neg e]; exact h r hr e
section M13
variable {g : GG} {m0 m : Mm} {a : Nat} {B : Nat → Nat} {sc : Fw} {ar : Ar} {tx lb pr : Sq} {n : Nat} {day : Int32} {len : Nat} {ft : Fw} {ed : Nat → Edd}
theorem REd_30 {i : Nat} {d : Edd} {F : Fw} (h : REd ar i d) : REd (stA ar 30 F) i d := h
theorem fnd_at {v : Nat → Fw} {c : Int32} : ∀ {k j t : Nat}, (∀ x y, x < j + k → y < j + k → v x 0 = v y 0 → x = y) → j ≤ t → t < j + k → v t 0 = c → fndF v c k j = some t
  | 0, j, t, _, h1, h2, _ => by omega
  | k + 1, j, t, hd, h1, h2, hv => by
    rw [fndF]
    by_cases e : v j 0 = c
    · rw [if_pos e]
      have := hd j t (by omega) (by omega) (e.trans hv.symm)
      rw [this]
    · rw [if_neg e]
      have hne : j ≠ t := fun z => e (by rw [z]; exact hv)
      exact fnd_at (fun x y hx hy => hd x y (by omega) (by omega)) (by omega) (by omega) hv
/-- each place's price is its letter's -/
def prQ (v : Nat → Fw) (w : Int32) (k : Nat) (x y : Int32) : Prop := ∃ t, t < k ∧ x = v t 0 ∧ y = prc (v t) w
abbrev flo (a : Nat) (w s z c : Int32) (e x i : Nat) : List (Nat × Value) := [(0, .ref a), (1, .int w), (2, .int s), (3, .int z), (4, .int c), (5, .int (nI e)), (6, .int (nI x)), (7, .int (nI i))]
set_option maxRecDepth 20000 in
set_option maxHeartbeats 1000000 in
theorem l_M_ins (hg : GO g) {e : Nat} {d : Edd} (he : e < 4) (hE : REd ar e d) {w s9 z c : Int32} {j : Nat} (hj : j < d.1) {Fi : Ou → Mm → Prop} {N : Nat} (hN : N < 8) : ∀ (i : Nat) (s : Fw × Fw) (F : Fw) (m : Mm) (x : List (Nat × Value)), i ≤ N → (∀ q, q ≤ N → q ≠ i → F q = s.1 q) → (∀ q, q < i → prQ d.2.1 w d.1 (s.1 q) (s.2 q)) → Md g m0 m a B sc (stA ar 30 F) → chk (flo a w s9 z c e (8 * e + j) i) x → (∀ (i' : Nat) (s' : Fw × Fw) (F' : Fw) (m' : Mm), i' ≤ i → insF (d.2.1 j 0) (prc (d.2.1 j) w) i s = (upd s'.1 i' (d.2.1 j 0), upd s'.2 i' (prc (d.2.1 j) w)) → (∀ q, q ≤ N → q ≠ i' → F' q = s'.1 q) → Md g m0 m' a B sc (stA ar 30 F') → V g m_M_fits 1 23 0 0 222 (flo a w s9 z c e (8 * e + j) i') [] m' Fi) → V g m_M_fits 1 23 0 0 165 x [] m Fi := by
  have h8 := hE.2.2.2.2.1
  obtain ⟨⟨r1, r2, r3, r4, r5, r6, r7, r8, r9⟩, -⟩ := hE.2.2.2.2.2.2.1 j hj
  have hd := hE.2.2.2.2.2.2.2.1
  intro i
  induction i with
  | zero =>
    intro s F m x hi hF hQ hM hx hK
    refine V_lo _ hx ?_
    refine V_iload d_M_fits_165 rfl ?_
    refine V_if_le (tgt := 222) d_M_fits_167 (by decide) (fun h_167 => ?_) (fun h_167 => ?_)
    · exact hK 0 s F m (Nat.le_refl _) rfl hF hM
    · exact absurd (show nI 0 ≤ 0 by decide) h_167
  | succ i ih =>
    intro s F m x hi hF hQ hM hx hK
    have i8 : vp_in (nI i) 8 := vp_nI (by omega) (by omega)
    have i8' : vp_in (nI (i + 1)) 8 := vp_nI (by omega) (by omega)
    obtain ⟨t, ht, et1, et2⟩ := hQ i (by omega)
    obtain ⟨⟨-, -, -, -, -, t6, t7, -⟩, -⟩ := hE.2.2.2.2.2.2.1 t ht
    have hFi : F i = d.2.1 t 0 := (hF i (by omega) (by omega)).trans et1
    have hfd : fndF d.2.1 (d.2.1 t 0) d.1 0 = some t := fnd_at (fun x y hx hy => hd x y (by omega) (by omega)) (Nat.zero_le _) (by omega) rfl
    have cf := c_M_find hg hM he (REd_30 hE) (d.2.1 t 0)
    rw [hfd] at cf
    refine V_lo _ hx ?_
    refine V_iload d_M_fits_165 rfl ?_
    refine V_if_le (tgt := 222) d_M_fits_167 (by decide) (fun h_167 => ?_) (fun h_167 => ?_)
    · exact absurd h_167 (nI_nle (by omega) (by omega))
    · first | refine V_aload_n d_M_fits_170 rfl rfl ?_ | refine V_aloadN_n d_M_fits_170 rfl rfl ?_
      first | refine V_aload_n d_M_fits_171 rfl rfl ?_ | refine V_aloadN_n d_M_fits_171 rfl rfl ?_
      refine V_iload d_M_fits_172 rfl ?_
      first | refine V_aload_n d_M_fits_174 rfl rfl ?_ | refine V_aloadN_n d_M_fits_174 rfl rfl ?_
      refine Vget fl_M_101 d_M_fits_175 hM.1 rfl ?_
      refine V_iload d_M_fits_178 rfl ?_
      refine V_iconst (v := 1) d_M_fits_180 (by decide) ?_
      refine V_isub d_M_fits_181 ?_
      rw [nI_sub1]
      refine Miald d_M_fits_182 hM (by decide) (by exact i8) ?_
      rw [nI_clamp (by omega), stA_s, hFi]
      refine VcallV cb_M_find mv_M_170 rfl (ci := 6) rfl rfl d_M_fits_183 cf ⟨by decide, by decide⟩ rfl hM.1 rfl (Nat.le_of_ble_eq_true rfl) (fun _ _ h => nomatch h.1) (fun v m2 hR => ?_)
      obtain ⟨hv9, e9⟩ := hR
      cases hv9
      subst m2
      refine ek_v (P := fun z => V g m_M_fits 1 23 0 0 _ _ z _ _) (show _ = [Value.int (nI (8 * e + t)), .ref a] from rfl) ?_
      refine V_iload_n d_M_fits_186 rfl rfl ?_
      refine VcallV cb_M_priceOf mv_M_174 rfl (ci := 6) rfl rfl d_M_fits_187 (c_M_priceOf hg hM (v := d.2.1 t) (by omega) t6 t7 w) ⟨by decide, by decide⟩ rfl hM.1 rfl (Nat.le_of_ble_eq_true rfl) (fun _ _ h => nomatch h.1) (fun v m2 hR => ?_)
      obtain ⟨hv9, e9⟩ := hR
      cases hv9
      subst m2
      first | refine V_aload_n d_M_fits_190 rfl rfl ?_ | refine V_aloadN_n d_M_fits_190 rfl rfl ?_
      refine V_iload d_M_fits_191 rfl ?_
      refine V_iload_n d_M_fits_193 rfl rfl ?_
      refine VcallV cb_M_priceOf mv_M_174 rfl (ci := 6) rfl rfl d_M_fits_194 (c_M_priceOf hg hM (v := d.2.1 j) (by omega) r6 r7 w) ⟨by decide, by decide⟩ rfl hM.1 rfl (Nat.le_of_ble_eq_true rfl) (fun _ _ h => nomatch h.1) (fun v m2 hR => ?_)
      obtain ⟨hv9, e9⟩ := hR
      cases hv9
      subst m2
      refine V_icmp_le (tgt := 222) d_M_fits_197 (by decide) (fun h_197 => ?_) (fun h_197 => ?_)
      · have hle' : s.2 i ≤ prc (d.2.1 j) w := by rw [et2]; exact h_197
        refine hK (i + 1) s F m (Nat.le_refl _) ?_ hF hM
        rw [insF, if_pos hle']
      · have hle' : ¬ s.2 i ≤ prc (d.2.1 j) w := by rw [et2]; exact h_197
        first | refine V_aload_n d_M_fits_200 rfl rfl ?_ | refine V_aloadN_n d_M_fits_200 rfl rfl ?_
        refine Vget fl_M_101 d_M_fits_201 hM.1 rfl ?_
        refine V_iload d_M_fits_204 rfl ?_
        first | refine V_aload_n d_M_fits_206 rfl rfl ?_ | refine V_aloadN_n d_M_fits_206 rfl rfl ?_
        refine Vget fl_M_101 d_M_fits_207 hM.1 rfl ?_
        refine V_iload d_M_fits_210 rfl ?_
        refine V_iconst (v := 1) d_M_fits_212 (by decide) ?_
        refine V_isub d_M_fits_213 ?_
        rw [nI_sub1]
        refine Miald d_M_fits_214 hM (by decide) (by exact i8) ?_
        refine Miast d_M_fits_215 hM (by decide) (by exact i8') (fun m hM => ?_)
        rw [nI_clamp (by omega), nI_clamp (by omega), stA_st, stA_s] at hM
        refine V_iinc d_M_fits_216 rfl (nI_dec _) rfl ?_
        refine V_goto (tgt := 165) d_M_fits_219 (by decide) ?_
        refine ih (upd s.1 (i + 1) (s.1 i), upd s.2 (i + 1) (s.2 i)) (upd F (i + 1) (F i)) m _ (by omega) (fun q hq hne => ?_) (fun q hq => ?_) hM ⟨rfl, rfl, rfl, rfl, rfl, rfl, rfl, rfl, trivial⟩ (fun i' s' F' m' h1 h2 h3 h4 => ?_)
        · show upd F (i + 1) (F i) q = upd s.1 (i + 1) (s.1 i) q
          unfold upd
          by_cases eq : q = i + 1
          · rw [if_pos eq, if_pos eq]
            exact hF i (by omega) (by omega)
          · rw [if_neg eq, if_neg eq]
            exact hF q hq eq
        · show prQ d.2.1 w d.1 (upd s.1 (i + 1) (s.1 i) q) (upd s.2 (i + 1) (s.2 i) q)
          unfold upd
          rw [if_neg (by omega), if_neg (by omega)]
          exact hQ q (by omega)
        · refine hK i' s' F' m' (by omega) ?_ h3 h4
          rw [insF, if_neg hle']
          exact h2
theorem tks_m {v : Fw} {w s : Int32} {z c : Nat} (hz1 : 1 ≤ z) (hz9 : z ≤ 9) (hc9 : c ≤ 9) : tks v w s (nI z) (nI c) = true ↔ (v 1 >>> (nI z &&& 31) &&& 1 = 1 ∧ (v 4 ||| 1) >>> (nI c &&& 31) &&& 1 = 1 ∧ ¬ v 2 < w ∧ ¬ v 3 < s) := by
  unfold tks
  rw [bitN (by omega), bitN (by omega), bitO (by omega), hasD_bt hz1 hz9]
  have hc : (decide (nI c = 0) || hasD (v 4) (nI c)) = (bt (v 4) c || decide (c = 0)) := by
    by_cases e : c = 0
    · subst e
      rw [decide_eq_true (show nI 0 = 0 from rfl), decide_eq_true rfl, Bool.true_or, Bool.or_true]
    · rw [decide_eq_false e, Bool.or_false, decide_eq_false (show ¬ nI c = 0 from fun q => e ((nI_eq (b := 0) (by omega) (by omega)).mp q)), Bool.false_or, hasD_bt (by omega) hc9]
  rw [hc]
  simp only [Bool.and_eq_true, Bool.not_eq_true', decide_eq_false_iff_not]
  constructor
  · rintro ⟨h1, h2, h3, h4⟩
    exact ⟨h3, h4, h1, h2⟩
  · rintro ⟨h3, h4, h1, h2⟩
    exact ⟨h1, h2, h3, h4⟩
set_option maxRecDepth 20000 in
set_option maxHeartbeats 1000000 in
theorem l_M_fits (hg : GO g) {e : Nat} {d : Edd} (he : e < 4) (hE : REd ar e d) {w s9 : Int32} {z c : Nat} (hz1 : 1 ≤ z) (hz9 : z ≤ 9) (hc9 : c ≤ 9) {Fi : Ou → Mm → Prop} : ∀ (k j : Nat) (st : Kst) (F : Fw) (m : Mm) (x : List (Nat × Value)), j + k = d.1 → st.1 ≤ j → (∀ q, q < st.1 → F q = st.2.1 q) → (∀ q, q < st.1 → prQ d.2.1 w d.1 (st.2.1 q) (st.2.2 q)) → Md g m0 m a B (upd sc 29 (nI st.1)) (stA ar 30 F) → chk [(0, .ref a), (1, .int w), (2, .int s9), (3, .int (nI z)), (4, .int (nI c)), (5, .int (nI e)), (6, .int (nI (8 * e + j)))] x → (∀ m' F', Md g m0 m' a B (upd sc 29 (nI (fitF d.2.1 w s9 (nI z) (nI c) k j st).1)) (stA ar 30 F') → (∀ q, q < (fitF d.2.1 w s9 (nI z) (nI c) k j st).1 → F' q = (fitF d.2.1 w s9 (nI z) (nI c) k j st).2.1 q) → Fi (oI (nI (fitF d.2.1 w s9 (nI z) (nI c) k j st).1)) m') → V g m_M_fits 1 23 0 0 88 x [] m Fi := by
  have h8 := hE.2.2.2.2.1
  have e3 := hE.2.2.1
  have i4 : vp_in (nI e) 4 := vp_nI he (by omega)
  intro k
  induction k with
  | zero =>
    intro j st F m x hj hst hF hQ hM hx hK
    refine V_lo _ hx ?_
    refine V_iload d_M_fits_88 rfl ?_
    refine V_bipush (v := 8) d_M_fits_90 (by decide) ?_
    refine V_iload d_M_fits_92 rfl ?_
    refine V_imul d_M_fits_94 ?_
    first | refine V_aload_n d_M_fits_95 rfl rfl ?_ | refine V_aloadN_n d_M_fits_95 rfl rfl ?_
    refine Vget fl_M_29 d_M_fits_96 hM.1 rfl ?_
    refine V_iload d_M_fits_99 rfl ?_
    refine Miald d_M_fits_101 hM (by decide) (by exact i4) ?_
    rw [nI_clamp (by omega), show (stA ar 30 F) 6 e = nI d.1 from e3, nI8]
    refine V_iadd d_M_fits_102 ?_
    rw [nI_add]
    refine V_icmp_ge (tgt := 252) d_M_fits_103 (by decide) (fun h_103 => ?_) (fun h_103 => ?_)
    · first | refine V_aload_n d_M_fits_252 rfl rfl ?_ | refine V_aloadN_n d_M_fits_252 rfl rfl ?_
      refine Vget fl_M_98 d_M_fits_253 hM.1 rfl ?_
      exact V_iret d_M_fits_256 rfl rfl (hK m F hM hF)
    · exact absurd (nI_le (by omega) (by omega)) h_103
  | succ k ih =>
    intro j st F m x hj hst hF hQ hM hx hK
    have hin : vp_in (nI (8 * e + j)) 32 := vp_nI (by omega) (by omega)
    obtain ⟨⟨r1, r2, r3, r4, r5, r6, r7, r8, r9⟩, -⟩ := hE.2.2.2.2.2.2.1 j (by omega)
    have htk := tks_m (v := d.2.1 j) (w := w) (s := s9) hz1 hz9 hc9
    rw [fitF] at hK
    -- not taken
    have no : ¬ tks (d.2.1 j) w s9 (nI z) (nI c) = true → V g m_M_fits 1 23 0 0 246 [(0, .ref a), (1, .int w), (2, .int s9), (3, .int (nI z)), (4, .int (nI c)), (5, .int (nI e)), (6, .int (nI (8 * e + j)))] [] m Fi := by
      intro hn
      rw [if_neg hn] at hK
      refine V_iinc d_M_fits_246 rfl (nI_inc _) rfl ?_
      refine V_goto (tgt := 88) d_M_fits_249 (by decide) ?_
      exact ih (j + 1) st F m _ (by omega) (by omega) hF hQ hM ⟨rfl, rfl, rfl, rfl, rfl, rfl, rfl, trivial⟩ hK
    refine V_lo _ hx ?_
    refine V_iload d_M_fits_88 rfl ?_
    refine V_bipush (v := 8) d_M_fits_90 (by decide) ?_
    refine V_iload d_M_fits_92 rfl ?_
    refine V_imul d_M_fits_94 ?_
    first | refine V_aload_n d_M_fits_95 rfl rfl ?_ | refine V_aloadN_n d_M_fits_95 rfl rfl ?_
    refine Vget fl_M_29 d_M_fits_96 hM.1 rfl ?_
    refine V_iload d_M_fits_99 rfl ?_
    refine Miald d_M_fits_101 hM (by decide) (by exact i4) ?_
    rw [nI_clamp (by omega), show (stA ar 30 F) 6 e = nI d.1 from e3, nI8]
    refine V_iadd d_M_fits_102 ?_
    rw [nI_add]
    refine V_icmp_ge (tgt := 252) d_M_fits_103 (by decide) (fun h_103 => ?_) (fun h_103 => ?_)
    · exact absurd h_103 (nI_ge (by omega) (by omega))
    · first | refine V_aload_n d_M_fits_106 rfl rfl ?_ | refine V_aloadN_n d_M_fits_106 rfl rfl ?_
      refine Vget fl_M_35 d_M_fits_107 hM.1 rfl ?_
      refine V_iload d_M_fits_110 rfl ?_
      refine Miald d_M_fits_112 hM (by decide) (by exact hin) ?_
      rw [nI_clamp (by omega), show (stA ar 30 F) 8 (8 * e + j) = d.2.1 j 1 from r2]
      refine V_iload_n d_M_fits_113 rfl rfl ?_
      refine V_ishr d_M_fits_114 ?_
      refine V_iconst (v := 1) d_M_fits_115 (by decide) ?_
      refine V_iand d_M_fits_116 ?_
      refine V_iconst (v := 1) d_M_fits_117 (by decide) ?_
      refine V_icmp_ne (tgt := 246) d_M_fits_118 (by decide) (fun h_118 => ?_) (fun h_118 => ?_)
      · exact no (fun q => h_118 (htk.mp q).1)
      · first | refine V_aload_n d_M_fits_121 rfl rfl ?_ | refine V_aloadN_n d_M_fits_121 rfl rfl ?_
        refine Vget fl_M_38 d_M_fits_122 hM.1 rfl ?_
        refine V_iload d_M_fits_125 rfl ?_
        refine Miald d_M_fits_127 hM (by decide) (by exact hin) ?_
        rw [nI_clamp (by omega), show (stA ar 30 F) 9 (8 * e + j) = d.2.1 j 4 ||| 1 from r3]
        refine V_iload d_M_fits_128 rfl ?_
        refine V_ishr d_M_fits_130 ?_
        refine V_iconst (v := 1) d_M_fits_131 (by decide) ?_
        refine V_iand d_M_fits_132 ?_
        refine V_iconst (v := 1) d_M_fits_133 (by decide) ?_
        refine V_icmp_ne (tgt := 246) d_M_fits_134 (by decide) (fun h_134 => ?_) (fun h_134 => ?_)
        · exact no (fun q => h_134 (htk.mp q).2.1)
        · refine V_iload_n d_M_fits_137 rfl rfl ?_
          first | refine V_aload_n d_M_fits_138 rfl rfl ?_ | refine V_aloadN_n d_M_fits_138 rfl rfl ?_
          refine Vget fl_M_41 d_M_fits_139 hM.1 rfl ?_
          refine V_iload d_M_fits_142 rfl ?_
          refine Miald d_M_fits_144 hM (by decide) (by exact hin) ?_
          rw [nI_clamp (by omega), show (stA ar 30 F) 10 (8 * e + j) = d.2.1 j 2 from r4]
          refine V_icmp_gt (tgt := 246) d_M_fits_145 (by decide) (fun h_145 => ?_) (fun h_145 => ?_)
          · exact no (fun q => (htk.mp q).2.2.1 h_145)
          · refine V_iload_n d_M_fits_148 rfl rfl ?_
            first | refine V_aload_n d_M_fits_149 rfl rfl ?_ | refine V_aloadN_n d_M_fits_149 rfl rfl ?_
            refine Vget fl_M_44 d_M_fits_150 hM.1 rfl ?_
            refine V_iload d_M_fits_153 rfl ?_
            refine Miald d_M_fits_155 hM (by decide) (by exact hin) ?_
            rw [nI_clamp (by omega), show (stA ar 30 F) 11 (8 * e + j) = d.2.1 j 3 from r5]
            refine V_icmp_gt (tgt := 246) d_M_fits_156 (by decide) (fun h_156 => ?_) (fun h_156 => ?_)
            · exact no (fun q => (htk.mp q).2.2.2 h_156)
            · have hy := htk.mpr ⟨h_118, h_134, h_145, h_156⟩
              rw [if_pos hy] at hK
              have h8' : st.1 < 8 := by omega
              first | refine V_aload_n d_M_fits_159 rfl rfl ?_ | refine V_aloadN_n d_M_fits_159 rfl rfl ?_
              refine Vget fl_M_98 d_M_fits_160 hM.1 rfl ?_
              refine V_istore d_M_fits_163 rfl ?_
              refine l_M_ins hg he hE (s9 := s9) (z := nI z) (c := nI c) (j := j) (by omega) h8' st.1 st.2 F m _ (Nat.le_refl _) (fun q hq hne => hF q (by omega)) hQ hM ⟨rfl, rfl, rfl, rfl, rfl, rfl, rfl, rfl, trivial⟩ (fun i' s' F' m' h1 h2 h3 hM => ?_)
              have i8 : vp_in (nI i') 8 := vp_nI (by omega) (by omega)
              first | refine V_aload_n d_M_fits_222 rfl rfl ?_ | refine V_aloadN_n d_M_fits_222 rfl rfl ?_
              refine Vget fl_M_101 d_M_fits_223 hM.1 rfl ?_
              refine V_iload d_M_fits_226 rfl ?_
              first | refine V_aload_n d_M_fits_228 rfl rfl ?_ | refine V_aloadN_n d_M_fits_228 rfl rfl ?_
              refine Vget fl_M_32 d_M_fits_229 hM.1 rfl ?_
              refine V_iload d_M_fits_232 rfl ?_
              refine Miald d_M_fits_234 hM (by decide) (by exact hin) ?_
              refine Miast d_M_fits_235 hM (by decide) (by exact i8) (fun m hM => ?_)
              rw [nI_clamp (by omega), nI_clamp (by omega), stA_st, show (stA ar 30 F') 7 (8 * e + j) = d.2.1 j 0 from r1] at hM
              first | refine V_aload_n d_M_fits_236 rfl rfl ?_ | refine V_aloadN_n d_M_fits_236 rfl rfl ?_
              refine V_dup d_M_fits_237 rfl ?_
              refine Vget fl_M_98 d_M_fits_238 hM.1 rfl ?_
              refine V_iconst (v := 1) d_M_fits_241 (by decide) ?_
              refine V_iadd d_M_fits_242 ?_
              refine ek_v (P := fun z => V g m_M_fits 1 23 0 0 _ _ z _ _) (show _ = [Value.int (nI (st.1 + 1)), .ref a] by rw [← nI_1]; rfl) ?_
              refine Mput (k := 29) pl_M_98 d_M_fits_243 hM rfl rfl (fun m hM => ?_)
              rw [upd_upd] at hM
              refine V_iinc d_M_fits_246 rfl (nI_inc _) rfl ?_
              refine V_goto (tgt := 88) d_M_fits_249 (by decide) ?_
              refine ih (j + 1) (st.1 + 1, insF (d.2.1 j 0) (prc (d.2.1 j) w) st.1 st.2) _ m _ (by omega) (by show st.1 + 1 ≤ j + 1; omega) (fun q hq => ?_) (fun q hq => ?_) hM ⟨rfl, rfl, rfl, rfl, rfl, rfl, rfl, trivial⟩ hK
              · have hq' : q < st.1 + 1 := hq
                show upd F' i' (d.2.1 j 0) q = (insF (d.2.1 j 0) (prc (d.2.1 j) w) st.1 st.2).1 q
                rw [h2]
                show upd F' i' (d.2.1 j 0) q = upd s'.1 i' (d.2.1 j 0) q
                unfold upd
                by_cases eq : q = i'
                · rw [if_pos eq, if_pos eq]
                · rw [if_neg eq, if_neg eq]
                  exact h3 q (by omega) eq
              · have hq' : q < st.1 + 1 := hq
                exact insF_pr (n := st.1) (Q := prQ d.2.1 w d.1) st.1 st.2 (Nat.le_refl _) (fun r hr hne => hQ r (by omega)) ⟨j, by omega, rfl, rfl⟩ q (by omega)
set_option maxRecDepth 20000 in
set_option maxHeartbeats 1000000 in
theorem c_M_fits (hg : GO g) (hM : Md g m0 m a B sc ar) (hR : RM sc ar tx lb pr n day len ft ed) (w s z c : Int32) (pc : Fw) : CT g m_M_fits 1 23 0 0 [.ref a, .int w, .int s, .int z, .int c] m (Pq g m0 a B [xIA, xIS] (fitP ft pc ed w s z c len (acA ed n day)).1 tx lb pr n day (fitP ft pc ed w s z c len (acA ed n day)).2.1 (fitP ft pc ed w s z c len (acA ed n day)).2.2 ed) := by
  have hn4 := hR.2.2.2.1.2
  have thr : ∀ (k : Int32) (r : Ou), fitP ft pc ed w s z c len (acA ed n day) = (r, len, ft) → ¬ k = 0 → AG [xIA, xIS] r 0 k → ∀ x, chk [(0, .ref a)] x → V g m_M_fits 1 23 0 0 64 x [.int k, .ref a] m (Pq g m0 a B [xIA, xIS] (fitP ft pc ed w s z c len (acA ed n day)).1 tx lb pr n day (fitP ft pc ed w s z c len (acA ed n day)).2.1 (fitP ft pc ed w s z c len (acA ed n day)).2.2 ed) := by
    intro k r er h0 hA x hx
    rw [er]
    refine V_lo _ hx ?_
    refine Mput (k := 0) pl_M_7 d_M_fits_64 hM rfl rfl (fun m hM => ?_)
    first | refine V_aload_n d_M_fits_67 rfl rfl ?_ | refine V_aloadN_n d_M_fits_67 rfl rfl ?_
    refine Vget fl_M_7 d_M_fits_68 hM.1 rfl ?_
    refine V_if_eq (tgt := 76) d_M_fits_71 (by decide) (fun h_71 => ?_) (fun h_71 => ?_)
    · exact absurd h_71 h0
    · refine V_iconst (v := 0) d_M_fits_74 (by decide) ?_
      exact V_iret d_M_fits_75 rfl rfl ⟨_, rfl, _, _, hM, hR, hA⟩
  have bad : fitQ w s z c = false → ∀ x, chk [(0, .ref a)] x → V g m_M_fits 1 23 0 0 50 x [.ref a] m (Pq g m0 a B [xIA, xIS] (fitP ft pc ed w s z c len (acA ed n day)).1 tx lb pr n day (fitP ft pc ed w s z c len (acA ed n day)).2.1 (fitP ft pc ed w s z c len (acA ed n day)).2.2 ed) := by
    intro hq x hx
    refine V_iconst (v := 1) d_M_fits_50 (by decide) ?_
    refine V_goto (tgt := 64) d_M_fits_51 (by decide) ?_
    exact thr 1 eIA (by unfold fitP; rw [if_pos hq]) (by decide) ⟨by decide, by decide⟩ _ hx
  refine CT_go (lo := [(0, .ref a), (1, .int w), (2, .int s), (3, .int z), (4, .int c)]) rfl rfl rfl rfl hg ?_
  first | refine V_aload_n d_M_fits_0 rfl rfl ?_ | refine V_aloadN_n d_M_fits_0 rfl rfl ?_
  refine VcallV cb_M_acting mv_M_167 rfl (ci := 6) rfl rfl d_M_fits_1 (c_M_acting hg hM hR) ⟨by decide, by decide⟩ rfl hM.1 rfl (Nat.le_of_ble_eq_true rfl) (fun _ _ h => nomatch h.1) (fun v m2 hR => ?_)
  obtain ⟨hv9, e9⟩ := hR
  cases hv9
  subst m2
  refine V_istore d_M_fits_4 rfl ?_
  first | refine V_aload_n d_M_fits_6 rfl rfl ?_ | refine V_aloadN_n d_M_fits_6 rfl rfl ?_
  refine V_iload_n d_M_fits_7 rfl rfl ?_
  refine V_iconst (v := 1) d_M_fits_8 (by decide) ?_
  refine V_sipush (v := 2000) d_M_fits_9 (by decide) ?_
  refine V_callS cb_M_not ms_M_156 rfl rfl d_M_fits_12 (c_M_not hg w 1 2000) ⟨by decide, by decide⟩ rfl rfl (Nat.le_of_ble_eq_true rfl) (fun _ _ h => nomatch h.1) (fun v m2 hR => ?_)
  obtain ⟨hv9, e9⟩ := hR
  cases hv9
  subst m2
  refine V_if_ne (tgt := 50) d_M_fits_15 (by decide) (fun h_15 => ?_) (fun h_15 => ?_)
  · have e1 : wi w 1 2000 = false := by simpa using bi_ne0.mp h_15
    exact bad (by unfold fitQ; rw [e1]; rfl) _ ⟨rfl, trivial⟩
  · have e1 : wi w 1 2000 = true := by simpa using bi_eq0.mp h_15
    refine V_iload_n d_M_fits_18 rfl rfl ?_
    refine V_iconst (v := 1) d_M_fits_19 (by decide) ?_
    refine V_sipush (v := 1000) d_M_fits_20 (by decide) ?_
    refine V_callS cb_M_not ms_M_156 rfl rfl d_M_fits_23 (c_M_not hg s 1 1000) ⟨by decide, by decide⟩ rfl rfl (Nat.le_of_ble_eq_true rfl) (fun _ _ h => nomatch h.1) (fun v m2 hR => ?_)
    obtain ⟨hv9, e9⟩ := hR
    cases hv9
    subst m2
    refine V_if_ne (tgt := 50) d_M_fits_26 (by decide) (fun h_26 => ?_) (fun h_26 => ?_)
    · have e2 : wi s 1 1000 = false := by simpa using bi_ne0.mp h_26
      exact bad (by unfold fitQ; rw [e2, Bool.false_and, Bool.and_false]) _ ⟨rfl, trivial⟩
    · have e2 : wi s 1 1000 = true := by simpa using bi_eq0.mp h_26
      refine V_iload_n d_M_fits_29 rfl rfl ?_
      refine V_iconst (v := 1) d_M_fits_30 (by decide) ?_
      refine V_bipush (v := 9) d_M_fits_31 (by decide) ?_
      refine V_callS cb_M_not ms_M_156 rfl rfl d_M_fits_33 (c_M_not hg z 1 9) ⟨by decide, by decide⟩ rfl rfl (Nat.le_of_ble_eq_true rfl) (fun _ _ h => nomatch h.1) (fun v m2 hR => ?_)
      obtain ⟨hv9, e9⟩ := hR
      cases hv9
      subst m2
      refine V_if_ne (tgt := 50) d_M_fits_36 (by decide) (fun h_36 => ?_) (fun h_36 => ?_)
      · have e3 : wi z 1 9 = false := by simpa using bi_ne0.mp h_36
        exact bad (by unfold fitQ; rw [e3, Bool.false_and, Bool.and_false, Bool.and_false]) _ ⟨rfl, trivial⟩
      · have e3 : wi z 1 9 = true := by simpa using bi_eq0.mp h_36
        refine V_iload d_M_fits_39 rfl ?_
        refine V_iconst (v := 0) d_M_fits_41 (by decide) ?_
        refine V_bipush (v := 9) d_M_fits_42 (by decide) ?_
        refine V_callS cb_M_not ms_M_156 rfl rfl d_M_fits_44 (c_M_not hg c 0 9) ⟨by decide, by decide⟩ rfl rfl (Nat.le_of_ble_eq_true rfl) (fun _ _ h => nomatch h.1) (fun v m2 hR => ?_)
        obtain ⟨hv9, e9⟩ := hR
        cases hv9
        subst m2
        refine V_if_eq (tgt := 54) d_M_fits_47 (by decide) (fun h_47 => ?_) (fun h_47 => ?_)
        · have e4 : wi c 0 9 = true := by simpa using bi_eq0.mp h_47
          have hq : ¬ fitQ w s z c = false := by unfold fitQ; rw [e1, e2, e3, e4]; decide
          obtain ⟨zz, rfl, hz1, hz9⟩ := wi_ex (l := 1) (h := 9) (by omega) (by omega) e3
          obtain ⟨cc, rfl, -, hc9⟩ := wi_ex (l := 0) (h := 9) (by omega) (by omega) e4
          cases ha : acA ed n day with
          | none =>
            rw [ha] at thr
            refine V_iload d_M_fits_54 rfl ?_
            refine V_if_ge (tgt := 63) d_M_fits_56 (by decide) (fun h_56 => ?_) (fun h_56 => ?_)
            · exact absurd h_56 (show ¬ (0 : Int32) ≤ -1 by decide)
            · refine V_iconst (v := 2) d_M_fits_59 (by decide) ?_
              refine V_goto (tgt := 64) d_M_fits_60 (by decide) ?_
              exact thr 2 eIS (by unfold fitP; rw [if_neg hq]; rfl) (by decide) ⟨by decide, by decide⟩ _ ⟨rfl, trivial⟩
          | some e =>
            have he := acA_lt ha
            have hE := hR.2.2.2.2.2.2 e he
            have er : fitP ft pc ed w s (nI zz) (nI cc) len (some e) = fitO ft pc ed w s (nI zz) (nI cc) len (some e) := by unfold fitP; rw [if_neg hq]
            rw [er, fitO]
            refine V_lo [(5, .int (nI e)), (0, .ref a), (1, .int w), (2, .int s), (3, .int (nI zz)), (4, .int (nI cc))] ⟨rfl, rfl, rfl, rfl, rfl, rfl, trivial⟩ ?_
            refine V_iload d_M_fits_54 rfl ?_
            refine V_if_ge (tgt := 63) d_M_fits_56 (by decide) (fun h_56 => ?_) (fun h_56 => ?_)
            · refine V_iconst (v := 0) d_M_fits_63 (by decide) ?_
              refine Mput (k := 0) pl_M_7 d_M_fits_64 hM rfl rfl (fun m hM => ?_)
              first | refine V_aload_n d_M_fits_67 rfl rfl ?_ | refine V_aloadN_n d_M_fits_67 rfl rfl ?_
              refine Vget fl_M_7 d_M_fits_68 hM.1 rfl ?_
              refine V_if_eq (tgt := 76) d_M_fits_71 (by decide) (fun h_71 => ?_) (fun h_71 => ?_)
              · first | refine V_aload_n d_M_fits_76 rfl rfl ?_ | refine V_aloadN_n d_M_fits_76 rfl rfl ?_
                refine V_iconst (v := 0) d_M_fits_77 (by decide) ?_
                refine Mput (k := 29) pl_M_98 d_M_fits_78 hM rfl rfl (fun m hM => ?_)
                refine V_bipush (v := 8) d_M_fits_81 (by decide) ?_
                refine V_iload d_M_fits_83 rfl ?_
                refine V_imul d_M_fits_85 ?_
                rw [nI8]
                refine V_istore d_M_fits_86 rfl ?_
                have hM1 : Md g m0 m a B (upd (upd sc 0 0) 29 (nI (0, ft, pc).1)) (stA ar 30 (ar 30)) := by rw [stA_id]; exact hM
                refine l_M_fits hg (by omega) hE hz1 hz9 hc9 (ed e).1 0 (0, ft, pc) (ar 30) m _ (by omega) (Nat.le_refl _) (fun q hq => absurd hq (Nat.not_lt_zero q)) (fun q hq => absurd hq (Nat.not_lt_zero q)) hM1 ⟨rfl, rfl, rfl, rfl, rfl, rfl, rfl, trivial⟩ (fun m' F' hM hF => ?_)
                have hle := fitF_le (v := (ed e).2.1) (w := w) (s := s) (z := nI zz) (c := nI cc) (ed e).1 0 (0, ft, pc) (Nat.le_refl _)
                have hk8 := hE.2.2.2.2.1
                exact ⟨_, rfl, _, _, hM, ⟨hR.1, hR.2.1, hR.2.2.1, hR.2.2.2.1, hR.2.2.2.2.1, ⟨rfl, by show (fitF (ed e).2.1 w s (nI zz) (nI cc) (ed e).1 0 (0, ft, pc)).1 ≤ 8; omega, hF⟩, hR.2.2.2.2.2.2⟩, rfl, rfl⟩
              · exact absurd rfl h_71
            · exact absurd (i_nlt (nI_pos (show e < 2 ^ 31 by omega))) h_56
        · have e4 : wi c 0 9 = false := by simpa using bi_ne0.mp h_47
          exact bad (by unfold fitQ; rw [e4, Bool.and_false, Bool.and_false, Bool.and_false]) _ ⟨rfl, trivial⟩
end M13
