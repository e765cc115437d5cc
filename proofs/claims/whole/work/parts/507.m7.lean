/-! the reference keeps an edition -/
def kE (n : Nat) (ar0 ar : Ar) : Prop := (∀ l, l ≠ 4 → l ≠ 6 → l ≠ 16 → (l < 7 ∨ 19 < l) → ar l = ar0 l) ∧ (∀ l x, x < 8 * n → 7 ≤ l → l ≤ 19 → l ≠ 16 → ar l x = ar0 l x) ∧ ∀ x, x < n → ar 4 x = ar0 4 x ∧ ar 6 x = ar0 6 x ∧ ar 16 x = ar0 16 x
theorem kE_up {n l x : Nat} {ar0 ar : Ar} {v : Int32} (h : kE n ar0 ar) (h7 : 7 ≤ l) (h19 : l ≤ 19) (h16 : l ≠ 16) (hx : 8 * n ≤ x) : kE n ar0 (upA ar l x v) := by
  obtain ⟨h1, h2, h3⟩ := h
  refine ⟨fun k e1 e2 e3 e4 => ?_, fun k y hy k1 k2 k3 => ?_, fun y hy => ?_⟩
  · unfold upA
    rw [if_neg (by omega)]
    exact h1 k e1 e2 e3 e4
  · unfold upA
    by_cases e : k = l
    · subst e
      rw [if_pos rfl]
      unfold upd
      rw [if_neg (by omega)]
      exact h2 k y hy k1 k2 k3
    · rw [if_neg e]
      exact h2 k y hy k1 k2 k3
  · unfold upA
    rw [if_neg (by omega), if_neg (by omega), if_neg (by omega)]
    exact h3 y hy
theorem kE_up1 {n l : Nat} {ar0 ar : Ar} {v : Int32} (h : kE n ar0 ar) (hl : l = 4 ∨ l = 6 ∨ l = 16) : kE n ar0 (upA ar l n v) := by
  obtain ⟨h1, h2, h3⟩ := h
  refine ⟨fun k e1 e2 e3 e4 => ?_, fun k y hy k1 k2 k3 => ?_, fun y hy => ?_⟩
  · unfold upA
    rw [if_neg (by omega)]
    exact h1 k e1 e2 e3 e4
  · unfold upA
    rw [if_neg (by omega)]
    exact h2 k y hy k1 k2 k3
  · obtain ⟨q1, q2, q3⟩ := h3 y hy
    have key : ∀ k, (upA ar l n v) k y = ar k y := fun k => by
      unfold upA
      by_cases e : k = l
      · subst e
        rw [if_pos rfl]
        unfold upd
        rw [if_neg (by omega)]
      · rw [if_neg e]
    rw [key, key, key]
    exact ⟨q1, q2, q3⟩
theorem REd_k {n i : Nat} {ar0 ar : Ar} {d : Edd} (h : REd ar0 i d) (hk : kE n ar0 ar) (hi : i < n) : REd ar i d := by
  obtain ⟨e1, e2, e3, e4, e5, e6, e7, e8, e9⟩ := h
  obtain ⟨h1, h2, h3⟩ := hk
  obtain ⟨k1, k2, k3⟩ := h3 i hi
  refine ⟨k1.trans e1, e2, k2.trans e3, k3.trans e4, e5, e6, fun j hj => ?_, e8, fun j hj => ?_⟩
  · obtain ⟨⟨r1, r2, r3, r4, r5, r6, r7, r8, r9⟩, r10⟩ := e7 j hj
    have hx : 8 * i + j < 8 * n := by omega
    unfold RSv
    rw [h2 7 _ hx (by decide) (by decide) (by decide), h2 8 _ hx (by decide) (by decide) (by decide), h2 9 _ hx (by decide) (by decide) (by decide), h2 10 _ hx (by decide) (by decide) (by decide), h2 11 _ hx (by decide) (by decide) (by decide), h2 12 _ hx (by decide) (by decide) (by decide), h2 13 _ hx (by decide) (by decide) (by decide), h2 14 _ hx (by decide) (by decide) (by decide), h2 15 _ hx (by decide) (by decide) (by decide)]
    exact ⟨⟨r1, r2, r3, r4, r5, r6, r7, r8, r9⟩, r10⟩
  · have hx : 8 * i + j < 8 * n := by omega
    rw [h2 17 _ hx (by decide) (by decide) (by decide), h2 18 _ hx (by decide) (by decide) (by decide), h2 19 _ hx (by decide) (by decide) (by decide)]
    exact e9 j hj
theorem upA_o {ar : Ar} {l x k y : Nat} {v : Int32} (h : y ≠ x) : upA ar l x v k y = ar k y := by
  unfold upA
  by_cases e : k = l
  · subst e
    rw [if_pos rfl]
    unfold upd
    rw [if_neg h]
  · rw [if_neg e]
theorem RSv_up {ar : Ar} {l x y : Nat} {w : Int32} {v : Fw} (h : RSv ar y v) (hy : y ≠ x) : RSv (upA ar l x w) y v := by
  unfold RSv
  rw [upA_o hy, upA_o hy, upA_o hy, upA_o hy, upA_o hy, upA_o hy, upA_o hy, upA_o hy, upA_o hy]
  exact h
/-- what the reference knows of the text that it read -/
def NW (sc : Fw) (ar : Ar) (D : Dst) : Prop := sc 22 = nI D.1 ∧ D.1 ≤ 8 ∧ sc 24 = nI D.2.2.1 ∧ D.2.2.1 ≤ 8 ∧ (∀ j, j < D.1 → NSv ar j (D.2.1 j) ∧ SvOk (D.2.1 j)) ∧ (∀ x y, x < D.1 → y < D.1 → D.2.1 x 0 = D.2.1 y 0 → x = y) ∧ ∀ j, j < D.2.2.1 → ar 25 j = D.2.2.2.1 j ∧ ar 26 j = D.2.2.2.2.1 j ∧ ar 27 j = D.2.2.2.2.2.1 j ∧ wi (D.2.2.2.2.2.1 j) 1 9 = true
section M7
variable {g : GG} {m0 m : Mm} {a : Nat} {B : Nat → Nat} {sc : Fw} {ar : Ar}
set_option maxRecDepth 20000 in
set_option maxHeartbeats 1000000 in
theorem l_M_keepB (hg : GO g) {ar0 : Ar} {D : Dst} {n : Nat} (hn : n < 4) (hW : NW sc ar0 D) (wh : Int32) {Fi : Ou → Mm → Prop} : ∀ (k j : Nat) (ar : Ar) (m : Mm) (x : List (Nat × Value)), j + k = D.2.2.1 → Md g m0 m a B sc ar → kE n ar0 ar → (∀ i, i < D.1 → RSv ar (8 * n + i) (D.2.1 i)) → (∀ i, i < j → ar 17 (8 * n + i) = D.2.2.2.1 i ∧ ar 18 (8 * n + i) = D.2.2.2.2.1 i ∧ ar 19 (8 * n + i) = D.2.2.2.2.2.1 i) → ar 4 n = wh → ar 6 n = nI D.1 → ar 16 n = nI D.2.2.1 → chk [(0, .ref a), (1, .int (nI n)), (3, .int (nI j))] x → (∀ m' ar', Md g m0 m' a B sc ar' → kE n ar0 ar' → (¬ wh < 0 → REd ar' n (edN D wh)) → Fi (.inl none) m') → V g m_M_keepEdition 0 0 0 0 227 x [] m Fi := by
  obtain ⟨c1, c2, c3, c4, c5, c6, c7⟩ := hW
  intro k
  induction k with
  | zero =>
    intro j ar m x hj hM hE hS hR h4 h6 h16 hx hF
    refine V_lo _ hx ?_
    refine V_iload_n d_M_keepEdition_227 rfl rfl ?_
    first | refine V_aload_n d_M_keepEdition_228 rfl rfl ?_ | refine V_aloadN_n d_M_keepEdition_228 rfl rfl ?_
    refine Vget fl_M_83 d_M_keepEdition_229 hM.1 rfl ?_
    refine V_icmp_ge (tgt := 292) d_M_keepEdition_232 (by decide) (fun h_232 => ?_) (fun h_232 => ?_)
    · refine V_vret d_M_keepEdition_292 rfl (hF m ar hM hE (fun hw => ?_))
      exact ⟨h4, hw, h6, h16, c2, c4, fun i hi => ⟨hS i hi, (c5 i hi).2⟩, c6, fun i hi => by
        have hi' : i < D.2.2.1 := hi
        obtain ⟨r1, r2, r3⟩ := hR i (by omega)
        exact ⟨r1, r2, r3, (c7 i hi').2.2.2⟩⟩
    · rw [c3] at h_232
      exact absurd (nI_le (by omega) (by omega)) h_232
  | succ k ih =>
    intro j ar m x hj hM hE hS hR h4 h6 h16 hx hF
    have i8 : vp_in (nI j) 8 := vp_nI (by omega) (by omega)
    have eN : 8 * nI n + nI j = nI (8 * n + j) := by rw [nI8, nI_add]
    have i32 : vp_in (nI (8 * n + j)) 32 := vp_nI (by omega) (by omega)
    have k25 : ar 25 = ar0 25 := hE.1 25 (by decide) (by decide) (by decide) (by omega)
    have k26 : ar 26 = ar0 26 := hE.1 26 (by decide) (by decide) (by decide) (by omega)
    have k27 : ar 27 = ar0 27 := hE.1 27 (by decide) (by decide) (by decide) (by omega)
    obtain ⟨v1, v2, v3, -⟩ := c7 j (by omega)
    refine V_lo _ hx ?_
    refine V_iload_n d_M_keepEdition_227 rfl rfl ?_
    first | refine V_aload_n d_M_keepEdition_228 rfl rfl ?_ | refine V_aloadN_n d_M_keepEdition_228 rfl rfl ?_
    refine Vget fl_M_83 d_M_keepEdition_229 hM.1 rfl ?_
    refine V_icmp_ge (tgt := 292) d_M_keepEdition_232 (by decide) (fun h_232 => ?_) (fun h_232 => ?_)
    · rw [c3] at h_232
      exact absurd h_232 (nI_ge (by omega) (by omega))
    · first | refine V_aload_n d_M_keepEdition_235 rfl rfl ?_ | refine V_aloadN_n d_M_keepEdition_235 rfl rfl ?_
      refine Vget fl_M_62 d_M_keepEdition_236 hM.1 rfl ?_
      refine V_bipush (v := 8) d_M_keepEdition_239 (by decide) ?_
      refine V_iload_n d_M_keepEdition_241 rfl rfl ?_
      refine V_imul d_M_keepEdition_242 ?_
      refine V_iload_n d_M_keepEdition_243 rfl rfl ?_
      refine V_iadd d_M_keepEdition_244 ?_
      refine ek_v (P := fun z => V g m_M_keepEdition 0 0 0 0 _ _ z _ _) (show _ = [Value.int (nI (8 * n + j)), .ref (B 17)] by rw [← eN]) ?_
      first | refine V_aload_n d_M_keepEdition_245 rfl rfl ?_ | refine V_aloadN_n d_M_keepEdition_245 rfl rfl ?_
      refine Vget fl_M_86 d_M_keepEdition_246 hM.1 rfl ?_
      refine V_iload_n d_M_keepEdition_249 rfl rfl ?_
      refine Miald d_M_keepEdition_250 hM (by decide) (by exact i8) ?_
      refine Miast d_M_keepEdition_251 hM (by decide) (by exact i32) (fun m hM => ?_)
      first | refine V_aload_n d_M_keepEdition_252 rfl rfl ?_ | refine V_aloadN_n d_M_keepEdition_252 rfl rfl ?_
      refine Vget fl_M_65 d_M_keepEdition_253 hM.1 rfl ?_
      refine V_bipush (v := 8) d_M_keepEdition_256 (by decide) ?_
      refine V_iload_n d_M_keepEdition_258 rfl rfl ?_
      refine V_imul d_M_keepEdition_259 ?_
      refine V_iload_n d_M_keepEdition_260 rfl rfl ?_
      refine V_iadd d_M_keepEdition_261 ?_
      refine ek_v (P := fun z => V g m_M_keepEdition 0 0 0 0 _ _ z _ _) (show _ = [Value.int (nI (8 * n + j)), .ref (B 18)] by rw [← eN]) ?_
      first | refine V_aload_n d_M_keepEdition_262 rfl rfl ?_ | refine V_aloadN_n d_M_keepEdition_262 rfl rfl ?_
      refine Vget fl_M_89 d_M_keepEdition_263 hM.1 rfl ?_
      refine V_iload_n d_M_keepEdition_266 rfl rfl ?_
      refine Miald d_M_keepEdition_267 hM (by decide) (by exact i8) ?_
      refine Miast d_M_keepEdition_268 hM (by decide) (by exact i32) (fun m hM => ?_)
      first | refine V_aload_n d_M_keepEdition_269 rfl rfl ?_ | refine V_aloadN_n d_M_keepEdition_269 rfl rfl ?_
      refine Vget fl_M_68 d_M_keepEdition_270 hM.1 rfl ?_
      refine V_bipush (v := 8) d_M_keepEdition_273 (by decide) ?_
      refine V_iload_n d_M_keepEdition_275 rfl rfl ?_
      refine V_imul d_M_keepEdition_276 ?_
      refine V_iload_n d_M_keepEdition_277 rfl rfl ?_
      refine V_iadd d_M_keepEdition_278 ?_
      refine ek_v (P := fun z => V g m_M_keepEdition 0 0 0 0 _ _ z _ _) (show _ = [Value.int (nI (8 * n + j)), .ref (B 19)] by rw [← eN]) ?_
      first | refine V_aload_n d_M_keepEdition_279 rfl rfl ?_ | refine V_aloadN_n d_M_keepEdition_279 rfl rfl ?_
      refine Vget fl_M_92 d_M_keepEdition_280 hM.1 rfl ?_
      refine V_iload_n d_M_keepEdition_283 rfl rfl ?_
      refine Miald d_M_keepEdition_284 hM (by decide) (by exact i8) ?_
      refine Miast d_M_keepEdition_285 hM (by decide) (by exact i32) (fun m hM => ?_)
      rw [nI_clamp (by omega), nI_clamp (by omega)] at hM
      change Md g m0 m a B sc (upA (upA (upA ar 17 (8 * n + j) (ar 25 j)) 18 (8 * n + j) (ar 26 j)) 19 (8 * n + j) (ar 27 j)) at hM
      rw [k25, k26, k27, v1, v2, v3] at hM
      refine V_iinc d_M_keepEdition_286 rfl (nI_inc _) rfl ?_
      refine V_goto (tgt := 227) d_M_keepEdition_289 (by decide) ?_
      refine ih (j + 1) _ m _ (by omega) hM (kE_up (kE_up (kE_up hE (by decide) (by decide) (by decide) (by omega)) (by decide) (by decide) (by decide) (by omega)) (by decide) (by decide) (by decide) (by omega)) (fun i hi => ?_) (fun i hi => ?_) h4 h6 h16 ⟨rfl, rfl, rfl, trivial⟩ hF
      · exact hS i hi
      · by_cases e : i = j
        · subst e
          show upd (ar 17) (8 * n + i) _ (8 * n + i) = _ ∧ upd (ar 18) (8 * n + i) _ (8 * n + i) = _ ∧ upd (ar 19) (8 * n + i) _ (8 * n + i) = _
          unfold upd
          rw [if_pos rfl, if_pos rfl, if_pos rfl]
          exact ⟨rfl, rfl, rfl⟩
        · rw [upA_o (by omega), upA_o (by omega), upA_o (by omega), upA_o (by omega), upA_o (by omega), upA_o (by omega), upA_o (by omega), upA_o (by omega), upA_o (by omega)]
          exact hR i (by omega)
set_option maxRecDepth 20000 in
set_option maxHeartbeats 1000000 in
theorem l_M_keepA (hg : GO g) {ar0 : Ar} {D : Dst} {n : Nat} (hn : n < 4) (hW : NW sc ar0 D) (wh : Int32) {Fi : Ou → Mm → Prop} : ∀ (k j : Nat) (ar : Ar) (m : Mm) (x : List (Nat × Value)), j + k = D.1 → Md g m0 m a B sc ar → kE n ar0 ar → (∀ i, i < j → RSv ar (8 * n + i) (D.2.1 i)) → ar 4 n = wh → ar 6 n = nI D.1 → chk [(0, .ref a), (1, .int (nI n)), (3, .int (nI j))] x → (∀ m' ar', Md g m0 m' a B sc ar' → kE n ar0 ar' → (¬ wh < 0 → REd ar' n (edN D wh)) → Fi (.inl none) m') → V g m_M_keepEdition 0 0 0 0 19 x [] m Fi := by
  have hW' := hW
  obtain ⟨c1, c2, c3, c4, c5, c6, c7⟩ := hW
  intro k
  induction k with
  | zero =>
    intro j ar m x hj hM hE hS h4 h6 hx hF
    have i4 : vp_in (nI n) 4 := vp_nI hn (by omega)
    refine V_lo _ hx ?_
    refine V_iload_n d_M_keepEdition_19 rfl rfl ?_
    first | refine V_aload_n d_M_keepEdition_20 rfl rfl ?_ | refine V_aloadN_n d_M_keepEdition_20 rfl rfl ?_
    refine Vget fl_M_77 d_M_keepEdition_21 hM.1 rfl ?_
    refine V_icmp_ge (tgt := 215) d_M_keepEdition_24 (by decide) (fun h_24 => ?_) (fun h_24 => ?_)
    · first | refine V_aload_n d_M_keepEdition_215 rfl rfl ?_ | refine V_aloadN_n d_M_keepEdition_215 rfl rfl ?_
      refine Vget fl_M_59 d_M_keepEdition_216 hM.1 rfl ?_
      refine V_iload_n d_M_keepEdition_219 rfl rfl ?_
      first | refine V_aload_n d_M_keepEdition_220 rfl rfl ?_ | refine V_aloadN_n d_M_keepEdition_220 rfl rfl ?_
      refine Vget fl_M_83 d_M_keepEdition_221 hM.1 rfl ?_
      refine Miast d_M_keepEdition_224 hM (by decide) (by assumption) (fun m hM => ?_)
      rw [nI_clamp (by omega), c3] at hM
      refine V_iconst (v := 0) d_M_keepEdition_225 (by decide) ?_
      refine V_istore_n d_M_keepEdition_226 rfl rfl ?_
      refine l_M_keepB hg hn hW' wh D.2.2.1 0 _ m _ (by omega) hM (kE_up1 hE (by omega)) (fun i hi => ?_) (fun i hi => absurd hi (Nat.not_lt_zero i)) h4 h6 ?_ ⟨rfl, rfl, rfl, trivial⟩ hF
      · exact hS i (by omega)
      · show upd (ar 16) n (nI D.2.2.1) n = _
        exact if_pos rfl
    · rw [c1] at h_24
      exact absurd (nI_le (by omega) (by omega)) h_24
  | succ k ih =>
    intro j ar m x hj hM hE hS h4 h6 hx hF
    have eN : 8 * nI n + nI j = nI (8 * n + j) := by rw [nI8, nI_add]
    have e0 : 8 * nI j = nI (8 * j) := nI8 j
    have e1 : 8 * nI j + 1 = nI (8 * j + 1) := by rw [nI8]; exact nI_add _ 1
    have e2 : 8 * nI j + 2 = nI (8 * j + 2) := by rw [nI8]; exact nI_add _ 2
    have e3 : 8 * nI j + 3 = nI (8 * j + 3) := by rw [nI8]; exact nI_add _ 3
    have e4 : 8 * nI j + 4 = nI (8 * j + 4) := by rw [nI8]; exact nI_add _ 4
    have e5 : 8 * nI j + 5 = nI (8 * j + 5) := by rw [nI8]; exact nI_add _ 5
    have e6 : 8 * nI j + 6 = nI (8 * j + 6) := by rw [nI8]; exact nI_add _ 6
    have e7 : 8 * nI j + 7 = nI (8 * j + 7) := by rw [nI8]; exact nI_add _ 7
    have i32 : vp_in (nI (8 * n + j)) 32 := vp_nI (by omega) (by omega)
    have k23 : ar 23 = ar0 23 := hE.1 23 (by decide) (by decide) (by decide) (by omega)
    obtain ⟨⟨n1, n2, n3⟩, n4⟩ := c5 j (by omega)
    have r0 : ar 23 (8 * j) = D.2.1 j 0 := by rw [k23]; exact n1 0 (by omega)
    have rr : ∀ i, i < 7 → ar 23 (8 * j + i) = D.2.1 j i := fun i hi => by rw [k23]; exact n1 i hi
    have q0 : vp_in (nI (8 * j)) 208 := vp_nI (by omega) (by omega)
    have q1 : vp_in (nI (8 * j + 1)) 208 := vp_nI (by omega) (by omega)
    have q2 : vp_in (nI (8 * j + 2)) 208 := vp_nI (by omega) (by omega)
    have q3 : vp_in (nI (8 * j + 3)) 208 := vp_nI (by omega) (by omega)
    have q4 : vp_in (nI (8 * j + 4)) 208 := vp_nI (by omega) (by omega)
    have q5 : vp_in (nI (8 * j + 5)) 208 := vp_nI (by omega) (by omega)
    have q6 : vp_in (nI (8 * j + 6)) 208 := vp_nI (by omega) (by omega)
    have q7 : vp_in (nI (8 * j + 7)) 208 := vp_nI (by omega) (by omega)
    refine V_lo _ hx ?_
    refine V_iload_n d_M_keepEdition_19 rfl rfl ?_
    first | refine V_aload_n d_M_keepEdition_20 rfl rfl ?_ | refine V_aloadN_n d_M_keepEdition_20 rfl rfl ?_
    refine Vget fl_M_77 d_M_keepEdition_21 hM.1 rfl ?_
    refine V_icmp_ge (tgt := 215) d_M_keepEdition_24 (by decide) (fun h_24 => ?_) (fun h_24 => ?_)
    · rw [c1] at h_24
      exact absurd h_24 (nI_ge (by omega) (by omega))
    · refine V_bipush (v := 8) d_M_keepEdition_27 (by decide) ?_
      refine V_iload_n d_M_keepEdition_29 rfl rfl ?_
      refine V_imul d_M_keepEdition_30 ?_
      refine V_iload_n d_M_keepEdition_31 rfl rfl ?_
      refine V_iadd d_M_keepEdition_32 ?_
      refine ek_v (P := fun z => V g m_M_keepEdition 0 0 0 0 _ _ z _ _) (show _ = [Value.int (nI (8 * n + j))] by rw [← eN]) ?_
      refine V_istore d_M_keepEdition_33 rfl ?_
      first | refine V_aload_n d_M_keepEdition_35 rfl rfl ?_ | refine V_aloadN_n d_M_keepEdition_35 rfl rfl ?_
      refine Vget fl_M_32 d_M_keepEdition_36 hM.1 rfl ?_
      refine V_iload d_M_keepEdition_39 rfl ?_
      first | refine V_aload_n d_M_keepEdition_41 rfl rfl ?_ | refine V_aloadN_n d_M_keepEdition_41 rfl rfl ?_
      refine Vget fl_M_80 d_M_keepEdition_42 hM.1 rfl ?_
      refine V_bipush (v := 8) d_M_keepEdition_45 (by decide) ?_
      refine V_iload_n d_M_keepEdition_47 rfl rfl ?_
      refine V_imul d_M_keepEdition_48 ?_
      refine ek_v (P := fun z => V g m_M_keepEdition 0 0 0 0 _ _ z _ _) (show _ = [Value.int (nI (8 * j)), .ref (B 23), .int (nI (8 * n + j)), .ref (B 7)] by rw [← e0]) ?_
      refine Miald d_M_keepEdition_49 hM (by decide) (by exact q0) ?_
      refine Miast d_M_keepEdition_50 hM (by decide) (by exact i32) (fun m hM => ?_)
      first | refine V_aload_n d_M_keepEdition_51 rfl rfl ?_ | refine V_aloadN_n d_M_keepEdition_51 rfl rfl ?_
      refine Vget fl_M_35 d_M_keepEdition_52 hM.1 rfl ?_
      refine V_iload d_M_keepEdition_55 rfl ?_
      first | refine V_aload_n d_M_keepEdition_57 rfl rfl ?_ | refine V_aloadN_n d_M_keepEdition_57 rfl rfl ?_
      refine Vget fl_M_80 d_M_keepEdition_58 hM.1 rfl ?_
      refine V_bipush (v := 8) d_M_keepEdition_61 (by decide) ?_
      refine V_iload_n d_M_keepEdition_63 rfl rfl ?_
      refine V_imul d_M_keepEdition_64 ?_
      refine V_iconst (v := 1) d_M_keepEdition_65 (by decide) ?_
      refine V_iadd d_M_keepEdition_66 ?_
      refine ek_v (P := fun z => V g m_M_keepEdition 0 0 0 0 _ _ z _ _) (show _ = [Value.int (nI (8 * j + 1)), .ref (B 23), .int (nI (8 * n + j)), .ref (B 8)] by rw [← e1]) ?_
      refine Miald d_M_keepEdition_67 hM (by decide) (by exact q1) ?_
      refine Miast d_M_keepEdition_68 hM (by decide) (by exact i32) (fun m hM => ?_)
      first | refine V_aload_n d_M_keepEdition_69 rfl rfl ?_ | refine V_aloadN_n d_M_keepEdition_69 rfl rfl ?_
      refine Vget fl_M_41 d_M_keepEdition_70 hM.1 rfl ?_
      refine V_iload d_M_keepEdition_73 rfl ?_
      first | refine V_aload_n d_M_keepEdition_75 rfl rfl ?_ | refine V_aloadN_n d_M_keepEdition_75 rfl rfl ?_
      refine Vget fl_M_80 d_M_keepEdition_76 hM.1 rfl ?_
      refine V_bipush (v := 8) d_M_keepEdition_79 (by decide) ?_
      refine V_iload_n d_M_keepEdition_81 rfl rfl ?_
      refine V_imul d_M_keepEdition_82 ?_
      refine V_iconst (v := 2) d_M_keepEdition_83 (by decide) ?_
      refine V_iadd d_M_keepEdition_84 ?_
      refine ek_v (P := fun z => V g m_M_keepEdition 0 0 0 0 _ _ z _ _) (show _ = [Value.int (nI (8 * j + 2)), .ref (B 23), .int (nI (8 * n + j)), .ref (B 10)] by rw [← e2]) ?_
      refine Miald d_M_keepEdition_85 hM (by decide) (by exact q2) ?_
      refine Miast d_M_keepEdition_86 hM (by decide) (by exact i32) (fun m hM => ?_)
      first | refine V_aload_n d_M_keepEdition_87 rfl rfl ?_ | refine V_aloadN_n d_M_keepEdition_87 rfl rfl ?_
      refine Vget fl_M_44 d_M_keepEdition_88 hM.1 rfl ?_
      refine V_iload d_M_keepEdition_91 rfl ?_
      first | refine V_aload_n d_M_keepEdition_93 rfl rfl ?_ | refine V_aloadN_n d_M_keepEdition_93 rfl rfl ?_
      refine Vget fl_M_80 d_M_keepEdition_94 hM.1 rfl ?_
      refine V_bipush (v := 8) d_M_keepEdition_97 (by decide) ?_
      refine V_iload_n d_M_keepEdition_99 rfl rfl ?_
      refine V_imul d_M_keepEdition_100 ?_
      refine V_iconst (v := 3) d_M_keepEdition_101 (by decide) ?_
      refine V_iadd d_M_keepEdition_102 ?_
      refine ek_v (P := fun z => V g m_M_keepEdition 0 0 0 0 _ _ z _ _) (show _ = [Value.int (nI (8 * j + 3)), .ref (B 23), .int (nI (8 * n + j)), .ref (B 11)] by rw [← e3]) ?_
      refine Miald d_M_keepEdition_103 hM (by decide) (by exact q3) ?_
      refine Miast d_M_keepEdition_104 hM (by decide) (by exact i32) (fun m hM => ?_)
      first | refine V_aload_n d_M_keepEdition_105 rfl rfl ?_ | refine V_aloadN_n d_M_keepEdition_105 rfl rfl ?_
      refine Vget fl_M_38 d_M_keepEdition_106 hM.1 rfl ?_
      refine V_iload d_M_keepEdition_109 rfl ?_
      first | refine V_aload_n d_M_keepEdition_111 rfl rfl ?_ | refine V_aloadN_n d_M_keepEdition_111 rfl rfl ?_
      refine Vget fl_M_80 d_M_keepEdition_112 hM.1 rfl ?_
      refine V_bipush (v := 8) d_M_keepEdition_115 (by decide) ?_
      refine V_iload_n d_M_keepEdition_117 rfl rfl ?_
      refine V_imul d_M_keepEdition_118 ?_
      refine V_iconst (v := 4) d_M_keepEdition_119 (by decide) ?_
      refine V_iadd d_M_keepEdition_120 ?_
      refine ek_v (P := fun z => V g m_M_keepEdition 0 0 0 0 _ _ z _ _) (show _ = [Value.int (nI (8 * j + 4)), .ref (B 23), .int (nI (8 * n + j)), .ref (B 9)] by rw [← e4]) ?_
      refine Miald d_M_keepEdition_121 hM (by decide) (by exact q4) ?_
      refine V_iconst (v := 1) d_M_keepEdition_122 (by decide) ?_
      refine V_ior d_M_keepEdition_123 ?_
      refine Miast d_M_keepEdition_124 hM (by decide) (by exact i32) (fun m hM => ?_)
      first | refine V_aload_n d_M_keepEdition_125 rfl rfl ?_ | refine V_aloadN_n d_M_keepEdition_125 rfl rfl ?_
      refine Vget fl_M_47 d_M_keepEdition_126 hM.1 rfl ?_
      refine V_iload d_M_keepEdition_129 rfl ?_
      first | refine V_aload_n d_M_keepEdition_131 rfl rfl ?_ | refine V_aloadN_n d_M_keepEdition_131 rfl rfl ?_
      refine Vget fl_M_80 d_M_keepEdition_132 hM.1 rfl ?_
      refine V_bipush (v := 8) d_M_keepEdition_135 (by decide) ?_
      refine V_iload_n d_M_keepEdition_137 rfl rfl ?_
      refine V_imul d_M_keepEdition_138 ?_
      refine V_iconst (v := 5) d_M_keepEdition_139 (by decide) ?_
      refine V_iadd d_M_keepEdition_140 ?_
      refine ek_v (P := fun z => V g m_M_keepEdition 0 0 0 0 _ _ z _ _) (show _ = [Value.int (nI (8 * j + 5)), .ref (B 23), .int (nI (8 * n + j)), .ref (B 12)] by rw [← e5]) ?_
      refine Miald d_M_keepEdition_141 hM (by decide) (by exact q5) ?_
      refine Miast d_M_keepEdition_142 hM (by decide) (by exact i32) (fun m hM => ?_)
      first | refine V_aload_n d_M_keepEdition_143 rfl rfl ?_ | refine V_aloadN_n d_M_keepEdition_143 rfl rfl ?_
      refine Vget fl_M_50 d_M_keepEdition_144 hM.1 rfl ?_
      refine V_iload d_M_keepEdition_147 rfl ?_
      first | refine V_aload_n d_M_keepEdition_149 rfl rfl ?_ | refine V_aloadN_n d_M_keepEdition_149 rfl rfl ?_
      refine Vget fl_M_80 d_M_keepEdition_150 hM.1 rfl ?_
      refine V_bipush (v := 8) d_M_keepEdition_153 (by decide) ?_
      refine V_iload_n d_M_keepEdition_155 rfl rfl ?_
      refine V_imul d_M_keepEdition_156 ?_
      refine V_bipush (v := 6) d_M_keepEdition_157 (by decide) ?_
      refine V_iadd d_M_keepEdition_159 ?_
      refine ek_v (P := fun z => V g m_M_keepEdition 0 0 0 0 _ _ z _ _) (show _ = [Value.int (nI (8 * j + 6)), .ref (B 23), .int (nI (8 * n + j)), .ref (B 13)] by rw [← e6]) ?_
      refine Miald d_M_keepEdition_160 hM (by decide) (by exact q6) ?_
      refine Miast d_M_keepEdition_161 hM (by decide) (by exact i32) (fun m hM => ?_)
      rw [nI_clamp (by omega), nI_clamp (by omega), nI_clamp (by omega), nI_clamp (by omega), nI_clamp (by omega), nI_clamp (by omega), nI_clamp (by omega), nI_clamp (by omega)] at hM
      change Md g m0 m a B sc (upA (upA (upA (upA (upA (upA (upA ar 7 (8 * n + j) (ar 23 (8 * j))) 8 (8 * n + j) (ar 23 (8 * j + 1))) 10 (8 * n + j) (ar 23 (8 * j + 2))) 11 (8 * n + j) (ar 23 (8 * j + 3))) 9 (8 * n + j) (ar 23 (8 * j + 4) ||| 1)) 12 (8 * n + j) (ar 23 (8 * j + 5))) 13 (8 * n + j) (ar 23 (8 * j + 6))) at hM
      rw [r0, rr 1 (by omega), rr 2 (by omega), rr 3 (by omega), rr 4 (by omega), rr 5 (by omega), rr 6 (by omega)] at hM
      first | refine V_aload_n d_M_keepEdition_162 rfl rfl ?_ | refine V_aloadN_n d_M_keepEdition_162 rfl rfl ?_
      refine Vget fl_M_80 d_M_keepEdition_163 hM.1 rfl ?_
      refine V_bipush (v := 8) d_M_keepEdition_166 (by decide) ?_
      refine V_iload_n d_M_keepEdition_168 rfl rfl ?_
      refine V_imul d_M_keepEdition_169 ?_
      refine V_bipush (v := 7) d_M_keepEdition_170 (by decide) ?_
      refine V_iadd d_M_keepEdition_172 ?_
      refine ek_v (P := fun z => V g m_M_keepEdition 0 0 0 0 _ _ z _ _) (show _ = [Value.int (nI (8 * j + 7)), .ref (B 23)] by rw [← e7]) ?_
      refine Miald d_M_keepEdition_173 hM (by decide) (by exact q7) ?_
      rw [nI_clamp (by omega)]
      have r7 : ∀ z, (upA (upA (upA (upA (upA (upA (upA ar 7 (8 * n + j) (D.2.1 j 0)) 8 (8 * n + j) (D.2.1 j 1)) 10 (8 * n + j) (D.2.1 j 2)) 11 (8 * n + j) (D.2.1 j 3)) 9 (8 * n + j) (D.2.1 j 4 ||| 1)) 12 (8 * n + j) (D.2.1 j 5)) 13 (8 * n + j) (D.2.1 j 6)) 23 z = ar0 23 z := fun z => by
        show ar 23 z = _
        rw [k23]
      rw [r7]
      -- the end of a round
      have nxt : ∀ (o s : Int32) (m : Mm) (x : List (Nat × Value)), Md g m0 m a B sc (upA (upA (upA (upA (upA (upA (upA (upA (upA ar 7 (8 * n + j) (D.2.1 j 0)) 8 (8 * n + j) (D.2.1 j 1)) 10 (8 * n + j) (D.2.1 j 2)) 11 (8 * n + j) (D.2.1 j 3)) 9 (8 * n + j) (D.2.1 j 4 ||| 1)) 12 (8 * n + j) (D.2.1 j 5)) 13 (8 * n + j) (D.2.1 j 6)) 14 (8 * n + j) o) 15 (8 * n + j) s) → (0 < D.2.1 j 8 → o = D.2.1 j 7 ∧ s = D.2.1 j 8 ∧ ¬ D.2.1 j 7 < 0) → (¬ 0 < D.2.1 j 8 → o = -1) → chk [(0, .ref a), (1, .int (nI n)), (3, .int (nI j))] x → V g m_M_keepEdition 0 0 0 0 209 x [] m Fi := by
        intro o s m x hM t1 t2 hx
        refine V_lo _ hx ?_
        refine V_iinc d_M_keepEdition_209 rfl (nI_inc _) rfl ?_
        refine V_goto (tgt := 19) d_M_keepEdition_212 (by decide) ?_
        refine ih (j + 1) _ m _ (by omega) hM ?_ (fun i hi => ?_) h4 h6 ⟨rfl, rfl, rfl, trivial⟩ hF
        · exact kE_up (kE_up (kE_up (kE_up (kE_up (kE_up (kE_up (kE_up (kE_up hE (by decide) (by decide) (by decide) (by omega)) (by decide) (by decide) (by decide) (by omega)) (by decide) (by decide) (by decide) (by omega)) (by decide) (by decide) (by decide) (by omega)) (by decide) (by decide) (by decide) (by omega)) (by decide) (by decide) (by decide) (by omega)) (by decide) (by decide) (by decide) (by omega)) (by decide) (by decide) (by decide) (by omega)) (by decide) (by decide) (by decide) (by omega)
        · by_cases e : i = j
          · subst e
            have u : ∀ (F : Fw) (v : Int32), upd F (8 * n + i) v (8 * n + i) = v := fun F v => if_pos rfl
            refine ⟨u _ _, u _ _, u _ _, u _ _, u _ _, u _ _, u _ _, fun z => ?_, fun z => ?_⟩
            · obtain ⟨z1, z2, z3⟩ := t1 z
              exact ⟨(u _ _).trans z1, (u _ _).trans z2, z3⟩
            · exact (u _ _).trans (t2 z)
          · exact RSv_up (RSv_up (RSv_up (RSv_up (RSv_up (RSv_up (RSv_up (RSv_up (RSv_up (hS i (by omega)) (by omega)) (by omega)) (by omega)) (by omega)) (by omega)) (by omega)) (by omega)) (by omega)) (by omega)
      by_cases h8 : 0 < D.2.1 j 8
      · obtain ⟨k1, k2, k3⟩ := n2 h8
        have u2 := wi_to k2
        have u3 := wi_to k3
        rw [show (0 : Int32).toInt = 0 from rfl, show (23 : Int32).toInt = 23 from rfl] at u2
        rw [show (1 : Int32).toInt = 1 from rfl, show (24 : Int32).toInt = 24 from rfl] at u3
        obtain ⟨u, hu, hu2, -⟩ := nI_ex (x := D.2.1 j 7) (by omega)
        obtain ⟨v, hv, hv2, -⟩ := nI_ex (x := D.2.1 j 8) (by omega)
        rw [k1, hu, hv, show 100 * nI u + nI v = nI (100 * u + v) by rw [show (100 : Int32) = nI 100 from rfl, nI_mulC, nI_add]]
        refine V_istore d_M_keepEdition_174 rfl ?_
        first | refine V_aload_n d_M_keepEdition_176 rfl rfl ?_ | refine V_aloadN_n d_M_keepEdition_176 rfl rfl ?_
        refine Vget fl_M_53 d_M_keepEdition_177 hM.1 rfl ?_
        refine V_iload d_M_keepEdition_180 rfl ?_
        refine V_iload d_M_keepEdition_182 rfl ?_
        refine V_if_ge (tgt := 191) d_M_keepEdition_184 (by decide) (fun h_184 => ?_) (fun h_184 => ?_)
        · refine V_iload d_M_keepEdition_191 rfl ?_
          refine V_bipush (v := 100) d_M_keepEdition_193 (by decide) ?_
          refine V_idiv d_M_keepEdition_195 (by decide) ?_
          refine Miast d_M_keepEdition_196 hM (by decide) (by exact i32) (fun m hM => ?_)
          first | refine V_aload_n d_M_keepEdition_197 rfl rfl ?_ | refine V_aloadN_n d_M_keepEdition_197 rfl rfl ?_
          refine Vget fl_M_56 d_M_keepEdition_198 hM.1 rfl ?_
          refine V_iload d_M_keepEdition_201 rfl ?_
          refine V_iload d_M_keepEdition_203 rfl ?_
          refine V_bipush (v := 100) d_M_keepEdition_205 (by decide) ?_
          refine V_irem d_M_keepEdition_207 (by decide) ?_
          refine Miast d_M_keepEdition_208 hM (by decide) (by exact i32) (fun m hM => ?_)
          rw [nI_clamp (by omega)] at hM
          refine nxt _ _ m _ hM (fun _ => ⟨?_, ?_, ?_⟩) (fun z => absurd h8 z) ⟨rfl, rfl, rfl, trivial⟩
          · rw [hu]
            show nI (100 * u + v) / nI 100 = _
            rw [pk_div (by omega) (by omega) (by omega)]
            exact congrArg nI (by omega)
          · rw [hv]
            show nI (100 * u + v) - nI (100 * u + v) / nI 100 * nI 100 = _
            rw [pk_rem (by omega) (by omega) (by omega)]
            exact congrArg nI (by omega)
          · rw [hu]
            exact nI_pos (by omega)
        · exact absurd (i_nlt (nI_pos (by omega))) h_184
      · rw [n3 h8]
        refine V_istore d_M_keepEdition_174 rfl ?_
        first | refine V_aload_n d_M_keepEdition_176 rfl rfl ?_ | refine V_aloadN_n d_M_keepEdition_176 rfl rfl ?_
        refine Vget fl_M_53 d_M_keepEdition_177 hM.1 rfl ?_
        refine V_iload d_M_keepEdition_180 rfl ?_
        refine V_iload d_M_keepEdition_182 rfl ?_
        refine V_if_ge (tgt := 191) d_M_keepEdition_184 (by decide) (fun h_184 => ?_) (fun h_184 => ?_)
        · exact absurd h_184 (by decide)
        · refine V_iconst (v := -1) d_M_keepEdition_187 (by decide) ?_
          refine V_goto (tgt := 196) d_M_keepEdition_188 (by decide) ?_
          refine Miast d_M_keepEdition_196 hM (by decide) (by exact i32) (fun m hM => ?_)
          first | refine V_aload_n d_M_keepEdition_197 rfl rfl ?_ | refine V_aloadN_n d_M_keepEdition_197 rfl rfl ?_
          refine Vget fl_M_56 d_M_keepEdition_198 hM.1 rfl ?_
          refine V_iload d_M_keepEdition_201 rfl ?_
          refine V_iload d_M_keepEdition_203 rfl ?_
          refine V_bipush (v := 100) d_M_keepEdition_205 (by decide) ?_
          refine V_irem d_M_keepEdition_207 (by decide) ?_
          refine Miast d_M_keepEdition_208 hM (by decide) (by exact i32) (fun m hM => ?_)
          rw [nI_clamp (by omega)] at hM
          exact nxt _ _ m _ hM (fun z => absurd z h8) (fun _ => rfl) ⟨rfl, rfl, rfl, trivial⟩
theorem c_M_keepEdition (hg : GO g) (hM : Md g m0 m a B sc ar) {D : Dst} {n : Nat} (hn : n < 4) (hW : NW sc ar D) (wh : Int32) : CT g m_M_keepEdition 0 0 0 0 [.ref a, .int (nI n), .int wh] m (fun o m' => o = .inl none ∧ ∃ ar', Md g m0 m' a B sc ar' ∧ kE n ar ar' ∧ (¬ wh < 0 → REd ar' n (edN D wh))) := by
  have i4 : vp_in (nI n) 4 := vp_nI hn (by omega)
  have c1 := hW.1
  refine CT_go (lo := [(0, .ref a), (1, .int (nI n)), (2, .int wh)]) rfl rfl rfl rfl hg ?_
  first | refine V_aload_n d_M_keepEdition_0 rfl rfl ?_ | refine V_aloadN_n d_M_keepEdition_0 rfl rfl ?_
  refine Vget fl_M_23 d_M_keepEdition_1 hM.1 rfl ?_
  refine V_iload_n d_M_keepEdition_4 rfl rfl ?_
  refine V_iload_n d_M_keepEdition_5 rfl rfl ?_
  refine Miast d_M_keepEdition_6 hM (by decide) (by assumption) (fun m hM => ?_)
  first | refine V_aload_n d_M_keepEdition_7 rfl rfl ?_ | refine V_aloadN_n d_M_keepEdition_7 rfl rfl ?_
  refine Vget fl_M_29 d_M_keepEdition_8 hM.1 rfl ?_
  refine V_iload_n d_M_keepEdition_11 rfl rfl ?_
  first | refine V_aload_n d_M_keepEdition_12 rfl rfl ?_ | refine V_aloadN_n d_M_keepEdition_12 rfl rfl ?_
  refine Vget fl_M_77 d_M_keepEdition_13 hM.1 rfl ?_
  refine Miast d_M_keepEdition_16 hM (by decide) (by assumption) (fun m hM => ?_)
  rw [nI_clamp (by omega), c1] at hM
  refine V_iconst (v := 0) d_M_keepEdition_17 (by decide) ?_
  refine V_istore_n d_M_keepEdition_18 rfl rfl ?_
  refine l_M_keepA hg hn hW wh D.1 0 _ m _ (by omega) hM (kE_up1 (kE_up1 ⟨fun _ _ _ _ _ => rfl, fun _ _ _ _ _ _ => rfl, fun _ _ => ⟨rfl, rfl, rfl⟩⟩ (by omega)) (by omega)) (fun i hi => absurd hi (Nat.not_lt_zero i)) ?_ ?_ ⟨rfl, rfl, rfl, trivial⟩ (fun m' ar' z1 z2 z3 => ⟨rfl, ar', z1, z2, z3⟩)
  · show upd (ar 4) n wh n = _
    exact if_pos rfl
  · show upd (ar 6) n (nI D.1) n = _
    exact if_pos rfl
end M7
