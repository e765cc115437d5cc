/-! labels and lines -/
theorem znF_rg {f1 f2 f3 : Fw} {c : Int32} : ∀ (m j : Nat), (∀ i, i < j + m → wi (f3 i) 1 9 = true) → znF f1 f2 f3 c m j = 0 ∨ ∃ k, 1 ≤ k ∧ k ≤ 9 ∧ znF f1 f2 f3 c m j = nI k
  | 0, _, _ => Or.inl rfl
  | m + 1, j, h => by
    rw [znF]
    split
    · have q := wi_to (h j (by omega))
      rw [show (1 : Int32).toInt = 1 from rfl, show (9 : Int32).toInt = 9 from rfl] at q
      obtain ⟨k, h1, h2, -⟩ := nI_ex (x := f3 j) (by omega)
      exact Or.inr ⟨k, by omega, by omega, h1⟩
    · exact znF_rg m (j + 1) (fun i hi => h i (by omega))
theorem zC_rg {ar : Ar} {i : Nat} {d : Edd} (h : REd ar i d) (c : Int32) : zC d c = 0 ∨ ∃ k, 1 ≤ k ∧ k ≤ 9 ∧ zC d c = nI k := by
  unfold zC
  rw [Nat.min_eq_left h.2.2.2.2.2.1]
  exact znF_rg _ 0 (fun j hj => (h.2.2.2.2.2.2.2.2 j (by omega)).2.2.2)
theorem edX {n : Nat} {x : Int32} (hn : n ≤ 4) : (wi x 1 (nI n) = true ∧ ∃ i, i < n ∧ x = nI (i + 1) ∧ edO n x = some i) ∨ (wi x 1 (nI n) = false ∧ edO n x = none) := by
  cases hw : wi x 1 (nI n) with
  | true =>
    have q := wi_to hw
    rw [show (1 : Int32).toInt = 1 from rfl, nI_toInt (by omega)] at q
    obtain ⟨k, h1, h2, -⟩ := nI_ex (x := x) (by omega)
    obtain ⟨i, rfl⟩ : ∃ i, k = i + 1 := ⟨k - 1, by omega⟩
    refine Or.inl ⟨rfl, i, by omega, h1, ?_⟩
    rw [h1, edO_nI (by omega), if_pos (by omega)]
  | false =>
    refine Or.inr ⟨rfl, ?_⟩
    cases he : edO n x with
    | none => rfl
    | some i =>
      have hi := edO_lt he
      unfold edO at he
      split at he
      · rename_i h
        obtain ⟨j, hj, rfl⟩ := wi14 h.1
        have h2 := h.2
        rw [nI_sub1, nI_clamp (by omega)] at h2
        have : wi (nI (j + 1)) 1 (nI n) = true := (wi_nI (l := 1) (by omega) (by omega) (by omega)).mpr (by omega)
        rw [hw] at this
        cases this
      · cases he
theorem stA_id {ar : Ar} {k : Nat} : stA ar k (ar k) = ar := by
  funext l
  unfold stA
  by_cases e : l = k
  · rw [if_pos e, e]
  · rw [if_neg e]
theorem dgs3 {w : Nat} (h : w ≤ 999) : dgs w ≤ 3 := by unfold dgs; split; omega; split; omega; split <;> omega
theorem dgs2 {w : Nat} (h : w ≤ 99) : dgs w ≤ 2 := by unfold dgs; split; omega; split <;> omega
theorem num_len {w : Nat} (hw : w < 10000) (s : Sq) : (apNum 37 s (nI w) 1).2 ≤ s.2 + dgs w := by rw [num_eq hw]; exact dn_len _ _ _
theorem num_nn {w : Nat} (hw : w < 10000) {s : Sq} (h : NNs s) : NNs (apNum 37 s (nI w) 1) := by rw [num_eq hw]; exact dn_nn _ _ _ h
theorem wi_ex {x : Int32} {l h : Nat} (hh : h < 2 ^ 31) (hl : l < 2 ^ 31) (q : wi x (nI l) (nI h) = true) : ∃ w, x = nI w ∧ l ≤ w ∧ w ≤ h := by
  have q := wi_to q
  rw [nI_toInt hl, nI_toInt hh] at q
  obtain ⟨k, h1, h2, -⟩ := nI_ex (x := x) (by omega)
  exact ⟨k, h1, by omega, by omega⟩
theorem ckF_c {f h : Nat → Int32} : ∀ (m i : Nat) (v : Int32), (∀ j, j < i + m → f j = h j) → ckF f m i v = ckF h m i v
  | 0, _, _, _ => rfl
  | m + 1, i, v, e => by
    rw [ckF, ckF, e i (by omega)]
    exact ckF_c m (i + 1) _ (fun j hj => e j (by omega))
theorem ckL_c {f h : Nat → Int32} (e : ∀ j, j < 7 → f j = h j) : ckL f = ckL h := by
  unfold ckL
  rw [ckF_c 7 0 0 (fun j hj => e j (by omega))]
theorem sF_at {s : Sq} {j : Nat} (h : j < s.2) (hs : s.2 ≤ 500) : sF s j = s.1 j := by
  unfold sF
  rw [sAt_nI s j (by omega) (by omega), if_pos h]
theorem ckF_nn {f : Nat → Int32} : ∀ (m i w : Nat), i + m ≤ 7 → (∀ j, j < i + m → ∃ u, f j = nI u ∧ u < 1000) → w ≤ 7000 * i → ∃ w', ckF f m i (nI w) = nI w' ∧ w' ≤ 7000 * (i + m)
  | 0, i, w, _, _, hw => ⟨w, rfl, by omega⟩
  | m + 1, i, w, hi, hf, hw => by
    obtain ⟨u, hu, hu2⟩ := hf i (by omega)
    rw [ckF, hu, nI_1, nI_mulC, nI_add]
    have hb : (i + 1) * u ≤ 7 * 1000 := Nat.mul_le_mul (by omega) (by omega)
    obtain ⟨w', h1, h2⟩ := ckF_nn m (i + 1) (w + (i + 1) * u) (by omega) (fun j hj => hf j (by omega)) (by omega)
    exact ⟨w', h1, by omega⟩
theorem ckL_nn {f : Nat → Int32} (hf : ∀ j, j < 7 → ∃ u, f j = nI u ∧ u < 1000) : ∃ u, ckL f = nI u ∧ u < 1000 := by
  obtain ⟨w, h1, h2⟩ := ckF_nn (f := f) 7 0 0 (by omega) (fun j hj => hf j (by omega)) (by omega)
  unfold ckL
  rw [show ckF f 7 0 0 = nI w from h1]
  show ∃ u, nI 65 + (nI w - nI w / nI 26 * nI 26) = nI u ∧ u < 1000
  rw [pk_rem (by omega) (by omega) (by omega), nI_add]
  exact ⟨65 + w % 26, rfl, by omega⟩
/-- signs that are small -/
def SMs (s : Sq) : Prop := ∀ j, j < s.2 → ∃ u, s.1 j = nI u ∧ u < 1000
theorem SM_ap {n : Nat} {s : Sq} {u : Nat} (h : SMs s) (hu : u < 1000) : SMs (apN n s (nI u)) := by
  unfold apN
  split
  · intro j hj
    have hj' : j < s.2 + 1 := hj
    show ∃ w, upd s.1 s.2 (nI u) j = nI w ∧ w < 1000
    unfold upd
    by_cases e : j = s.2
    · rw [if_pos e]; exact ⟨u, rfl, hu⟩
    · rw [if_neg e]; exact h j (by omega)
  · exact h
theorem SM_nn {s : Sq} (h : SMs s) : NNs s := fun j hj => by
  obtain ⟨u, h1, h2⟩ := h j hj
  rw [h1]
  exact nI_pos (by omega)
theorem SM_dn {w : Nat} : ∀ (j P : Nat) (s : Sq), SMs s → SMs (dnF w j P s)
  | 0, _, _, h => h
  | j + 1, P, s, h => by
    rw [dnF, show (48 : Int32) + nI (w / P % 10) = nI (48 + w / P % 10) from nI_add 48 _]
    exact SM_dn j _ _ (SM_ap h (by omega))
theorem dn_eq {w : Nat} : ∀ (j P : Nat) (s : Sq), s.2 + j ≤ 37 → (dnF w j P s).2 = s.2 + j
  | 0, _, _, _ => rfl
  | j + 1, P, s, h => by
    rw [dnF, dn_eq j _ _ (by rw [apN_1 (by omega)]; show s.2 + 1 + j ≤ 37; omega), apN_1 (by omega)]
    show s.2 + 1 + j = _
    omega
section M10
variable {g : GG} {m0 m : Mm} {a : Nat} {B : Nat → Nat} {sc : Fw} {ar : Ar} {tx lb pr : Sq} {n : Nat} {day : Int32} {len : Nat} {ft : Fw} {ed : Nat → Edd}
theorem RM_pr {sc : Fw} {s : Sq} {F : Fw} {code : Int32} (hR : RM sc ar tx lb pr n day len ft ed) (hs : s.2 ≤ 37) (hP : PRl F s) (hN : NNs s) : RM (upd (upd sc 0 code) 31 (nI s.2)) (stA ar 32 F) tx lb s n day len ft ed := ⟨hR.1, hR.2.1, ⟨⟨rfl, hs, hP⟩, hN⟩, hR.2.2.2.1, hR.2.2.2.2.1, hR.2.2.2.2.2.1, hR.2.2.2.2.2.2⟩
set_option maxRecDepth 20000 in
set_option maxHeartbeats 1000000 in
theorem c_M_print (hg : GO g) (hM : Md g m0 m a B sc ar) (hR : RM sc ar tx lb pr n day len ft ed) (x c : Int32) : CT g m_M_print 2 43 0 0 [.ref a, .int x, .int c] m (Pq g m0 a B [xNE] (prtO pr ed c (edO n x)).1 tx lb (prtO pr ed c (edO n x)).2 n day len ft ed) := by
  have hn4 := hR.2.2.2.1.2
  have e3 : sc 3 = nI n := hR.2.2.2.1.1
  -- none such
  have bad : ∀ (x' : List (Nat × Value)), (prtO pr ed c (edO n x)) = (eNE, pr) → chk [(0, .ref a), (1, .int x), (2, .int c)] x' → V g m_M_print 2 43 0 0 24 x' [.int (-1)] m (Pq g m0 a B [xNE] (prtO pr ed c (edO n x)).1 tx lb (prtO pr ed c (edO n x)).2 n day len ft ed) := by
    intro x' he hx
    rw [he]
    refine V_lo _ hx ?_
    refine V_istore_n d_M_print_24 rfl rfl ?_
    first | refine V_aload_n d_M_print_25 rfl rfl ?_ | refine V_aloadN_n d_M_print_25 rfl rfl ?_
    refine V_iload_n d_M_print_26 rfl rfl ?_
    refine V_if_ge (tgt := 34) d_M_print_27 (by decide) (fun h_27 => ?_) (fun h_27 => ?_)
    · exact absurd h_27 (show ¬ (0 : Int32) ≤ -1 by decide)
    · refine V_iconst (v := 1) d_M_print_30 (by decide) ?_
      refine V_goto (tgt := 35) d_M_print_31 (by decide) ?_
      refine Mput (k := 0) pl_M_7 d_M_print_35 hM rfl rfl (fun m hM => ?_)
      first | refine V_aload_n d_M_print_38 rfl rfl ?_ | refine V_aloadN_n d_M_print_38 rfl rfl ?_
      refine Vget fl_M_7 d_M_print_39 hM.1 rfl ?_
      refine V_if_eq (tgt := 47) d_M_print_42 (by decide) (fun h_42 => ?_) (fun h_42 => ?_)
      · exact absurd h_42 (show ¬ (1 : Int32) = 0 by decide)
      · refine V_iconst (v := 0) d_M_print_45 (by decide) ?_
        exact V_iret d_M_print_46 rfl rfl ⟨_, rfl, _, _, hM, hR, (show AG [xNE] eNE 0 1 from ⟨by decide, by decide⟩)⟩
  refine CT_go (lo := [(0, .ref a), (1, .int x), (2, .int c)]) rfl rfl rfl rfl hg ?_
  refine V_iload_n d_M_print_0 rfl rfl ?_
  refine V_iconst (v := 1) d_M_print_1 (by decide) ?_
  first | refine V_aload_n d_M_print_2 rfl rfl ?_ | refine V_aloadN_n d_M_print_2 rfl rfl ?_
  refine Vget fl_M_20 d_M_print_3 hM.1 rfl ?_
  refine ek_v (P := fun z => V g m_M_print 2 43 0 0 _ _ z _ _) (show _ = [Value.int (nI n), .int 1, .int x] by rw [← e3]) ?_
  refine V_callS cb_M_not ms_M_156 rfl rfl d_M_print_6 (c_M_not hg x 1 (nI n)) ⟨by decide, by decide⟩ rfl rfl (Nat.le_of_ble_eq_true rfl) (fun _ _ h => nomatch h.1) (fun v m2 hR => ?_)
  obtain ⟨hv9, e9⟩ := hR
  cases hv9
  subst m2
  rcases edX (x := x) hn4 with ⟨hw, i, hi, rfl, he⟩ | ⟨hw, he⟩
  · have hE := hR.2.2.2.2.2.2 i hi
    rw [hw]
    refine V_if_eq (tgt := 16) d_M_print_9 (by decide) (fun h_9 => ?_) (fun h_9 => ?_)
    · first | refine V_aload_n d_M_print_16 rfl rfl ?_ | refine V_aloadN_n d_M_print_16 rfl rfl ?_
      refine V_iload_n d_M_print_17 rfl rfl ?_
      refine V_iconst (v := 1) d_M_print_18 (by decide) ?_
      refine V_isub d_M_print_19 ?_
      rw [nI_sub1]
      refine V_iload_n d_M_print_20 rfl rfl ?_
      refine VcallV cb_M_find mv_M_170 rfl (ci := 6) rfl rfl d_M_print_21 (c_M_find hg hM (by omega) hE c) ⟨by decide, by decide⟩ rfl hM.1 rfl (Nat.le_of_ble_eq_true rfl) (fun _ _ h => nomatch h.1) (fun v m2 hR => ?_)
      obtain ⟨hv9, e9⟩ := hR
      cases hv9
      subst m2
      cases hf : fndF (ed i).2.1 c (ed i).1 0 with
      | none =>
        exact bad _ (by rw [he, prtO, hf]; rfl) ⟨rfl, rfl, rfl, trivial⟩
      | some j =>
        obtain ⟨-, hj, hvc⟩ := fndF_some hf
        have h8 := hE.2.2.2.2.1
        obtain ⟨⟨r1, r2, r3, r4, r5, r6, r7, r8, r9⟩, s1, s2, s3, s4, s5⟩ := hE.2.2.2.2.2.2.1 j (by omega)
        rw [he, prtO, hf, prtS]
        have hin : vp_in (nI (8 * i + j)) 32 := vp_nI (by omega) (by omega)
        obtain ⟨w2, e2, l2, u2⟩ := wi_ex (l := 1) (h := 1000) (by omega) (by omega) s2
        obtain ⟨w3, e3', l3, u3⟩ := wi_ex (l := 1) (h := 500) (by omega) (by omega) s3
        obtain ⟨w5, e5, l5, u5⟩ := wi_ex (l := 0) (h := 999) (by omega) (by omega) s4
        obtain ⟨w6, e6, l6, u6⟩ := wi_ex (l := 0) (h := 99) (by omega) (by omega) s5
        obtain ⟨w0, e0, l0, u0⟩ := wi_ex (l := 65) (h := 90) (by omega) (by omega) s1
        have d2 := dgs_le (w := w2)
        have d3 := dgs3 (w := w3) (by omega)
        have d5 := dgs3 (w := w5) (by omega)
        have d6 := dgs2 (w := w6) (by omega)
        refine V_istore_n (x := nI (8 * i + j)) d_M_print_24 rfl rfl ?_
        first | refine V_aload_n d_M_print_25 rfl rfl ?_ | refine V_aloadN_n d_M_print_25 rfl rfl ?_
        refine V_iload_n d_M_print_26 rfl rfl ?_
        refine V_if_ge (tgt := 34) d_M_print_27 (by decide) (fun h_27 => ?_) (fun h_27 => ?_)
        · refine V_iconst (v := 0) d_M_print_34 (by decide) ?_
          refine Mput (k := 0) pl_M_7 d_M_print_35 hM rfl rfl (fun m hM => ?_)
          first | refine V_aload_n d_M_print_38 rfl rfl ?_ | refine V_aloadN_n d_M_print_38 rfl rfl ?_
          refine Vget fl_M_7 d_M_print_39 hM.1 rfl ?_
          refine V_if_eq (tgt := 47) d_M_print_42 (by decide) (fun h_42 => ?_) (fun h_42 => ?_)
          · first | refine V_aload_n d_M_print_47 rfl rfl ?_ | refine V_aloadN_n d_M_print_47 rfl rfl ?_
            refine V_iconst (v := 0) d_M_print_48 (by decide) ?_
            refine Mput (k := 31) pl_M_104 d_M_print_49 hM rfl rfl (fun m hM => ?_)
            have hM1 : Md g m0 m a B (upd (upd sc 0 0) 31 (nI (pr.1, 0).2)) (stA ar 32 (ar 32)) := by rw [stA_id]; exact hM
            have hP1 : PRl (ar 32) (pr.1, 0) := fun j hj => absurd hj (Nat.not_lt_zero j)
            have n0 : NNs (pr.1, 0) := fun j hj => absurd hj (Nat.not_lt_zero j)
            clear hM
            have hM := hM1
            -- the line, sign by sign
            have t1 := apN_len (n := 37) (s := (pr.1, 0)) (c := c)
            have n1 := NN_ap (n := 37) (c := c) n0 (by rw [← hvc, e0]; exact nI_pos (by omega))
            first | refine V_aload_n d_M_print_52 rfl rfl ?_ | refine V_aloadN_n d_M_print_52 rfl rfl ?_
            refine V_iload_n d_M_print_53 rfl rfl ?_
            refine VcallV cb_M_put mv_M_153 rfl (ci := 6) rfl rfl d_M_print_54 (c_M_put hg hM hP1 (show 0 < 37 by omega) c) ⟨by decide, by decide⟩ rfl hM.1 rfl (Nat.le_of_ble_eq_true rfl) (fun _ _ h => nomatch h.1) (fun v m2 hR => ?_)
            obtain ⟨hv9, F, hM, hP⟩ := hR
            cases hv9
            have t1' : (apN 37 (pr.1, 0) c).2 ≤ 1 := t1
            generalize hs1 : apN 37 (pr.1, 0) c = S1 at hM hP n1 t1'
            have t2 := apN_len (n := 37) (s := S1) (c := 58)
            have n2 := NN_ap (n := 37) (c := 58) n1 (by decide)
            first | refine V_aload_n d_M_print_57 rfl rfl ?_ | refine V_aloadN_n d_M_print_57 rfl rfl ?_
            refine V_bipush (v := 58) d_M_print_58 (by decide) ?_
            refine VcallV cb_M_put mv_M_153 rfl (ci := 6) rfl rfl d_M_print_60 (c_M_put hg hM hP (by omega) 58) ⟨by decide, by decide⟩ rfl hM.1 rfl (Nat.le_of_ble_eq_true rfl) (fun _ _ h => nomatch h.1) (fun v m2 hR => ?_)
            obtain ⟨hv9, F, hM, hP⟩ := hR
            cases hv9
            generalize hs2 : apN 37 S1 58 = S2 at hM hP n2 t2
            have t3 := ad_len (set := (ed i).2.1 j 1) 9 1 S2
            have n3 := ad_nn (set := (ed i).2.1 j 1) 9 1 S2 (by omega) n2
            first | refine V_aload_n d_M_print_63 rfl rfl ?_ | refine V_aloadN_n d_M_print_63 rfl rfl ?_
            first | refine V_aload_n d_M_print_64 rfl rfl ?_ | refine V_aloadN_n d_M_print_64 rfl rfl ?_
            refine Vget fl_M_35 d_M_print_65 hM.1 rfl ?_
            refine V_iload_n d_M_print_68 rfl rfl ?_
            refine Miald d_M_print_69 hM (by decide) (by exact hin) ?_
            rw [nI_clamp (by omega), show (stA ar 32 F) 8 (8 * i + j) = (ed i).2.1 j 1 from r2]
            refine VcallV cb_M_putBits mv_M_184 rfl (ci := 6) rfl rfl d_M_print_70 (c_M_putBits hg hM hP (by omega) (set := (ed i).2.1 j 1) (fun _ _ _ => rfl)) ⟨by decide, by decide⟩ rfl hM.1 rfl (Nat.le_of_ble_eq_true rfl) (fun _ _ h => nomatch h.1) (fun v m2 hR => ?_)
            obtain ⟨hv9, F, hM, hP⟩ := hR
            cases hv9
            change NNs (apSet 37 S2 ((ed i).2.1 j 1)) at n3
            change (apSet 37 S2 ((ed i).2.1 j 1)).2 ≤ _ at t3
            generalize hs3 : apSet 37 S2 ((ed i).2.1 j 1) = S3 at hM hP n3 t3
            have t4 := apN_len (n := 37) (s := S3) (c := 58)
            have n4 := NN_ap (n := 37) (c := 58) n3 (by decide)
            first | refine V_aload_n d_M_print_73 rfl rfl ?_ | refine V_aloadN_n d_M_print_73 rfl rfl ?_
            refine V_bipush (v := 58) d_M_print_74 (by decide) ?_
            refine VcallV cb_M_put mv_M_153 rfl (ci := 6) rfl rfl d_M_print_76 (c_M_put hg hM hP (by omega) 58) ⟨by decide, by decide⟩ rfl hM.1 rfl (Nat.le_of_ble_eq_true rfl) (fun _ _ h => nomatch h.1) (fun v m2 hR => ?_)
            obtain ⟨hv9, F, hM, hP⟩ := hR
            cases hv9
            generalize hs4 : apN 37 S3 58 = S4 at hM hP n4 t4
            have t5 := num_len (w := w2) (by omega) S4
            have n5 := num_nn (w := w2) (by omega) n4
            first | refine V_aload_n d_M_print_79 rfl rfl ?_ | refine V_aloadN_n d_M_print_79 rfl rfl ?_
            first | refine V_aload_n d_M_print_80 rfl rfl ?_ | refine V_aloadN_n d_M_print_80 rfl rfl ?_
            refine Vget fl_M_41 d_M_print_81 hM.1 rfl ?_
            refine V_iload_n d_M_print_84 rfl rfl ?_
            refine Miald d_M_print_85 hM (by decide) (by exact hin) ?_
            rw [nI_clamp (by omega), show (stA ar 32 F) 10 (8 * i + j) = nI w2 from r4.trans e2]
            refine VcallV cb_M_putNumber mv_M_187 rfl (ci := 6) rfl rfl d_M_print_86 (c_M_putNumber hg hM hP (by omega) (by omega)) ⟨by decide, by decide⟩ rfl hM.1 rfl (Nat.le_of_ble_eq_true rfl) (fun _ _ h => nomatch h.1) (fun v m2 hR => ?_)
            obtain ⟨hv9, F, hM, hP⟩ := hR
            cases hv9
            generalize hs5 : apNum 37 S4 (nI w2) 1 = S5 at hM hP n5 t5
            have t6 := apN_len (n := 37) (s := S5) (c := 58)
            have n6 := NN_ap (n := 37) (c := 58) n5 (by decide)
            first | refine V_aload_n d_M_print_89 rfl rfl ?_ | refine V_aloadN_n d_M_print_89 rfl rfl ?_
            refine V_bipush (v := 58) d_M_print_90 (by decide) ?_
            refine VcallV cb_M_put mv_M_153 rfl (ci := 6) rfl rfl d_M_print_92 (c_M_put hg hM hP (by omega) 58) ⟨by decide, by decide⟩ rfl hM.1 rfl (Nat.le_of_ble_eq_true rfl) (fun _ _ h => nomatch h.1) (fun v m2 hR => ?_)
            obtain ⟨hv9, F, hM, hP⟩ := hR
            cases hv9
            generalize hs6 : apN 37 S5 58 = S6 at hM hP n6 t6
            have t7 := num_len (w := w3) (by omega) S6
            have n7 := num_nn (w := w3) (by omega) n6
            first | refine V_aload_n d_M_print_95 rfl rfl ?_ | refine V_aloadN_n d_M_print_95 rfl rfl ?_
            first | refine V_aload_n d_M_print_96 rfl rfl ?_ | refine V_aloadN_n d_M_print_96 rfl rfl ?_
            refine Vget fl_M_44 d_M_print_97 hM.1 rfl ?_
            refine V_iload_n d_M_print_100 rfl rfl ?_
            refine Miald d_M_print_101 hM (by decide) (by exact hin) ?_
            rw [nI_clamp (by omega), show (stA ar 32 F) 11 (8 * i + j) = nI w3 from r5.trans e3']
            refine VcallV cb_M_putNumber mv_M_187 rfl (ci := 6) rfl rfl d_M_print_102 (c_M_putNumber hg hM hP (by omega) (by omega)) ⟨by decide, by decide⟩ rfl hM.1 rfl (Nat.le_of_ble_eq_true rfl) (fun _ _ h => nomatch h.1) (fun v m2 hR => ?_)
            obtain ⟨hv9, F, hM, hP⟩ := hR
            cases hv9
            generalize hs7 : apNum 37 S6 (nI w3) 1 = S7 at hM hP n7 t7
            have t8 := apN_len (n := 37) (s := S7) (c := 58)
            have n8 := NN_ap (n := 37) (c := 58) n7 (by decide)
            first | refine V_aload_n d_M_print_105 rfl rfl ?_ | refine V_aloadN_n d_M_print_105 rfl rfl ?_
            refine V_bipush (v := 58) d_M_print_106 (by decide) ?_
            refine VcallV cb_M_put mv_M_153 rfl (ci := 6) rfl rfl d_M_print_108 (c_M_put hg hM hP (by omega) 58) ⟨by decide, by decide⟩ rfl hM.1 rfl (Nat.le_of_ble_eq_true rfl) (fun _ _ h => nomatch h.1) (fun v m2 hR => ?_)
            obtain ⟨hv9, F, hM, hP⟩ := hR
            cases hv9
            generalize hs8 : apN 37 S7 58 = S8 at hM hP n8 t8
            have t9 := ad_len (set := (ed i).2.1 j 4) 9 1 S8
            have n9 := ad_nn (set := (ed i).2.1 j 4) 9 1 S8 (by omega) n8
            first | refine V_aload_n d_M_print_111 rfl rfl ?_ | refine V_aloadN_n d_M_print_111 rfl rfl ?_
            first | refine V_aload_n d_M_print_112 rfl rfl ?_ | refine V_aloadN_n d_M_print_112 rfl rfl ?_
            refine Vget fl_M_38 d_M_print_113 hM.1 rfl ?_
            refine V_iload_n d_M_print_116 rfl rfl ?_
            refine Miald d_M_print_117 hM (by decide) (by exact hin) ?_
            rw [nI_clamp (by omega), show (stA ar 32 F) 9 (8 * i + j) = (ed i).2.1 j 4 ||| 1 from r3]
            refine VcallV cb_M_putBits mv_M_184 rfl (ci := 6) rfl rfl d_M_print_118 (c_M_putBits hg hM hP (by omega) (set := (ed i).2.1 j 4) (fun k k1 k9 => by rw [bitO (by omega), decide_eq_false (by omega), Bool.or_false])) ⟨by decide, by decide⟩ rfl hM.1 rfl (Nat.le_of_ble_eq_true rfl) (fun _ _ h => nomatch h.1) (fun v m2 hR => ?_)
            obtain ⟨hv9, F, hM, hP⟩ := hR
            cases hv9
            change NNs (apSet 37 S8 ((ed i).2.1 j 4)) at n9
            change (apSet 37 S8 ((ed i).2.1 j 4)).2 ≤ _ at t9
            generalize hs9 : apSet 37 S8 ((ed i).2.1 j 4) = S9 at hM hP n9 t9
            have t10 := apN_len (n := 37) (s := S9) (c := 58)
            have n10 := NN_ap (n := 37) (c := 58) n9 (by decide)
            first | refine V_aload_n d_M_print_121 rfl rfl ?_ | refine V_aloadN_n d_M_print_121 rfl rfl ?_
            refine V_bipush (v := 58) d_M_print_122 (by decide) ?_
            refine VcallV cb_M_put mv_M_153 rfl (ci := 6) rfl rfl d_M_print_124 (c_M_put hg hM hP (by omega) 58) ⟨by decide, by decide⟩ rfl hM.1 rfl (Nat.le_of_ble_eq_true rfl) (fun _ _ h => nomatch h.1) (fun v m2 hR => ?_)
            obtain ⟨hv9, F, hM, hP⟩ := hR
            cases hv9
            generalize hs10 : apN 37 S9 58 = S10 at hM hP n10 t10
            have t11 := num_len (w := w5) (by omega) S10
            have n11 := num_nn (w := w5) (by omega) n10
            first | refine V_aload_n d_M_print_127 rfl rfl ?_ | refine V_aloadN_n d_M_print_127 rfl rfl ?_
            first | refine V_aload_n d_M_print_128 rfl rfl ?_ | refine V_aloadN_n d_M_print_128 rfl rfl ?_
            refine Vget fl_M_47 d_M_print_129 hM.1 rfl ?_
            refine V_iload_n d_M_print_132 rfl rfl ?_
            refine Miald d_M_print_133 hM (by decide) (by exact hin) ?_
            rw [nI_clamp (by omega), show (stA ar 32 F) 12 (8 * i + j) = nI w5 from r6.trans e5]
            refine VcallV cb_M_putNumber mv_M_187 rfl (ci := 6) rfl rfl d_M_print_134 (c_M_putNumber hg hM hP (by omega) (by omega)) ⟨by decide, by decide⟩ rfl hM.1 rfl (Nat.le_of_ble_eq_true rfl) (fun _ _ h => nomatch h.1) (fun v m2 hR => ?_)
            obtain ⟨hv9, F, hM, hP⟩ := hR
            cases hv9
            generalize hs11 : apNum 37 S10 (nI w5) 1 = S11 at hM hP n11 t11
            have t12 := apN_len (n := 37) (s := S11) (c := 43)
            have n12 := NN_ap (n := 37) (c := 43) n11 (by decide)
            first | refine V_aload_n d_M_print_137 rfl rfl ?_ | refine V_aloadN_n d_M_print_137 rfl rfl ?_
            refine V_bipush (v := 43) d_M_print_138 (by decide) ?_
            refine VcallV cb_M_put mv_M_153 rfl (ci := 6) rfl rfl d_M_print_140 (c_M_put hg hM hP (by omega) 43) ⟨by decide, by decide⟩ rfl hM.1 rfl (Nat.le_of_ble_eq_true rfl) (fun _ _ h => nomatch h.1) (fun v m2 hR => ?_)
            obtain ⟨hv9, F, hM, hP⟩ := hR
            cases hv9
            generalize hs12 : apN 37 S11 43 = S12 at hM hP n12 t12
            have t13 := num_len (w := w6) (by omega) S12
            have n13 := num_nn (w := w6) (by omega) n12
            first | refine V_aload_n d_M_print_143 rfl rfl ?_ | refine V_aloadN_n d_M_print_143 rfl rfl ?_
            first | refine V_aload_n d_M_print_144 rfl rfl ?_ | refine V_aloadN_n d_M_print_144 rfl rfl ?_
            refine Vget fl_M_50 d_M_print_145 hM.1 rfl ?_
            refine V_iload_n d_M_print_148 rfl rfl ?_
            refine Miald d_M_print_149 hM (by decide) (by exact hin) ?_
            rw [nI_clamp (by omega), show (stA ar 32 F) 13 (8 * i + j) = nI w6 from r7.trans e6]
            refine VcallV cb_M_putNumber mv_M_187 rfl (ci := 6) rfl rfl d_M_print_150 (c_M_putNumber hg hM hP (by omega) (by omega)) ⟨by decide, by decide⟩ rfl hM.1 rfl (Nat.le_of_ble_eq_true rfl) (fun _ _ h => nomatch h.1) (fun v m2 hR => ?_)
            obtain ⟨hv9, F, hM, hP⟩ := hR
            cases hv9
            have hL : wLine 37 ((ed i).2.1 j) (pr.1, 0) = apNum 37 S12 (nI w6) 1 := by
              unfold wLine
              rw [hvc, hs1, hs2, hs3, hs4, e2, hs5, hs6, e3', hs7, hs8, hs9, hs10, e5, hs11, hs12, e6]
            first | refine V_aload_n d_M_print_153 rfl rfl ?_ | refine V_aloadN_n d_M_print_153 rfl rfl ?_
            refine Vget fl_M_104 d_M_print_154 hM.1 rfl ?_
            refine V_iret d_M_print_157 rfl rfl ⟨_, rfl, _, _, hM, ?_, ?_⟩
            · rw [hL]
              exact RM_pr ‹RM sc ar tx lb pr n day len ft ed› (by omega) hP n13
            · rw [hL]
              exact ⟨rfl, rfl⟩
          · exact absurd rfl h_42
        · exact absurd (i_nlt (nI_pos (by omega))) h_27
    · exact absurd rfl h_9
  · rw [hw]
    refine V_if_eq (tgt := 16) d_M_print_9 (by decide) (fun h_9 => ?_) (fun h_9 => ?_)
    · exact absurd h_9 (show ¬ bi (!false) = 0 by decide)
    · refine V_iconst (v := -1) d_M_print_12 (by decide) ?_
      refine V_goto (tgt := 24) d_M_print_13 (by decide) ?_
      exact bad _ (by rw [he]; rfl) ⟨rfl, rfl, rfl, trivial⟩
end M10
