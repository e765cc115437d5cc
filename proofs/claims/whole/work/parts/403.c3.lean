/-! Signs: numbers and sets of digits; Service -/
def anS (n : Nat) (x least : Int32) (s : Sq) (P D : Int32) : Sq := if P ≤ x ∨ ¬ least < D then apN n s (48 + (x / P - x / P / 10 * 10)) else s
def apNum (n : Nat) (s : Sq) (x least : Int32) : Sq := anS n x least (anS n x least (anS n x least (anS n x least s 1000 4) 100 3) 10 2) 1 1
theorem anS_le {n : Nat} {x least P D : Int32} {s : Sq} (h : s.2 ≤ n) : (anS n x least s P D).2 ≤ n := by
  unfold anS
  split
  · exact apN_le h
  · exact h
def adF (n : Nat) (set : Int32) : Nat → Nat → Sq → Sq
  | 0, _, s => s
  | j + 1, k, s => adF n set j (k + 1) (if hasD set (nI k) = true then apN n s (48 + nI k) else s)
theorem adF_le {n : Nat} {set : Int32} : ∀ (j k : Nat) (s : Sq), s.2 ≤ n → (adF n set j k s).2 ≤ n
  | 0, _, _, h => h
  | j + 1, k, s, h => adF_le j (k + 1) _ (by split; exact apN_le h; exact h)
def apSet (n : Nat) (s : Sq) (set : Int32) : Sq := adF n set 9 1 s
theorem i_le_lt {x y : Int32} (h : x ≤ y) : ¬ y < x := by
  rw [Int32.le_iff_toInt_le] at h
  rw [Int32.lt_iff_toInt_lt]
  omega
theorem i_nle {x y : Int32} (h : ¬ x ≤ y) : y < x := by
  rw [Int32.le_iff_toInt_le] at h
  rw [Int32.lt_iff_toInt_lt]
  omega
theorem i_nlt {x y : Int32} (h : ¬ x < y) : y ≤ x := by
  rw [Int32.lt_iff_toInt_lt] at h
  rw [Int32.le_iff_toInt_le]
  omega
section C3
variable {g : GG}
theorem c_G_app (hg : GO g) {mm : Mm} {a r n : Nat} {s0 : Sq} (h : Sgm g mm a r n s0) (s : Sq) (hs : s.2 ≤ n) (c : Int32) : CT g m_G_append 0 0 0 0 [.ref a, .int c] (sgUp g mm a r n s) (Re (some (.int (bi (decide (s.2 < n))))) (sgUp g mm a r n (apN n s c))) := by
  have k := c_G_append hg (h.up hs) c
  rw [sgUp_up h.ne] at k
  exact k
set_option maxRecDepth 20000 in
/-- one turn of appendNumber's loop -/
theorem l_G_appendNumber (hg : GO g) {mm : Mm} {a r n : Nat} {s0 : Sq} (h : Sgm g mm a r n s0) (s : Sq) (hs : s.2 ≤ n) {x least P D P' D' : Int32} (hP : ¬ P ≤ 0) (hP1 : P / 10 = P') (hD1 : D + Int32.ofInt (-1) = D') {Fi : Ou → Mm → Prop}
    (k : V g m_G_appendNumber 1 21 0 0 7 [(0, .ref a), (1, .int x), (2, .int least), (3, .int D'), (4, .int P')] [] (sgUp g mm a r n (anS n x least s P D)) Fi) : V g m_G_appendNumber 1 21 0 0 7 [(0, .ref a), (1, .int x), (2, .int least), (3, .int D), (4, .int P)] [] (sgUp g mm a r n s) Fi := by
  have hP0 : ¬ P = 0 := fun z => hP (by rw [z]; decide)
  have hne := h.ne
  have hup := (h.up hs).1
  have tail : ∀ s', s' = anS n x least s P D → V g m_G_appendNumber 1 21 0 0 38 [(0, .ref a), (1, .int x), (2, .int least), (3, .int D), (4, .int P)] [] (sgUp g mm a r n s') Fi := by
    intro s' hs'
    subst hs'
    refine V_iinc d_G_appendNumber_38 rfl hD1 rfl ?_
    refine V_iload d_G_appendNumber_41 rfl ?_
    refine V_bipush (v := 10) d_G_appendNumber_43 (by decide) ?_
    refine V_idiv d_G_appendNumber_45 (by decide) ?_
    refine V_istore d_G_appendNumber_46 rfl ?_
    refine V_goto (tgt := 7) d_G_appendNumber_48 (by decide) ?_
    refine V_lo [(0, .ref a), (1, .int x), (2, .int least), (3, .int D'), (4, .int P')] ⟨rfl, rfl, rfl, rfl, by rw [← hP1]; rfl, trivial⟩ k
  have body : (P ≤ x ∨ ¬ least < D) → V g m_G_appendNumber 1 21 0 0 23 [(0, .ref a), (1, .int x), (2, .int least), (3, .int D), (4, .int P)] [] (sgUp g mm a r n s) Fi := by
    intro hc
    first | refine V_aload_n d_G_appendNumber_23 rfl rfl ?_ | refine V_aloadN_n d_G_appendNumber_23 rfl rfl ?_
    refine V_bipush (v := 48) d_G_appendNumber_24 (by decide) ?_
    refine V_iload_n d_G_appendNumber_26 rfl rfl ?_
    refine V_iload d_G_appendNumber_27 rfl ?_
    refine V_idiv d_G_appendNumber_29 hP0 ?_
    refine V_bipush (v := 10) d_G_appendNumber_30 (by decide) ?_
    refine V_irem d_G_appendNumber_32 (by decide) ?_
    refine V_iadd d_G_appendNumber_33 ?_
    refine VcallV cb_G_append mv_G_17 rfl (ci := 4) rfl rfl d_G_appendNumber_34 (c_G_app hg h s hs _) ⟨by decide, by decide⟩ rfl (by repeat first | assumption | apply Ob_s | apply Ob_n) rfl (Nat.le_of_ble_eq_true rfl) (fun _ _ h => nomatch h.1) (fun v m2 hR => ?_)
    obtain ⟨hv9, e9⟩ := hR
    cases hv9
    subst m2
    refine V_pop d_G_appendNumber_37 rfl ?_
    exact tail _ (by rw [anS, if_pos hc])
  refine V_iload d_G_appendNumber_7 rfl ?_
  refine V_if_le (tgt := 51) d_G_appendNumber_9 (by decide) (fun h_9 => ?_) (fun h_9 => ?_)
  · exact absurd h_9 hP
  · refine V_iload_n d_G_appendNumber_12 rfl rfl ?_
    refine V_iload d_G_appendNumber_13 rfl ?_
    refine V_icmp_ge (tgt := 23) d_G_appendNumber_15 (by decide) (fun h_15 => ?_) (fun h_15 => ?_)
    · exact body (Or.inl h_15)
    · refine V_iload_n d_G_appendNumber_18 rfl rfl ?_
      refine V_iload_n d_G_appendNumber_19 rfl rfl ?_
      refine V_icmp_gt (tgt := 38) d_G_appendNumber_20 (by decide) (fun h_20 => ?_) (fun h_20 => ?_)
      · exact tail s (by rw [anS, if_neg (fun z => z.elim h_15 (fun q => q h_20))])
      · exact body (Or.inr h_20)
set_option maxRecDepth 20000 in
theorem c_G_appendNumber (hg : GO g) {mm : Mm} {a r n : Nat} {s0 : Sq} (h : Sgm g mm a r n s0) (s : Sq) (hs : s.2 ≤ n) (x least : Int32) : CT g m_G_appendNumber 1 21 0 0 [.ref a, .int x, .int least] (sgUp g mm a r n s) (Re none (sgUp g mm a r n (apNum n s x least))) := by
  refine CT_go (lo := [(0, .ref a), (1, .int x), (2, .int least)]) rfl rfl rfl rfl hg ?_
  refine V_iconst (v := 4) d_G_appendNumber_0 (by decide) ?_
  refine V_istore_n d_G_appendNumber_1 rfl rfl ?_
  refine V_sipush (v := 1000) d_G_appendNumber_2 (by decide) ?_
  refine V_istore d_G_appendNumber_5 rfl ?_
  refine V_lo [(0, .ref a), (1, .int x), (2, .int least), (3, .int 4), (4, .int 1000)] ⟨rfl, rfl, rfl, rfl, rfl, trivial⟩ ?_
  refine l_G_appendNumber hg h s hs (P' := 100) (D' := 3) (by decide) (by decide) (by decide) ?_
  refine l_G_appendNumber hg h _ (anS_le hs) (P' := 10) (D' := 2) (by decide) (by decide) (by decide) ?_
  refine l_G_appendNumber hg h _ (anS_le (anS_le hs)) (P' := 1) (D' := 1) (by decide) (by decide) (by decide) ?_
  refine l_G_appendNumber hg h _ (anS_le (anS_le (anS_le hs))) (P' := 0) (D' := 0) (by decide) (by decide) (by decide) ?_
  refine V_iload d_G_appendNumber_7 rfl ?_
  refine V_if_le (tgt := 51) d_G_appendNumber_9 (by decide) (fun h_9 => ?_) (fun h_9 => ?_)
  · exact V_vret d_G_appendNumber_51 rfl ⟨rfl, rfl⟩
  · exact absurd (by decide) h_9
theorem apNum_le {n : Nat} {x least : Int32} {s : Sq} (h : s.2 ≤ n) : (apNum n s x least).2 ≤ n := anS_le (anS_le (anS_le (anS_le h)))
theorem apSet_le {n : Nat} {set : Int32} {s : Sq} (h : s.2 ≤ n) : (apSet n s set).2 ≤ n := adF_le _ _ _ h
set_option maxRecDepth 20000 in
theorem l_G_appendDigitSet (hg : GO g) {mm : Mm} {a r n : Nat} {s0 : Sq} (h : Sgm g mm a r n s0) (set : Int32) {Fi : Ou → Mm → Prop} : ∀ (j k : Nat) (s : Sq), s.2 ≤ n → j + k = 10 → Fi (.inl none) (sgUp g mm a r n (adF n set j k s)) → V g m_G_appendDigitSet 2 43 0 0 2 [(0, .ref a), (1, .int set), (2, .int (nI k))] [] (sgUp g mm a r n s) Fi := by
  intro j
  induction j with
  | zero =>
    intro k s hs hk hF
    have hk' : k = 10 := by omega
    subst hk'
    refine V_iload_n d_G_appendDigitSet_2 rfl rfl ?_
    refine V_bipush (v := 9) d_G_appendDigitSet_3 (by decide) ?_
    refine V_icmp_gt (tgt := 31) d_G_appendDigitSet_5 (by decide) (fun h_5 => ?_) (fun h_5 => ?_)
    · exact V_vret d_G_appendDigitSet_31 rfl hF
    · exact absurd (by decide) h_5
  | succ j ih =>
    intro k s hs hk hF
    have hup := (h.up hs).1
    refine V_iload_n d_G_appendDigitSet_2 rfl rfl ?_
    refine V_bipush (v := 9) d_G_appendDigitSet_3 (by decide) ?_
    refine V_icmp_gt (tgt := 31) d_G_appendDigitSet_5 (by decide) (fun h_5 => ?_) (fun h_5 => ?_)
    · exact absurd h_5 (nI_nlt (a := 9) (b := k) (by omega) (by omega))
    · refine V_iload_n d_G_appendDigitSet_8 rfl rfl ?_
      refine V_iload_n d_G_appendDigitSet_9 rfl rfl ?_
      refine V_callS cb_T_hasDigit ms_G_21 rfl rfl d_G_appendDigitSet_10 (c_T_hasDigit hg _ set (nI k)) ⟨by decide, by decide⟩ rfl rfl (Nat.le_of_ble_eq_true rfl) (fun _ _ h => nomatch h.1) (fun v m2 hR => ?_)
      obtain ⟨hv9, e9⟩ := hR
      cases hv9
      subst m2
      refine V_if_eq (tgt := 25) d_G_appendDigitSet_13 (by decide) (fun h_13 => ?_) (fun h_13 => ?_)
      · refine V_iinc d_G_appendDigitSet_25 rfl (nI_inc _) rfl ?_
        refine V_goto (tgt := 2) d_G_appendDigitSet_28 (by decide) ?_
        refine V_lo [(0, .ref a), (1, .int set), (2, .int (nI (k + 1)))] ⟨rfl, rfl, rfl, trivial⟩ ?_
        refine ih (k + 1) s hs (by omega) ?_
        rw [bi_eq0] at h_13
        rw [adF, if_neg (by rw [h_13]; decide)] at hF
        exact hF
      · first | refine V_aload_n d_G_appendDigitSet_16 rfl rfl ?_ | refine V_aloadN_n d_G_appendDigitSet_16 rfl rfl ?_
        refine V_bipush (v := 48) d_G_appendDigitSet_17 (by decide) ?_
        refine V_iload_n d_G_appendDigitSet_19 rfl rfl ?_
        refine V_iadd d_G_appendDigitSet_20 ?_
        refine VcallV cb_G_append mv_G_17 rfl (ci := 4) rfl rfl d_G_appendDigitSet_21 (c_G_app hg h s hs _) ⟨by decide, by decide⟩ rfl (by repeat first | assumption | apply Ob_s | apply Ob_n) rfl (Nat.le_of_ble_eq_true rfl) (fun _ _ h => nomatch h.1) (fun v m2 hR => ?_)
        obtain ⟨hv9, e9⟩ := hR
        cases hv9
        subst m2
        refine V_pop d_G_appendDigitSet_24 rfl ?_
        refine V_iinc d_G_appendDigitSet_25 rfl (nI_inc _) rfl ?_
        refine V_goto (tgt := 2) d_G_appendDigitSet_28 (by decide) ?_
        refine V_lo [(0, .ref a), (1, .int set), (2, .int (nI (k + 1)))] ⟨rfl, rfl, rfl, trivial⟩ ?_
        refine ih (k + 1) _ (apN_le hs) (by omega) ?_
        rw [bi_ne0] at h_13
        rw [adF, if_pos h_13] at hF
        exact hF
theorem c_G_appendDigitSet (hg : GO g) {mm : Mm} {a r n : Nat} {s0 : Sq} (h : Sgm g mm a r n s0) (s : Sq) (hs : s.2 ≤ n) (set : Int32) : CT g m_G_appendDigitSet 2 43 0 0 [.ref a, .int set] (sgUp g mm a r n s) (Re none (sgUp g mm a r n (apSet n s set))) := by
  refine CT_go (lo := [(0, .ref a), (1, .int set)]) rfl rfl rfl rfl hg ?_
  refine V_iconst (v := 1) d_G_appendDigitSet_0 (by decide) ?_
  refine V_istore_n d_G_appendDigitSet_1 rfl rfl ?_
  refine V_lo [(0, .ref a), (1, .int set), (2, .int (nI 1))] ⟨rfl, rfl, rfl, trivial⟩ ?_
  exact l_G_appendDigitSet hg h set 9 1 s hs rfl ⟨rfl, rfl⟩
/-! Service: v 0 its letter, 1 zones, 2 weight, 3 size, 4 classes, 5 base, 6 step, 7 first hour, 8 end -/
def svL (v : Nat → Int32) : List Value := [.int (v 0), .int (v 1), .int (v 2), .int (v 3), .int (v 4), .int (v 5), .int (v 6), .int (v 7), .int (v 8)]
theorem c_S_hasHours (hg : GO g) {mm : Mm} {a : Nat} {v : Nat → Int32} (h : Ob mm a 3 (svL v)) : CT g m_S_hasHours 0 0 0 0 [.ref a] mm (Re (some (.int (bi (decide (0 < v 8))))) mm) := by
  refine CT_go (lo := [(0, .ref a)]) rfl rfl rfl rfl hg ?_
  first | refine V_aload_n d_S_hasHours_0 rfl rfl ?_ | refine V_aloadN_n d_S_hasHours_0 rfl rfl ?_
  refine Vget fl_S_41 d_S_hasHours_1 (by repeat first | assumption | apply Ob_s | apply Ob_n) rfl ?_
  refine V_if_le (tgt := 11) d_S_hasHours_4 (by decide) (fun h_4 => ?_) (fun h_4 => ?_)
  · refine V_iconst (v := 0) d_S_hasHours_11 (by decide) ?_
    exact V_iret d_S_hasHours_12 rfl rfl ⟨by rw [decide_eq_false (fun z => i_le_lt h_4 z)]; rfl, rfl⟩
  · refine V_iconst (v := 1) d_S_hasHours_7 (by decide) ?_
    refine V_goto (tgt := 12) d_S_hasHours_8 (by decide) ?_
    exact V_iret d_S_hasHours_12 rfl rfl ⟨by rw [decide_eq_true (i_nle h_4)]; rfl, rfl⟩
theorem c_S_picksUpIn (hg : GO g) {mm : Mm} {a : Nat} {v : Nat → Int32} (h : Ob mm a 3 (svL v)) (x : Int32) : CT g m_S_picksUpIn 0 0 0 0 [.ref a, .int x] mm (Re (some (.int (bi (!decide (x < v 7) && !decide (v 8 ≤ x))))) mm) := by
  refine CT_go (lo := [(0, .ref a), (1, .int x)]) rfl rfl rfl rfl hg ?_
  refine V_iload_n d_S_picksUpIn_0 rfl rfl ?_
  first | refine V_aload_n d_S_picksUpIn_1 rfl rfl ?_ | refine V_aloadN_n d_S_picksUpIn_1 rfl rfl ?_
  refine Vget fl_S_44 d_S_picksUpIn_2 (by repeat first | assumption | apply Ob_s | apply Ob_n) rfl ?_
  refine V_icmp_lt (tgt := 20) d_S_picksUpIn_5 (by decide) (fun h_5 => ?_) (fun h_5 => ?_)
  · refine V_iconst (v := 0) d_S_picksUpIn_20 (by decide) ?_
    refine V_iret d_S_picksUpIn_21 rfl rfl ?_
    exact ⟨by simp [bi, *], rfl⟩
  · refine V_iload_n d_S_picksUpIn_8 rfl rfl ?_
    first | refine V_aload_n d_S_picksUpIn_9 rfl rfl ?_ | refine V_aloadN_n d_S_picksUpIn_9 rfl rfl ?_
    refine Vget fl_S_41 d_S_picksUpIn_10 (by repeat first | assumption | apply Ob_s | apply Ob_n) rfl ?_
    refine V_icmp_ge (tgt := 20) d_S_picksUpIn_13 (by decide) (fun h_13 => ?_) (fun h_13 => ?_)
    · refine V_iconst (v := 0) d_S_picksUpIn_20 (by decide) ?_
      refine V_iret d_S_picksUpIn_21 rfl rfl ?_
      exact ⟨by simp [bi, *], rfl⟩
    · refine V_iconst (v := 1) d_S_picksUpIn_16 (by decide) ?_
      refine V_goto (tgt := 21) d_S_picksUpIn_17 (by decide) ?_
      refine V_iret d_S_picksUpIn_21 rfl rfl ?_
      exact ⟨by simp [bi, *], rfl⟩
def prc (v : Nat → Int32) (w : Int32) : Int32 := v 5 + v 6 * ((w + 9) / 10)
theorem c_S_priceFor (hg : GO g) {mm : Mm} {a : Nat} {v : Nat → Int32} (h : Ob mm a 3 (svL v)) (w : Int32) : CT g m_S_priceFor 0 0 0 0 [.ref a, .int w] mm (Re (some (.int (prc v w))) mm) := by
  refine CT_go (lo := [(0, .ref a), (1, .int w)]) rfl rfl rfl rfl hg ?_
  first | refine V_aload_n d_S_priceFor_0 rfl rfl ?_ | refine V_aloadN_n d_S_priceFor_0 rfl rfl ?_
  refine Vget fl_S_35 d_S_priceFor_1 (by repeat first | assumption | apply Ob_s | apply Ob_n) rfl ?_
  first | refine V_aload_n d_S_priceFor_4 rfl rfl ?_ | refine V_aloadN_n d_S_priceFor_4 rfl rfl ?_
  refine Vget fl_S_38 d_S_priceFor_5 (by repeat first | assumption | apply Ob_s | apply Ob_n) rfl ?_
  refine V_iload_n d_S_priceFor_8 rfl rfl ?_
  refine V_bipush (v := 9) d_S_priceFor_9 (by decide) ?_
  refine V_iadd d_S_priceFor_11 ?_
  refine V_bipush (v := 10) d_S_priceFor_12 (by decide) ?_
  refine V_idiv d_S_priceFor_14 (by decide) ?_
  refine V_imul d_S_priceFor_15 ?_
  refine V_iadd d_S_priceFor_16 ?_
  refine V_iret d_S_priceFor_17 rfl rfl ?_
  exact ⟨rfl, rfl⟩
theorem c_S_serves (hg : GO g) {mm : Mm} {a : Nat} {v : Nat → Int32} (h : Ob mm a 3 (svL v)) (z : Int32) : CT g m_S_serves 2 43 0 0 [.ref a, .int z] mm (Re (some (.int (bi (hasD (v 1) z)))) mm) := by
  refine CT_go (lo := [(0, .ref a), (1, .int z)]) rfl rfl rfl rfl hg ?_
  first | refine V_aload_n d_S_serves_0 rfl rfl ?_ | refine V_aloadN_n d_S_serves_0 rfl rfl ?_
  refine Vget fl_S_13 d_S_serves_1 (by repeat first | assumption | apply Ob_s | apply Ob_n) rfl ?_
  refine V_iload_n d_S_serves_4 rfl rfl ?_
  refine V_callS cb_T_hasDigit ms_S_16 rfl rfl d_S_serves_5 (c_T_hasDigit hg mm (v 1) z) ⟨by decide, by decide⟩ rfl rfl (Nat.le_of_ble_eq_true rfl) (fun _ _ h => nomatch h.1) (fun v m2 hR => ?_)
  obtain ⟨hv9, e9⟩ := hR
  cases hv9
  subst m2
  exact V_iret d_S_serves_8 rfl (bi_nz _) ⟨rfl, rfl⟩
def tks (v : Nat → Int32) (w s z c : Int32) : Bool := !decide (v 2 < w) && (!decide (v 3 < s) && (hasD (v 1) z && (decide (c = 0) || hasD (v 4) c)))
theorem c_S_takes (hg : GO g) {mm : Mm} {a : Nat} {v : Nat → Int32} (h : Ob mm a 3 (svL v)) (w s z c : Int32) : CT g m_S_takes 3 64 0 0 [.ref a, .int w, .int s, .int z, .int c] mm (Re (some (.int (bi (tks v w s z c)))) mm) := by
  refine CT_go (lo := [(0, .ref a), (1, .int w), (2, .int s), (3, .int z), (4, .int c)]) rfl rfl rfl rfl hg ?_
  refine V_iload_n d_S_takes_0 rfl rfl ?_
  first | refine V_aload_n d_S_takes_1 rfl rfl ?_ | refine V_aloadN_n d_S_takes_1 rfl rfl ?_
  refine Vget fl_S_22 d_S_takes_2 (by repeat first | assumption | apply Ob_s | apply Ob_n) rfl ?_
  refine V_icmp_gt (tgt := 45) d_S_takes_5 (by decide) (fun h_5 => ?_) (fun h_5 => ?_)
  · refine V_iconst (v := 0) d_S_takes_45 (by decide) ?_
    refine V_iret d_S_takes_46 rfl rfl ?_
    exact ⟨by simp [tks, bi, *], rfl⟩
  · refine V_iload_n d_S_takes_8 rfl rfl ?_
    first | refine V_aload_n d_S_takes_9 rfl rfl ?_ | refine V_aloadN_n d_S_takes_9 rfl rfl ?_
    refine Vget fl_S_25 d_S_takes_10 (by repeat first | assumption | apply Ob_s | apply Ob_n) rfl ?_
    refine V_icmp_gt (tgt := 45) d_S_takes_13 (by decide) (fun h_13 => ?_) (fun h_13 => ?_)
    · refine V_iconst (v := 0) d_S_takes_45 (by decide) ?_
      refine V_iret d_S_takes_46 rfl rfl ?_
      exact ⟨by simp [tks, bi, *], rfl⟩
    · first | refine V_aload_n d_S_takes_16 rfl rfl ?_ | refine V_aloadN_n d_S_takes_16 rfl rfl ?_
      refine V_iload_n d_S_takes_17 rfl rfl ?_
      refine VcallV cb_S_serves mv_S_28 rfl (ci := 3) rfl rfl d_S_takes_18 (c_S_serves hg h z) ⟨by decide, by decide⟩ rfl (by repeat first | assumption | apply Ob_s | apply Ob_n) rfl (Nat.le_of_ble_eq_true rfl) (fun _ _ h => nomatch h.1) (fun v m2 hR => ?_)
      obtain ⟨hv9, e9⟩ := hR
      cases hv9
      subst m2
      refine V_if_eq (tgt := 45) d_S_takes_21 (by decide) (fun h_21 => ?_) (fun h_21 => ?_)
      · rw [bi_eq0] at h_21
        refine V_iconst (v := 0) d_S_takes_45 (by decide) ?_
        refine V_iret d_S_takes_46 rfl rfl ?_
        exact ⟨by simp [tks, bi, *], rfl⟩
      · rw [bi_ne0] at h_21
        refine V_iload d_S_takes_24 rfl ?_
        refine V_if_eq (tgt := 41) d_S_takes_26 (by decide) (fun h_26 => ?_) (fun h_26 => ?_)
        · refine V_iconst (v := 1) d_S_takes_41 (by decide) ?_
          refine V_goto (tgt := 46) d_S_takes_42 (by decide) ?_
          refine V_iret d_S_takes_46 rfl rfl ?_
          exact ⟨by simp [tks, bi, *], rfl⟩
        · first | refine V_aload_n d_S_takes_29 rfl rfl ?_ | refine V_aloadN_n d_S_takes_29 rfl rfl ?_
          refine Vget fl_S_32 d_S_takes_30 (by repeat first | assumption | apply Ob_s | apply Ob_n) rfl ?_
          refine V_iload d_S_takes_33 rfl ?_
          refine V_callS cb_T_hasDigit ms_S_16 rfl rfl d_S_takes_35 (c_T_hasDigit hg _ (v 4) c) ⟨by decide, by decide⟩ rfl rfl (Nat.le_of_ble_eq_true rfl) (fun _ _ h => nomatch h.1) (fun v m2 hR => ?_)
          obtain ⟨hv9, e9⟩ := hR
          cases hv9
          subst m2
          refine V_if_eq (tgt := 45) d_S_takes_38 (by decide) (fun h_38 => ?_) (fun h_38 => ?_)
          · rw [bi_eq0] at h_38
            refine V_iconst (v := 0) d_S_takes_45 (by decide) ?_
            refine V_iret d_S_takes_46 rfl rfl ?_
            exact ⟨by simp [tks, bi, *], rfl⟩
          · rw [bi_ne0] at h_38
            refine V_iconst (v := 1) d_S_takes_41 (by decide) ?_
            refine V_goto (tgt := 46) d_S_takes_42 (by decide) ?_
            refine V_iret d_S_takes_46 rfl rfl ?_
            exact ⟨by simp [tks, bi, *], rfl⟩
def wLine (n : Nat) (v : Nat → Int32) (s : Sq) : Sq := apNum n (apN n (apNum n (apN n (apSet n (apN n (apNum n (apN n (apNum n (apN n (apSet n (apN n (apN n s (v 0)) 58) (v 1)) 58) (v 2) 1) 58) (v 3) 1) 58) (v 4)) 58) (v 5) 1) 43) (v 6) 1
set_option maxRecDepth 20000 in
theorem c_S_writeLine (hg : GO g) {mm : Mm} {a b r n : Nat} {v : Nat → Int32} {s0 : Sq} (hv : Ob mm a 3 (svL v)) (h : Sgm g mm b r n s0) (s : Sq) (hs : s.2 ≤ n) : CT g m_S_writeLine 3 65 0 0 [.ref a, .ref b] (sgUp g mm b r n s) (Re none (sgUp g mm b r n (wLine n v s))) := by
  have n1 : a ≠ b := Ob_neC hv h.1 (by decide)
  have n2 : a ≠ r := Ob_neI hv h.2.1
  have n3 := h.ne
  have h1 := h.1
  refine CT_go (lo := [(0, .ref a), (1, .ref b)]) rfl rfl rfl rfl hg ?_
  first | refine V_aload_n d_S_writeLine_0 rfl rfl ?_ | refine V_aloadN_n d_S_writeLine_0 rfl rfl ?_
  first | refine V_aload_n d_S_writeLine_1 rfl rfl ?_ | refine V_aloadN_n d_S_writeLine_1 rfl rfl ?_
  refine Vget fl_S_7 d_S_writeLine_2 (by repeat first | assumption | apply Ob_s | apply Ob_n) rfl ?_
  refine VcallV cb_G_append mv_S_47 rfl (ci := 4) rfl rfl d_S_writeLine_5 (c_G_app hg h s hs _) ⟨by decide, by decide⟩ rfl (by repeat first | assumption | apply Ob_s | apply Ob_n) rfl (Nat.le_of_ble_eq_true rfl) (fun _ _ h => nomatch h.1) (fun v m2 hR => ?_)
  obtain ⟨hv9, e9⟩ := hR
  cases hv9
  subst m2
  refine V_pop d_S_writeLine_8 rfl ?_
  first | refine V_aload_n d_S_writeLine_9 rfl rfl ?_ | refine V_aloadN_n d_S_writeLine_9 rfl rfl ?_
  refine V_bipush (v := 58) d_S_writeLine_10 (by decide) ?_
  refine VcallV cb_G_append mv_S_47 rfl (ci := 4) rfl rfl d_S_writeLine_12 (c_G_app hg h _ (apN_le hs) _) ⟨by decide, by decide⟩ rfl (by repeat first | assumption | apply Ob_s | apply Ob_n) rfl (Nat.le_of_ble_eq_true rfl) (fun _ _ h => nomatch h.1) (fun v m2 hR => ?_)
  obtain ⟨hv9, e9⟩ := hR
  cases hv9
  subst m2
  refine V_pop d_S_writeLine_15 rfl ?_
  first | refine V_aload_n d_S_writeLine_16 rfl rfl ?_ | refine V_aloadN_n d_S_writeLine_16 rfl rfl ?_
  first | refine V_aload_n d_S_writeLine_17 rfl rfl ?_ | refine V_aloadN_n d_S_writeLine_17 rfl rfl ?_
  refine Vget fl_S_13 d_S_writeLine_18 (by repeat first | assumption | apply Ob_s | apply Ob_n) rfl ?_
  refine VcallV cb_G_appendDigitSet mv_S_52 rfl (ci := 4) rfl rfl d_S_writeLine_21 (c_G_appendDigitSet hg h _ (apN_le (apN_le hs)) _) ⟨by decide, by decide⟩ rfl (by repeat first | assumption | apply Ob_s | apply Ob_n) rfl (Nat.le_of_ble_eq_true rfl) (fun _ _ h => nomatch h.1) (fun v m2 hR => ?_)
  obtain ⟨hv9, e9⟩ := hR
  cases hv9
  subst m2
  first | refine V_aload_n d_S_writeLine_24 rfl rfl ?_ | refine V_aloadN_n d_S_writeLine_24 rfl rfl ?_
  refine V_bipush (v := 58) d_S_writeLine_25 (by decide) ?_
  refine VcallV cb_G_append mv_S_47 rfl (ci := 4) rfl rfl d_S_writeLine_27 (c_G_app hg h _ (apSet_le (apN_le (apN_le hs))) _) ⟨by decide, by decide⟩ rfl (by repeat first | assumption | apply Ob_s | apply Ob_n) rfl (Nat.le_of_ble_eq_true rfl) (fun _ _ h => nomatch h.1) (fun v m2 hR => ?_)
  obtain ⟨hv9, e9⟩ := hR
  cases hv9
  subst m2
  refine V_pop d_S_writeLine_30 rfl ?_
  first | refine V_aload_n d_S_writeLine_31 rfl rfl ?_ | refine V_aloadN_n d_S_writeLine_31 rfl rfl ?_
  first | refine V_aload_n d_S_writeLine_32 rfl rfl ?_ | refine V_aloadN_n d_S_writeLine_32 rfl rfl ?_
  refine Vget fl_S_22 d_S_writeLine_33 (by repeat first | assumption | apply Ob_s | apply Ob_n) rfl ?_
  refine V_iconst (v := 1) d_S_writeLine_36 (by decide) ?_
  refine VcallV cb_G_appendNumber mv_S_56 rfl (ci := 4) rfl rfl d_S_writeLine_37 (c_G_appendNumber hg h _ (apN_le (apSet_le (apN_le (apN_le hs)))) _ _) ⟨by decide, by decide⟩ rfl (by repeat first | assumption | apply Ob_s | apply Ob_n) rfl (Nat.le_of_ble_eq_true rfl) (fun _ _ h => nomatch h.1) (fun v m2 hR => ?_)
  obtain ⟨hv9, e9⟩ := hR
  cases hv9
  subst m2
  first | refine V_aload_n d_S_writeLine_40 rfl rfl ?_ | refine V_aloadN_n d_S_writeLine_40 rfl rfl ?_
  refine V_bipush (v := 58) d_S_writeLine_41 (by decide) ?_
  refine VcallV cb_G_append mv_S_47 rfl (ci := 4) rfl rfl d_S_writeLine_43 (c_G_app hg h _ (apNum_le (apN_le (apSet_le (apN_le (apN_le hs))))) _) ⟨by decide, by decide⟩ rfl (by repeat first | assumption | apply Ob_s | apply Ob_n) rfl (Nat.le_of_ble_eq_true rfl) (fun _ _ h => nomatch h.1) (fun v m2 hR => ?_)
  obtain ⟨hv9, e9⟩ := hR
  cases hv9
  subst m2
  refine V_pop d_S_writeLine_46 rfl ?_
  first | refine V_aload_n d_S_writeLine_47 rfl rfl ?_ | refine V_aloadN_n d_S_writeLine_47 rfl rfl ?_
  first | refine V_aload_n d_S_writeLine_48 rfl rfl ?_ | refine V_aloadN_n d_S_writeLine_48 rfl rfl ?_
  refine Vget fl_S_25 d_S_writeLine_49 (by repeat first | assumption | apply Ob_s | apply Ob_n) rfl ?_
  refine V_iconst (v := 1) d_S_writeLine_52 (by decide) ?_
  refine VcallV cb_G_appendNumber mv_S_56 rfl (ci := 4) rfl rfl d_S_writeLine_53 (c_G_appendNumber hg h _ (apN_le (apNum_le (apN_le (apSet_le (apN_le (apN_le hs)))))) _ _) ⟨by decide, by decide⟩ rfl (by repeat first | assumption | apply Ob_s | apply Ob_n) rfl (Nat.le_of_ble_eq_true rfl) (fun _ _ h => nomatch h.1) (fun v m2 hR => ?_)
  obtain ⟨hv9, e9⟩ := hR
  cases hv9
  subst m2
  first | refine V_aload_n d_S_writeLine_56 rfl rfl ?_ | refine V_aloadN_n d_S_writeLine_56 rfl rfl ?_
  refine V_bipush (v := 58) d_S_writeLine_57 (by decide) ?_
  refine VcallV cb_G_append mv_S_47 rfl (ci := 4) rfl rfl d_S_writeLine_59 (c_G_app hg h _ (apNum_le (apN_le (apNum_le (apN_le (apSet_le (apN_le (apN_le hs))))))) _) ⟨by decide, by decide⟩ rfl (by repeat first | assumption | apply Ob_s | apply Ob_n) rfl (Nat.le_of_ble_eq_true rfl) (fun _ _ h => nomatch h.1) (fun v m2 hR => ?_)
  obtain ⟨hv9, e9⟩ := hR
  cases hv9
  subst m2
  refine V_pop d_S_writeLine_62 rfl ?_
  first | refine V_aload_n d_S_writeLine_63 rfl rfl ?_ | refine V_aloadN_n d_S_writeLine_63 rfl rfl ?_
  first | refine V_aload_n d_S_writeLine_64 rfl rfl ?_ | refine V_aloadN_n d_S_writeLine_64 rfl rfl ?_
  refine Vget fl_S_32 d_S_writeLine_65 (by repeat first | assumption | apply Ob_s | apply Ob_n) rfl ?_
  refine VcallV cb_G_appendDigitSet mv_S_52 rfl (ci := 4) rfl rfl d_S_writeLine_68 (c_G_appendDigitSet hg h _ (apN_le (apNum_le (apN_le (apNum_le (apN_le (apSet_le (apN_le (apN_le hs)))))))) _) ⟨by decide, by decide⟩ rfl (by repeat first | assumption | apply Ob_s | apply Ob_n) rfl (Nat.le_of_ble_eq_true rfl) (fun _ _ h => nomatch h.1) (fun v m2 hR => ?_)
  obtain ⟨hv9, e9⟩ := hR
  cases hv9
  subst m2
  first | refine V_aload_n d_S_writeLine_71 rfl rfl ?_ | refine V_aloadN_n d_S_writeLine_71 rfl rfl ?_
  refine V_bipush (v := 58) d_S_writeLine_72 (by decide) ?_
  refine VcallV cb_G_append mv_S_47 rfl (ci := 4) rfl rfl d_S_writeLine_74 (c_G_app hg h _ (apSet_le (apN_le (apNum_le (apN_le (apNum_le (apN_le (apSet_le (apN_le (apN_le hs))))))))) _) ⟨by decide, by decide⟩ rfl (by repeat first | assumption | apply Ob_s | apply Ob_n) rfl (Nat.le_of_ble_eq_true rfl) (fun _ _ h => nomatch h.1) (fun v m2 hR => ?_)
  obtain ⟨hv9, e9⟩ := hR
  cases hv9
  subst m2
  refine V_pop d_S_writeLine_77 rfl ?_
  first | refine V_aload_n d_S_writeLine_78 rfl rfl ?_ | refine V_aloadN_n d_S_writeLine_78 rfl rfl ?_
  first | refine V_aload_n d_S_writeLine_79 rfl rfl ?_ | refine V_aloadN_n d_S_writeLine_79 rfl rfl ?_
  refine Vget fl_S_35 d_S_writeLine_80 (by repeat first | assumption | apply Ob_s | apply Ob_n) rfl ?_
  refine V_iconst (v := 1) d_S_writeLine_83 (by decide) ?_
  refine VcallV cb_G_appendNumber mv_S_56 rfl (ci := 4) rfl rfl d_S_writeLine_84 (c_G_appendNumber hg h _ (apN_le (apSet_le (apN_le (apNum_le (apN_le (apNum_le (apN_le (apSet_le (apN_le (apN_le hs)))))))))) _ _) ⟨by decide, by decide⟩ rfl (by repeat first | assumption | apply Ob_s | apply Ob_n) rfl (Nat.le_of_ble_eq_true rfl) (fun _ _ h => nomatch h.1) (fun v m2 hR => ?_)
  obtain ⟨hv9, e9⟩ := hR
  cases hv9
  subst m2
  first | refine V_aload_n d_S_writeLine_87 rfl rfl ?_ | refine V_aloadN_n d_S_writeLine_87 rfl rfl ?_
  refine V_bipush (v := 43) d_S_writeLine_88 (by decide) ?_
  refine VcallV cb_G_append mv_S_47 rfl (ci := 4) rfl rfl d_S_writeLine_90 (c_G_app hg h _ (apNum_le (apN_le (apSet_le (apN_le (apNum_le (apN_le (apNum_le (apN_le (apSet_le (apN_le (apN_le hs))))))))))) _) ⟨by decide, by decide⟩ rfl (by repeat first | assumption | apply Ob_s | apply Ob_n) rfl (Nat.le_of_ble_eq_true rfl) (fun _ _ h => nomatch h.1) (fun v m2 hR => ?_)
  obtain ⟨hv9, e9⟩ := hR
  cases hv9
  subst m2
  refine V_pop d_S_writeLine_93 rfl ?_
  first | refine V_aload_n d_S_writeLine_94 rfl rfl ?_ | refine V_aloadN_n d_S_writeLine_94 rfl rfl ?_
  first | refine V_aload_n d_S_writeLine_95 rfl rfl ?_ | refine V_aloadN_n d_S_writeLine_95 rfl rfl ?_
  refine Vget fl_S_38 d_S_writeLine_96 (by repeat first | assumption | apply Ob_s | apply Ob_n) rfl ?_
  refine V_iconst (v := 1) d_S_writeLine_99 (by decide) ?_
  refine VcallV cb_G_appendNumber mv_S_56 rfl (ci := 4) rfl rfl d_S_writeLine_100 (c_G_appendNumber hg h _ (apN_le (apNum_le (apN_le (apSet_le (apN_le (apNum_le (apN_le (apNum_le (apN_le (apSet_le (apN_le (apN_le hs)))))))))))) _ _) ⟨by decide, by decide⟩ rfl (by repeat first | assumption | apply Ob_s | apply Ob_n) rfl (Nat.le_of_ble_eq_true rfl) (fun _ _ h => nomatch h.1) (fun v m2 hR => ?_)
  obtain ⟨hv9, e9⟩ := hR
  cases hv9
  subst m2
  exact V_vret d_S_writeLine_103 rfl ⟨rfl, rfl⟩
theorem c_S_init (hg : GO g) {mm : Mm} {a : Nat} {v : Nat → Int32} (h : Ob mm a 3 (svL v)) (c : Int32) : CT g m_S_init 1 20 0 0 [.ref a, .int c] mm (Re none (up mm a (.inr (3, svL (upd v 0 c))))) := by
  refine CT_go (lo := [(0, .ref a), (1, .int c)]) rfl rfl rfl rfl hg ?_
  first | refine V_aload_n d_S_init_0 rfl rfl ?_ | refine V_aloadN_n d_S_init_0 rfl rfl ?_
  refine V_objI oi_S_1 oi_i oi_c d_S_init_1 ⟨by decide, by decide⟩ (Nat.le_of_ble_eq_true rfl) ?_
  first | refine V_aload_n d_S_init_4 rfl rfl ?_ | refine V_aloadN_n d_S_init_4 rfl rfl ?_
  refine V_iload_n d_S_init_5 rfl rfl ?_
  refine VputF pf_S_7 rfl d_S_init_6 (by repeat first | assumption | apply Ob_s | apply Ob_n) rfl rfl (Nat.le_of_ble_eq_true rfl) ?_
  exact V_vret d_S_init_9 rfl ⟨rfl, rfl⟩
end C3
