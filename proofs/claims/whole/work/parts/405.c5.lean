/-! Reader: at place p of the text tx -/
def rdL (ts ed p : Nat) (lk : Int32) : List Value := [.ref ts, .ref ed, .int (nI p), .int lk]
def rdM (mm : Mm) (rd ts ed : Nat) (lk : Int32) (p : Nat) : Mm := up mm rd (.inr (2, rdL ts ed p lk))
def hr (tx : Sq) (p : Nat) : Int32 := if p < tx.2 then tx.1 p else -1
def dg (c : Int32) : Bool := wi c 48 57
/-- what the reader stands on: its cell, the text -/
def Rdr (g : GG) (mm : Mm) (rd ts tr ed : Nat) (lk : Int32) (tx : Sq) : Prop := (∃ p, Ob mm rd 2 (rdL ts ed p lk)) ∧ Sgm g mm ts tr 500 tx
theorem Sgm_n {g : GG} {mm : Mm} {a r n b : Nat} {s : Sq} {e : va_E} (h : Sgm g mm a r n s) (h1 : a ≠ b) (h2 : r ≠ b) : Sgm g (up mm b e) a r n s := ⟨Ob_n h.1 h1, Ia_n h.2.1 h2, h.2.2.1, h.2.2.2⟩
theorem Rdr.ob {g : GG} {mm : Mm} {rd ts tr ed : Nat} {lk : Int32} {tx : Sq} (h : Rdr g mm rd ts tr ed lk tx) (p : Nat) : Ob (rdM mm rd ts ed lk p) rd 2 (rdL ts ed p lk) := by
  obtain ⟨⟨q, h1⟩, -⟩ := h
  exact Ob_s h1
theorem Rdr.sg {g : GG} {mm : Mm} {rd ts tr ed : Nat} {lk : Int32} {tx : Sq} (h : Rdr g mm rd ts tr ed lk tx) (p : Nat) : Sgm g (rdM mm rd ts ed lk p) ts tr 500 tx := by
  obtain ⟨⟨q, h1⟩, h2⟩ := h
  exact Sgm_n h2 (Ob_neC h2.1 h1 (by decide)) (Ne.symm (Ob_neI h1 h2.2.1))
theorem hr_sAt {tx : Sq} {p : Nat} (hp : p < 1000) (h : tx.2 ≤ 500) : sAt tx (nI p) = hr tx p := sAt_nI tx p (by omega) (by omega)
theorem hr_lt {tx : Sq} {p : Nat} (h : hr tx p ≠ -1) : p < tx.2 := by
  by_cases q : p < tx.2
  · exact q
  · exact absurd (by rw [hr, if_neg q]) h
theorem dg_lt {tx : Sq} {p : Nat} (h : dg (hr tx p) = true) : p < tx.2 := hr_lt (fun z => by rw [z] at h; exact absurd h (by decide))
section C5
variable {g : GG}
theorem c_R_here (hg : GO g) {mm : Mm} {rd ts tr ed : Nat} {lk : Int32} {tx : Sq} (h : Rdr g mm rd ts tr ed lk tx) {p : Nat} (hp : p < 1000) : CT g m_R_here 1 21 0 0 [.ref rd] (rdM mm rd ts ed lk p) (Re (some (.int (hr tx p))) (rdM mm rd ts ed lk p)) := by
  have h1 := h.ob p
  have h2 := h.sg p
  have h3 := h2.1
  refine CT_go (lo := [(0, .ref rd)]) rfl rfl rfl rfl hg ?_
  first | refine V_aload_n d_R_here_0 rfl rfl ?_ | refine V_aloadN_n d_R_here_0 rfl rfl ?_
  refine Vget fl_R_9 d_R_here_1 (by repeat first | assumption | apply Ob_s | apply Ob_n) rfl ?_
  first | refine V_aload_n d_R_here_4 rfl rfl ?_ | refine V_aloadN_n d_R_here_4 rfl rfl ?_
  refine Vget fl_R_25 d_R_here_5 (by repeat first | assumption | apply Ob_s | apply Ob_n) rfl ?_
  refine VcallV cb_G_signAt mv_R_120 rfl (ci := 4) rfl rfl d_R_here_8 (c_G_signAt hg h2 (nI p)) ⟨by decide, by decide⟩ rfl (by repeat first | assumption | apply Ob_s | apply Ob_n) rfl (Nat.le_of_ble_eq_true rfl) (fun _ _ h => nomatch h.1) (fun v m2 hR => ?_)
  obtain ⟨hv9, e9⟩ := hR
  cases hv9
  subst m2
  rw [hr_sAt hp h2.2.2.1]
  exact V_iret d_R_here_11 rfl rfl ⟨rfl, rfl⟩
theorem rdM_up {mm : Mm} {rd ts ed : Nat} {lk : Int32} {p q : Nat} : up (rdM mm rd ts ed lk p) rd (.inr (2, [.ref ts, .ref ed, .int (nI q), .int lk])) = rdM mm rd ts ed lk q := up_up
theorem rdM_inc {mm : Mm} {rd ts ed : Nat} {lk : Int32} {p : Nat} : up (rdM mm rd ts ed lk p) rd (.inr (2, [.ref ts, .ref ed, .int (nI p + 1), .int lk])) = rdM mm rd ts ed lk (p + 1) := by
  rw [← nI_succ]
  exact rdM_up
theorem c_R_passes (hg : GO g) {mm : Mm} {rd ts tr ed : Nat} {lk : Int32} {tx : Sq} (h : Rdr g mm rd ts tr ed lk tx) {p : Nat} (hp : p < 1000) (c : Int32) : CT g m_R_passes 2 41 0 0 [.ref rd, .int c] (rdM mm rd ts ed lk p) (Re (some (.int (bi (decide (hr tx p = c))))) (rdM mm rd ts ed lk (if hr tx p = c then p + 1 else p))) := by
  have h1 := h.ob p
  refine CT_go (lo := [(0, .ref rd), (1, .int c)]) rfl rfl rfl rfl hg ?_
  first | refine V_aload_n d_R_passes_0 rfl rfl ?_ | refine V_aloadN_n d_R_passes_0 rfl rfl ?_
  refine VcallV cb_R_here mv_R_37 rfl (ci := 2) rfl rfl d_R_passes_1 (c_R_here hg h hp) ⟨by decide, by decide⟩ rfl (by repeat first | assumption | apply Ob_s | apply Ob_n) rfl (Nat.le_of_ble_eq_true rfl) (fun _ _ h => nomatch h.1) (fun v m2 hR => ?_)
  obtain ⟨hv9, e9⟩ := hR
  cases hv9
  subst m2
  refine V_iload_n d_R_passes_4 rfl rfl ?_
  refine V_icmp_eq (tgt := 10) d_R_passes_5 (by decide) (fun h_5 => ?_) (fun h_5 => ?_)
  · first | refine V_aload_n d_R_passes_10 rfl rfl ?_ | refine V_aloadN_n d_R_passes_10 rfl rfl ?_
    refine V_dup d_R_passes_11 rfl ?_
    refine Vget fl_R_25 d_R_passes_12 (by repeat first | assumption | apply Ob_s | apply Ob_n) rfl ?_
    refine V_iconst (v := 1) d_R_passes_15 (by decide) ?_
    refine V_iadd d_R_passes_16 ?_
    refine Vput pl_R_25 d_R_passes_17 (by repeat first | assumption | apply Ob_s | apply Ob_n) rfl rfl (Nat.le_of_ble_eq_true rfl) ?_
    refine V_iconst (v := 1) d_R_passes_20 (by decide) ?_
    refine V_iret d_R_passes_21 rfl rfl ⟨by rw [decide_eq_true h_5]; rfl, ?_⟩
    rw [if_pos h_5]
    exact rdM_inc
  · refine V_iconst (v := 0) d_R_passes_8 (by decide) ?_
    exact V_iret d_R_passes_9 rfl rfl ⟨by rw [decide_eq_false h_5]; rfl, by rw [if_neg h_5]⟩
def udF (tx : Sq) : Nat → Int32 → Int32 → Nat → Int32 × Nat
  | 0, set, _, p => (set, p)
  | n + 1, set, b, p => if wi (hr tx p) (b + 1) 57 = true then udF tx n (set ||| (1 <<< ((hr tx p - 48) &&& 31))) (hr tx p) (p + 1) else (set, p)
def upD (tx : Sq) (p : Nat) : Int32 × Nat := udF tx 9 0 48 p
set_option maxRecDepth 20000 in
theorem l_R_upwardDigits (hg : GO g) {mm : Mm} {rd ts tr ed : Nat} {lk : Int32} {tx : Sq} (h : Rdr g mm rd ts tr ed lk tx) {Fi : Ou → Mm → Prop} : ∀ (n j : Nat) (set b : Int32) (p : Nat) (x : List (Nat × Value)), n + j = 10 → p + n < 900 → chk [(0, .ref rd), (1, .int set), (2, .int b), (3, .int (nI j))] x → Fi (.inl (some (.int (udF tx n set b p).1))) (rdM mm rd ts ed lk (udF tx n set b p).2) → V g m_R_upwardDigits 2 41 0 0 7 x [] (rdM mm rd ts ed lk p) Fi := by
  intro n
  induction n with
  | zero =>
    intro j set b p x hj hp hx hF
    have hj' : j = 10 := by omega
    subst hj'
    refine V_lo _ hx ?_
    refine V_iload_n d_R_upwardDigits_7 rfl rfl ?_
    refine V_bipush (v := 9) d_R_upwardDigits_8 (by decide) ?_
    refine V_icmp_gt (tgt := 58) d_R_upwardDigits_10 (by decide) (fun h_10 => ?_) (fun h_10 => ?_)
    · refine V_iload_n d_R_upwardDigits_58 rfl rfl ?_
      exact V_iret d_R_upwardDigits_59 rfl rfl hF
    · exact absurd (by decide) h_10
  | succ n ih =>
    intro j set b p x hj hp hx hF
    have h1 := h.ob p
    refine V_lo _ hx ?_
    refine V_iload_n d_R_upwardDigits_7 rfl rfl ?_
    refine V_bipush (v := 9) d_R_upwardDigits_8 (by decide) ?_
    refine V_icmp_gt (tgt := 58) d_R_upwardDigits_10 (by decide) (fun h_10 => ?_) (fun h_10 => ?_)
    · exact absurd h_10 (nI_nlt (a := 9) (b := j) (by omega) (by omega))
    · first | refine V_aload_n d_R_upwardDigits_13 rfl rfl ?_ | refine V_aloadN_n d_R_upwardDigits_13 rfl rfl ?_
      refine VcallV cb_R_here mv_R_37 rfl (ci := 2) rfl rfl d_R_upwardDigits_14 (c_R_here hg h (by omega)) ⟨by decide, by decide⟩ rfl (by repeat first | assumption | apply Ob_s | apply Ob_n) rfl (Nat.le_of_ble_eq_true rfl) (fun _ _ h => nomatch h.1) (fun v m2 hR => ?_)
      obtain ⟨hv9, e9⟩ := hR
      cases hv9
      subst m2
      refine V_iload_n d_R_upwardDigits_17 rfl rfl ?_
      refine V_iconst (v := 1) d_R_upwardDigits_18 (by decide) ?_
      refine V_iadd d_R_upwardDigits_19 ?_
      refine V_bipush (v := 57) d_R_upwardDigits_20 (by decide) ?_
      refine V_callS cb_T_isWithin ms_R_124 rfl rfl d_R_upwardDigits_22 (c_T_isWithin hg _ _ _ _) ⟨by decide, by decide⟩ rfl rfl (Nat.le_of_ble_eq_true rfl) (fun _ _ h => nomatch h.1) (fun v m2 hR => ?_)
      obtain ⟨hv9, e9⟩ := hR
      cases hv9
      subst m2
      refine V_if_eq (tgt := 58) d_R_upwardDigits_25 (by decide) (fun h_25 => ?_) (fun h_25 => ?_)
      · rw [bi_eq0] at h_25
        refine V_iload_n d_R_upwardDigits_58 rfl rfl ?_
        rw [udF, if_neg (by rw [h_25]; decide)] at hF
        exact V_iret d_R_upwardDigits_59 rfl rfl hF
      · rw [bi_ne0] at h_25
        first | refine V_aload_n d_R_upwardDigits_28 rfl rfl ?_ | refine V_aloadN_n d_R_upwardDigits_28 rfl rfl ?_
        refine VcallV cb_R_here mv_R_37 rfl (ci := 2) rfl rfl d_R_upwardDigits_29 (c_R_here hg h (by omega)) ⟨by decide, by decide⟩ rfl (by repeat first | assumption | apply Ob_s | apply Ob_n) rfl (Nat.le_of_ble_eq_true rfl) (fun _ _ h => nomatch h.1) (fun v m2 hR => ?_)
        obtain ⟨hv9, e9⟩ := hR
        cases hv9
        subst m2
        refine V_istore_n d_R_upwardDigits_32 rfl rfl ?_
        refine V_iload_n d_R_upwardDigits_33 rfl rfl ?_
        refine V_iconst (v := 1) d_R_upwardDigits_34 (by decide) ?_
        refine V_iload_n d_R_upwardDigits_35 rfl rfl ?_
        refine V_bipush (v := 48) d_R_upwardDigits_36 (by decide) ?_
        refine V_isub d_R_upwardDigits_38 ?_
        refine V_ishl d_R_upwardDigits_39 ?_
        refine V_ior d_R_upwardDigits_40 ?_
        refine V_istore_n d_R_upwardDigits_41 rfl rfl ?_
        first | refine V_aload_n d_R_upwardDigits_42 rfl rfl ?_ | refine V_aloadN_n d_R_upwardDigits_42 rfl rfl ?_
        refine V_dup d_R_upwardDigits_43 rfl ?_
        refine Vget fl_R_25 d_R_upwardDigits_44 (by repeat first | assumption | apply Ob_s | apply Ob_n) rfl ?_
        refine V_iconst (v := 1) d_R_upwardDigits_47 (by decide) ?_
        refine V_iadd d_R_upwardDigits_48 ?_
        refine Vput pl_R_25 d_R_upwardDigits_49 (by repeat first | assumption | apply Ob_s | apply Ob_n) rfl rfl (Nat.le_of_ble_eq_true rfl) ?_
        refine V_iinc d_R_upwardDigits_52 rfl (nI_inc _) rfl ?_
        refine V_goto (tgt := 7) d_R_upwardDigits_55 (by decide) ?_
        have e1 : up (rdM mm rd ts ed lk p) rd (.inr (2, [.ref ts, .ref ed, .int (nI p + 1), .int lk])) = rdM mm rd ts ed lk (p + 1) := by rw [← nI_succ]; exact rdM_up
        refine ek_v (P := fun z => V g m_R_upwardDigits 2 41 0 0 7 _ [] z Fi) e1 ?_
        refine ih (j + 1) _ _ (p + 1) _ (by omega) (by omega) ⟨rfl, rfl, rfl, rfl, trivial⟩ ?_
        rw [udF, if_pos h_25] at hF
        exact hF
theorem c_R_upwardDigits (hg : GO g) {mm : Mm} {rd ts tr ed : Nat} {lk : Int32} {tx : Sq} (h : Rdr g mm rd ts tr ed lk tx) {p : Nat} (hp : p < 800) : CT g m_R_upwardDigits 2 41 0 0 [.ref rd] (rdM mm rd ts ed lk p) (Re (some (.int (upD tx p).1)) (rdM mm rd ts ed lk (upD tx p).2)) := by
  refine CT_go (lo := [(0, .ref rd)]) rfl rfl rfl rfl hg ?_
  refine V_iconst (v := 0) d_R_upwardDigits_0 (by decide) ?_
  refine V_istore_n d_R_upwardDigits_1 rfl rfl ?_
  refine V_bipush (v := 48) d_R_upwardDigits_2 (by decide) ?_
  refine V_istore_n d_R_upwardDigits_4 rfl rfl ?_
  refine V_iconst (v := 1) d_R_upwardDigits_5 (by decide) ?_
  refine V_istore_n d_R_upwardDigits_6 rfl rfl ?_
  exact l_R_upwardDigits hg h 9 1 0 48 p _ rfl (by omega) ⟨rfl, rfl, rfl, rfl, trivial⟩ ⟨rfl, rfl⟩
def nir (v least most : Int32) (st p : Nat) : Int32 × Nat := if wi v least most = true then (v, p) else (-1, st)
theorem c_R_numberInRange (hg : GO g) {mm : Mm} {rd ts tr ed : Nat} {lk : Int32} {tx : Sq} (h : Rdr g mm rd ts tr ed lk tx) (p q : Nat) (v least most : Int32) : CT g m_R_numberInRange 1 22 0 0 [.ref rd, .int v, .int (nI q), .int least, .int most] (rdM mm rd ts ed lk p) (Re (some (.int (nir v least most q p).1)) (rdM mm rd ts ed lk (nir v least most q p).2)) := by
  have h1 := h.ob p
  refine CT_go (lo := [(0, .ref rd), (1, .int v), (2, .int (nI q)), (3, .int least), (4, .int most)]) rfl rfl rfl rfl hg ?_
  refine V_iload_n d_R_numberInRange_0 rfl rfl ?_
  refine V_iload_n d_R_numberInRange_1 rfl rfl ?_
  refine V_iload d_R_numberInRange_2 rfl ?_
  refine V_callS cb_T_isWithin ms_R_124 rfl rfl d_R_numberInRange_4 (c_T_isWithin hg _ _ _ _) ⟨by decide, by decide⟩ rfl rfl (Nat.le_of_ble_eq_true rfl) (fun _ _ h => nomatch h.1) (fun v m2 hR => ?_)
  obtain ⟨hv9, e9⟩ := hR
  cases hv9
  subst m2
  refine V_if_eq (tgt := 12) d_R_numberInRange_7 (by decide) (fun h_7 => ?_) (fun h_7 => ?_)
  · rw [bi_eq0] at h_7
    first | refine V_aload_n d_R_numberInRange_12 rfl rfl ?_ | refine V_aloadN_n d_R_numberInRange_12 rfl rfl ?_
    refine V_iload_n d_R_numberInRange_13 rfl rfl ?_
    refine Vput pl_R_25 d_R_numberInRange_14 (by repeat first | assumption | apply Ob_s | apply Ob_n) rfl rfl (Nat.le_of_ble_eq_true rfl) ?_
    refine V_iconst (v := -1) d_R_numberInRange_17 (by decide) ?_
    refine V_iret d_R_numberInRange_18 rfl rfl ?_
    rw [nir, if_neg (by rw [h_7]; decide)]
    exact ⟨rfl, rdM_up⟩
  · rw [bi_ne0] at h_7
    refine V_iload_n d_R_numberInRange_10 rfl rfl ?_
    refine V_iret d_R_numberInRange_11 rfl rfl ?_
    rw [nir, if_pos h_7]
    exact ⟨rfl, rfl⟩
def fnL (tx : Sq) (most : Int32) : Nat → Int32 → Nat → Int32 × Nat
  | 0, v, p => (v, p)
  | n + 1, v, p => if dg (hr tx p) = true then fnL tx most n (if most < v then v else v * 10 + hr tx p - 48) (p + 1) else (v, p)
def freeN (tx : Sq) (least most : Int32) (p : Nat) : Int32 × Nat :=
  if hr tx p = 48 ∧ least = 0 then (0, p + 1) else if dg (hr tx p) = false ∨ hr tx p = 48 then (-1, p) else nir (fnL tx most 500 0 p).1 least most p (fnL tx most 500 0 p).2
set_option maxRecDepth 20000 in
theorem l_R_freeNumber (hg : GO g) {mm : Mm} {rd ts tr ed : Nat} {lk : Int32} {tx : Sq} (h : Rdr g mm rd ts tr ed lk tx) (least most : Int32) (q : Nat) {Fi : Ou → Mm → Prop} : ∀ (n j : Nat) (v : Int32) (p : Nat) (x : List (Nat × Value)), n + j = 500 → p ≤ 500 → chk [(0, .ref rd), (1, .int least), (2, .int most), (3, .int (nI q)), (4, .int v), (5, .int (nI j))] x → Fi (.inl (some (.int (nir (fnL tx most n v p).1 least most q (fnL tx most n v p).2).1))) (rdM mm rd ts ed lk (nir (fnL tx most n v p).1 least most q (fnL tx most n v p).2).2) → V g m_R_freeNumber 2 46 0 0 57 x [] (rdM mm rd ts ed lk p) Fi := by
  have hT : tx.2 ≤ 500 := h.2.2.2.1
  intro n
  have fin : ∀ (v : Int32) (j p : Nat), Fi (.inl (some (.int (nir v least most q p).1))) (rdM mm rd ts ed lk (nir v least most q p).2) → V g m_R_freeNumber 2 46 0 0 112 [(0, .ref rd), (1, .int least), (2, .int most), (3, .int (nI q)), (4, .int v), (5, .int (nI j))] [] (rdM mm rd ts ed lk p) Fi := by
    intro v j p hF
    have h1 := h.ob p
    first | refine V_aload_n d_R_freeNumber_112 rfl rfl ?_ | refine V_aloadN_n d_R_freeNumber_112 rfl rfl ?_
    refine V_iload d_R_freeNumber_113 rfl ?_
    refine V_iload_n d_R_freeNumber_115 rfl rfl ?_
    refine V_iload_n d_R_freeNumber_116 rfl rfl ?_
    refine V_iload_n d_R_freeNumber_117 rfl rfl ?_
    refine VcallV cb_R_numberInRange mv_R_131 rfl (ci := 2) rfl rfl d_R_freeNumber_118 (c_R_numberInRange hg h p q v least most) ⟨by decide, by decide⟩ rfl (by repeat first | assumption | apply Ob_s | apply Ob_n) rfl (Nat.le_of_ble_eq_true rfl) (fun _ _ h => nomatch h.1) (fun v m2 hR => ?_)
    obtain ⟨hv9, e9⟩ := hR
    cases hv9
    subst m2
    exact V_iret d_R_freeNumber_121 rfl rfl hF
  induction n with
  | zero =>
    intro j v p x hj hp hx hF
    refine V_lo _ hx ?_
    refine V_iload d_R_freeNumber_57 rfl ?_
    refine V_sipush (v := 500) d_R_freeNumber_59 (by decide) ?_
    refine V_icmp_ge (tgt := 112) d_R_freeNumber_62 (by decide) (fun h_62 => ?_) (fun h_62 => ?_)
    · exact fin v j p hF
    · exact absurd (nI_le (a := 500) (by omega) (by omega)) h_62
  | succ n ih =>
    intro j v p x hj hp hx hF
    have h1 := h.ob p
    refine V_lo _ hx ?_
    refine V_iload d_R_freeNumber_57 rfl ?_
    refine V_sipush (v := 500) d_R_freeNumber_59 (by decide) ?_
    refine V_icmp_ge (tgt := 112) d_R_freeNumber_62 (by decide) (fun h_62 => ?_) (fun h_62 => ?_)
    · exact absurd h_62 (nI_ge (b := 500) (by omega) (by omega))
    · first | refine V_aload_n d_R_freeNumber_65 rfl rfl ?_ | refine V_aloadN_n d_R_freeNumber_65 rfl rfl ?_
      refine VcallV cb_R_here mv_R_37 rfl (ci := 2) rfl rfl d_R_freeNumber_66 (c_R_here hg h (by omega)) ⟨by decide, by decide⟩ rfl (by repeat first | assumption | apply Ob_s | apply Ob_n) rfl (Nat.le_of_ble_eq_true rfl) (fun _ _ h => nomatch h.1) (fun v m2 hR => ?_)
      obtain ⟨hv9, e9⟩ := hR
      cases hv9
      subst m2
      refine V_callS cb_T_isDigit ms_R_128 rfl rfl d_R_freeNumber_69 (c_T_isDigit hg _ _) ⟨by decide, by decide⟩ rfl rfl (Nat.le_of_ble_eq_true rfl) (fun _ _ h => nomatch h.1) (fun v m2 hR => ?_)
      obtain ⟨hv9, e9⟩ := hR
      cases hv9
      subst m2
      refine V_if_eq (tgt := 112) d_R_freeNumber_72 (by decide) (fun h_72 => ?_) (fun h_72 => ?_)
      · rw [bi_eq0] at h_72
        rw [fnL, if_neg (by rw [dg, h_72]; decide)] at hF
        exact fin v j p hF
      · rw [bi_ne0] at h_72
        have hlt : p < tx.2 := dg_lt h_72
        have e1 : up (rdM mm rd ts ed lk p) rd (.inr (2, [.ref ts, .ref ed, .int (nI p + 1), .int lk])) = rdM mm rd ts ed lk (p + 1) := by rw [← nI_succ]; exact rdM_up
        rw [fnL, if_pos (show dg (hr tx p) = true from h_72)] at hF
        refine V_iload d_R_freeNumber_75 rfl ?_
        refine V_iload_n d_R_freeNumber_77 rfl rfl ?_
        refine V_icmp_gt (tgt := 96) d_R_freeNumber_78 (by decide) (fun h_78 => ?_) (fun h_78 => ?_)
        · first | refine V_aload_n d_R_freeNumber_96 rfl rfl ?_ | refine V_aloadN_n d_R_freeNumber_96 rfl rfl ?_
          refine V_dup d_R_freeNumber_97 rfl ?_
          refine Vget fl_R_25 d_R_freeNumber_98 (by repeat first | assumption | apply Ob_s | apply Ob_n) rfl ?_
          refine V_iconst (v := 1) d_R_freeNumber_101 (by decide) ?_
          refine V_iadd d_R_freeNumber_102 ?_
          refine Vput pl_R_25 d_R_freeNumber_103 (by repeat first | assumption | apply Ob_s | apply Ob_n) rfl rfl (Nat.le_of_ble_eq_true rfl) ?_
          refine V_iinc d_R_freeNumber_106 rfl (nI_inc _) rfl ?_
          refine V_goto (tgt := 57) d_R_freeNumber_109 (by decide) ?_
          refine ek_v (P := fun z => V g m_R_freeNumber 2 46 0 0 57 _ [] z Fi) e1 ?_
          rw [if_pos h_78] at hF
          exact ih (j + 1) _ (p + 1) _ (by omega) (by omega) ⟨rfl, rfl, rfl, rfl, rfl, rfl, trivial⟩ hF
        · refine V_iload d_R_freeNumber_81 rfl ?_
          refine V_bipush (v := 10) d_R_freeNumber_83 (by decide) ?_
          refine V_imul d_R_freeNumber_85 ?_
          first | refine V_aload_n d_R_freeNumber_86 rfl rfl ?_ | refine V_aloadN_n d_R_freeNumber_86 rfl rfl ?_
          refine VcallV cb_R_here mv_R_37 rfl (ci := 2) rfl rfl d_R_freeNumber_87 (c_R_here hg h (by omega)) ⟨by decide, by decide⟩ rfl (by repeat first | assumption | apply Ob_s | apply Ob_n) rfl (Nat.le_of_ble_eq_true rfl) (fun _ _ h => nomatch h.1) (fun v m2 hR => ?_)
          obtain ⟨hv9, e9⟩ := hR
          cases hv9
          subst m2
          refine V_iadd d_R_freeNumber_90 ?_
          refine V_bipush (v := 48) d_R_freeNumber_91 (by decide) ?_
          refine V_isub d_R_freeNumber_93 ?_
          refine V_istore d_R_freeNumber_94 rfl ?_
          first | refine V_aload_n d_R_freeNumber_96 rfl rfl ?_ | refine V_aloadN_n d_R_freeNumber_96 rfl rfl ?_
          refine V_dup d_R_freeNumber_97 rfl ?_
          refine Vget fl_R_25 d_R_freeNumber_98 (by repeat first | assumption | apply Ob_s | apply Ob_n) rfl ?_
          refine V_iconst (v := 1) d_R_freeNumber_101 (by decide) ?_
          refine V_iadd d_R_freeNumber_102 ?_
          refine Vput pl_R_25 d_R_freeNumber_103 (by repeat first | assumption | apply Ob_s | apply Ob_n) rfl rfl (Nat.le_of_ble_eq_true rfl) ?_
          refine V_iinc d_R_freeNumber_106 rfl (nI_inc _) rfl ?_
          refine V_goto (tgt := 57) d_R_freeNumber_109 (by decide) ?_
          refine ek_v (P := fun z => V g m_R_freeNumber 2 46 0 0 57 _ [] z Fi) e1 ?_
          rw [if_neg h_78] at hF
          exact ih (j + 1) _ (p + 1) _ (by omega) (by omega) ⟨rfl, rfl, rfl, rfl, rfl, rfl, trivial⟩ hF
set_option maxRecDepth 20000 in
theorem c_R_freeNumber (hg : GO g) {mm : Mm} {rd ts tr ed : Nat} {lk : Int32} {tx : Sq} (h : Rdr g mm rd ts tr ed lk tx) {p : Nat} (hp : p ≤ 500) (least most : Int32) : CT g m_R_freeNumber 2 46 0 0 [.ref rd, .int least, .int most] (rdM mm rd ts ed lk p) (Re (some (.int (freeN tx least most p).1)) (rdM mm rd ts ed lk (freeN tx least most p).2)) := by
  have h1 := h.ob p
  have e1 : up (rdM mm rd ts ed lk p) rd (.inr (2, [.ref ts, .ref ed, .int (nI p + 1), .int lk])) = rdM mm rd ts ed lk (p + 1) := by rw [← nI_succ]; exact rdM_up
  have tail : ¬ (hr tx p = 48 ∧ least = 0) → V g m_R_freeNumber 2 46 0 0 30 [(0, .ref rd), (1, .int least), (2, .int most), (3, .int (nI p))] [] (rdM mm rd ts ed lk p) (Re (some (.int (freeN tx least most p).1)) (rdM mm rd ts ed lk (freeN tx least most p).2)) := by
    intro hc
    have wr : (dg (hr tx p) = false ∨ hr tx p = 48) → V g m_R_freeNumber 2 46 0 0 49 [(0, .ref rd), (1, .int least), (2, .int most), (3, .int (nI p))] [] (rdM mm rd ts ed lk p) (Re (some (.int (freeN tx least most p).1)) (rdM mm rd ts ed lk (freeN tx least most p).2)) := by
      intro hd
      refine V_iconst (v := -1) d_R_freeNumber_49 (by decide) ?_
      refine V_iret d_R_freeNumber_50 rfl rfl ?_
      rw [freeN, if_neg hc, if_pos hd]
      exact ⟨rfl, rfl⟩
    first | refine V_aload_n d_R_freeNumber_30 rfl rfl ?_ | refine V_aloadN_n d_R_freeNumber_30 rfl rfl ?_
    refine VcallV cb_R_here mv_R_37 rfl (ci := 2) rfl rfl d_R_freeNumber_31 (c_R_here hg h (by omega)) ⟨by decide, by decide⟩ rfl (by repeat first | assumption | apply Ob_s | apply Ob_n) rfl (Nat.le_of_ble_eq_true rfl) (fun _ _ h => nomatch h.1) (fun v m2 hR => ?_)
    obtain ⟨hv9, e9⟩ := hR
    cases hv9
    subst m2
    refine V_callS cb_T_isDigit ms_R_128 rfl rfl d_R_freeNumber_34 (c_T_isDigit hg _ _) ⟨by decide, by decide⟩ rfl rfl (Nat.le_of_ble_eq_true rfl) (fun _ _ h => nomatch h.1) (fun v m2 hR => ?_)
    obtain ⟨hv9, e9⟩ := hR
    cases hv9
    subst m2
    refine V_if_eq (tgt := 49) d_R_freeNumber_37 (by decide) (fun h_37 => ?_) (fun h_37 => ?_)
    · rw [bi_eq0] at h_37
      exact wr (Or.inl h_37)
    · rw [bi_ne0] at h_37
      first | refine V_aload_n d_R_freeNumber_40 rfl rfl ?_ | refine V_aloadN_n d_R_freeNumber_40 rfl rfl ?_
      refine VcallV cb_R_here mv_R_37 rfl (ci := 2) rfl rfl d_R_freeNumber_41 (c_R_here hg h (by omega)) ⟨by decide, by decide⟩ rfl (by repeat first | assumption | apply Ob_s | apply Ob_n) rfl (Nat.le_of_ble_eq_true rfl) (fun _ _ h => nomatch h.1) (fun v m2 hR => ?_)
      obtain ⟨hv9, e9⟩ := hR
      cases hv9
      subst m2
      refine V_bipush (v := 48) d_R_freeNumber_44 (by decide) ?_
      refine V_icmp_ne (tgt := 51) d_R_freeNumber_46 (by decide) (fun h_46 => ?_) (fun h_46 => ?_)
      · refine V_iconst (v := 0) d_R_freeNumber_51 (by decide) ?_
        refine V_istore d_R_freeNumber_52 rfl ?_
        refine V_iconst (v := 0) d_R_freeNumber_54 (by decide) ?_
        refine V_istore d_R_freeNumber_55 rfl ?_
        refine l_R_freeNumber hg h least most p 500 0 0 p _ rfl hp ⟨rfl, rfl, rfl, rfl, rfl, rfl, trivial⟩ ?_
        rw [freeN, if_neg hc, if_neg (fun z => z.elim (fun q => by rw [dg, h_37] at q; cases q) h_46)]
        exact ⟨rfl, rfl⟩
      · exact wr (Or.inr (by simpa using h_46))
  refine CT_go (lo := [(0, .ref rd), (1, .int least), (2, .int most)]) rfl rfl rfl rfl hg ?_
  first | refine V_aload_n d_R_freeNumber_0 rfl rfl ?_ | refine V_aloadN_n d_R_freeNumber_0 rfl rfl ?_
  refine Vget fl_R_25 d_R_freeNumber_1 (by repeat first | assumption | apply Ob_s | apply Ob_n) rfl ?_
  refine V_istore_n d_R_freeNumber_4 rfl rfl ?_
  first | refine V_aload_n d_R_freeNumber_5 rfl rfl ?_ | refine V_aloadN_n d_R_freeNumber_5 rfl rfl ?_
  refine VcallV cb_R_here mv_R_37 rfl (ci := 2) rfl rfl d_R_freeNumber_6 (c_R_here hg h (by omega)) ⟨by decide, by decide⟩ rfl (by repeat first | assumption | apply Ob_s | apply Ob_n) rfl (Nat.le_of_ble_eq_true rfl) (fun _ _ h => nomatch h.1) (fun v m2 hR => ?_)
  obtain ⟨hv9, e9⟩ := hR
  cases hv9
  subst m2
  refine V_bipush (v := 48) d_R_freeNumber_9 (by decide) ?_
  refine V_icmp_ne (tgt := 30) d_R_freeNumber_11 (by decide) (fun h_11 => ?_) (fun h_11 => ?_)
  · exact V_lo [(0, .ref rd), (1, .int least), (2, .int most), (3, .int (nI p))] ⟨rfl, rfl, rfl, rfl, trivial⟩ (tail (fun z => h_11 z.1))
  · refine V_iload_n d_R_freeNumber_14 rfl rfl ?_
    refine V_if_ne (tgt := 30) d_R_freeNumber_15 (by decide) (fun h_15 => ?_) (fun h_15 => ?_)
    · exact V_lo [(0, .ref rd), (1, .int least), (2, .int most), (3, .int (nI p))] ⟨rfl, rfl, rfl, rfl, trivial⟩ (tail (fun z => h_15 z.2))
    · first | refine V_aload_n d_R_freeNumber_18 rfl rfl ?_ | refine V_aloadN_n d_R_freeNumber_18 rfl rfl ?_
      refine V_dup d_R_freeNumber_19 rfl ?_
      refine Vget fl_R_25 d_R_freeNumber_20 (by repeat first | assumption | apply Ob_s | apply Ob_n) rfl ?_
      refine V_iconst (v := 1) d_R_freeNumber_23 (by decide) ?_
      refine V_iadd d_R_freeNumber_24 ?_
      refine Vput pl_R_25 d_R_freeNumber_25 (by repeat first | assumption | apply Ob_s | apply Ob_n) rfl rfl (Nat.le_of_ble_eq_true rfl) ?_
      refine V_iconst (v := 0) d_R_freeNumber_28 (by decide) ?_
      refine V_iret d_R_freeNumber_29 rfl rfl ?_
      rw [freeN, if_pos ⟨by simpa using h_11, by simpa using h_15⟩]
      exact ⟨rfl, e1⟩
def cnL (tx : Sq) : Nat → Int32 → Nat → Option Int32 × Nat
  | 0, v, p => (some v, p)
  | n + 1, v, p => if dg (hr tx p) = true then cnL tx n (v * 10 + hr tx p - 48) (p + 1) else (none, p)
def countN (tx : Sq) (n : Nat) (least most : Int32) (p : Nat) : Int32 × Nat := match (cnL tx n 0 p).1 with
  | some v => nir v least most p (cnL tx n 0 p).2
  | none => (-1, (cnL tx n 0 p).2)
def cnE (least most : Int32) (q : Nat) (r : Option Int32 × Nat) : Int32 × Nat := match r.1 with
  | some v => nir v least most q r.2
  | none => (-1, r.2)
set_option maxRecDepth 20000 in
theorem l_R_countedNumber (hg : GO g) {mm : Mm} {rd ts tr ed : Nat} {lk : Int32} {tx : Sq} (h : Rdr g mm rd ts tr ed lk tx) (least most : Int32) (q m : Nat) (hm : m < 10) {Fi : Ou → Mm → Prop} : ∀ (n j : Nat) (v : Int32) (p : Nat) (x : List (Nat × Value)), n + j = m → p ≤ 500 → chk [(0, .ref rd), (1, .int (nI m)), (2, .int least), (3, .int most), (4, .int (nI q)), (5, .int v), (6, .int (nI j))] x → Fi (.inl (some (.int (cnE least most q (cnL tx n v p)).1))) (rdM mm rd ts ed lk (cnE least most q (cnL tx n v p)).2) → V g m_R_countedNumber 2 46 0 0 12 x [] (rdM mm rd ts ed lk p) Fi := by
  have hT : tx.2 ≤ 500 := h.2.2.2.1
  intro n
  induction n with
  | zero =>
    intro j v p x hj hp hx hF
    have h1 := h.ob p
    refine V_lo _ hx ?_
    refine V_iload d_R_countedNumber_12 rfl ?_
    refine V_iload_n d_R_countedNumber_14 rfl rfl ?_
    refine V_icmp_ge (tgt := 61) d_R_countedNumber_15 (by decide) (fun h_15 => ?_) (fun h_15 => ?_)
    · first | refine V_aload_n d_R_countedNumber_61 rfl rfl ?_ | refine V_aloadN_n d_R_countedNumber_61 rfl rfl ?_
      refine V_iload d_R_countedNumber_62 rfl ?_
      refine V_iload d_R_countedNumber_64 rfl ?_
      refine V_iload_n d_R_countedNumber_66 rfl rfl ?_
      refine V_iload_n d_R_countedNumber_67 rfl rfl ?_
      refine VcallV cb_R_numberInRange mv_R_131 rfl (ci := 2) rfl rfl d_R_countedNumber_68 (c_R_numberInRange hg h p q v least most) ⟨by decide, by decide⟩ rfl (by repeat first | assumption | apply Ob_s | apply Ob_n) rfl (Nat.le_of_ble_eq_true rfl) (fun _ _ h => nomatch h.1) (fun v m2 hR => ?_)
      obtain ⟨hv9, e9⟩ := hR
      cases hv9
      subst m2
      exact V_iret d_R_countedNumber_71 rfl rfl hF
    · exact absurd (nI_le (by omega) (by omega)) h_15
  | succ n ih =>
    intro j v p x hj hp hx hF
    have h1 := h.ob p
    refine V_lo _ hx ?_
    refine V_iload d_R_countedNumber_12 rfl ?_
    refine V_iload_n d_R_countedNumber_14 rfl rfl ?_
    refine V_icmp_ge (tgt := 61) d_R_countedNumber_15 (by decide) (fun h_15 => ?_) (fun h_15 => ?_)
    · exact absurd h_15 (nI_ge (by omega) (by omega))
    · first | refine V_aload_n d_R_countedNumber_18 rfl rfl ?_ | refine V_aloadN_n d_R_countedNumber_18 rfl rfl ?_
      refine VcallV cb_R_here mv_R_37 rfl (ci := 2) rfl rfl d_R_countedNumber_19 (c_R_here hg h (by omega)) ⟨by decide, by decide⟩ rfl (by repeat first | assumption | apply Ob_s | apply Ob_n) rfl (Nat.le_of_ble_eq_true rfl) (fun _ _ h => nomatch h.1) (fun v m2 hR => ?_)
      obtain ⟨hv9, e9⟩ := hR
      cases hv9
      subst m2
      refine V_callS cb_T_isDigit ms_R_128 rfl rfl d_R_countedNumber_22 (c_T_isDigit hg _ _) ⟨by decide, by decide⟩ rfl rfl (Nat.le_of_ble_eq_true rfl) (fun _ _ h => nomatch h.1) (fun v m2 hR => ?_)
      obtain ⟨hv9, e9⟩ := hR
      cases hv9
      subst m2
      refine V_if_ne (tgt := 30) d_R_countedNumber_25 (by decide) (fun h_25 => ?_) (fun h_25 => ?_)
      · rw [bi_ne0] at h_25
        have hlt : p < tx.2 := dg_lt h_25
        have e1 : up (rdM mm rd ts ed lk p) rd (.inr (2, [.ref ts, .ref ed, .int (nI p + 1), .int lk])) = rdM mm rd ts ed lk (p + 1) := by rw [← nI_succ]; exact rdM_up
        rw [cnL, if_pos (show dg (hr tx p) = true from h_25)] at hF
        refine V_iload d_R_countedNumber_30 rfl ?_
        refine V_bipush (v := 10) d_R_countedNumber_32 (by decide) ?_
        refine V_imul d_R_countedNumber_34 ?_
        first | refine V_aload_n d_R_countedNumber_35 rfl rfl ?_ | refine V_aloadN_n d_R_countedNumber_35 rfl rfl ?_
        refine VcallV cb_R_here mv_R_37 rfl (ci := 2) rfl rfl d_R_countedNumber_36 (c_R_here hg h (by omega)) ⟨by decide, by decide⟩ rfl (by repeat first | assumption | apply Ob_s | apply Ob_n) rfl (Nat.le_of_ble_eq_true rfl) (fun _ _ h => nomatch h.1) (fun v m2 hR => ?_)
        obtain ⟨hv9, e9⟩ := hR
        cases hv9
        subst m2
        refine V_iadd d_R_countedNumber_39 ?_
        refine V_bipush (v := 48) d_R_countedNumber_40 (by decide) ?_
        refine V_isub d_R_countedNumber_42 ?_
        refine V_istore d_R_countedNumber_43 rfl ?_
        first | refine V_aload_n d_R_countedNumber_45 rfl rfl ?_ | refine V_aloadN_n d_R_countedNumber_45 rfl rfl ?_
        refine V_dup d_R_countedNumber_46 rfl ?_
        refine Vget fl_R_25 d_R_countedNumber_47 (by repeat first | assumption | apply Ob_s | apply Ob_n) rfl ?_
        refine V_iconst (v := 1) d_R_countedNumber_50 (by decide) ?_
        refine V_iadd d_R_countedNumber_51 ?_
        refine Vput pl_R_25 d_R_countedNumber_52 (by repeat first | assumption | apply Ob_s | apply Ob_n) rfl rfl (Nat.le_of_ble_eq_true rfl) ?_
        refine V_iinc d_R_countedNumber_55 rfl (nI_inc _) rfl ?_
        refine V_goto (tgt := 12) d_R_countedNumber_58 (by decide) ?_
        refine ek_v (P := fun z => V g m_R_countedNumber 2 46 0 0 12 _ [] z Fi) e1 ?_
        exact ih (j + 1) _ (p + 1) _ (by omega) (by omega) ⟨rfl, rfl, rfl, rfl, rfl, rfl, rfl, trivial⟩ hF
      · have h25 : wi (hr tx p) 48 57 = false := bi_eq0.mp (by simpa using h_25)
        refine V_iconst (v := -1) d_R_countedNumber_28 (by decide) ?_
        rw [cnL, if_neg (by rw [dg, h25]; decide)] at hF
        exact V_iret d_R_countedNumber_29 rfl rfl hF
theorem c_R_countedNumber (hg : GO g) {mm : Mm} {rd ts tr ed : Nat} {lk : Int32} {tx : Sq} (h : Rdr g mm rd ts tr ed lk tx) {p m : Nat} (hp : p ≤ 500) (hm : m < 10) (least most : Int32) : CT g m_R_countedNumber 2 46 0 0 [.ref rd, .int (nI m), .int least, .int most] (rdM mm rd ts ed lk p) (Re (some (.int (countN tx m least most p).1)) (rdM mm rd ts ed lk (countN tx m least most p).2)) := by
  have h1 := h.ob p
  refine CT_go (lo := [(0, .ref rd), (1, .int (nI m)), (2, .int least), (3, .int most)]) rfl rfl rfl rfl hg ?_
  first | refine V_aload_n d_R_countedNumber_0 rfl rfl ?_ | refine V_aloadN_n d_R_countedNumber_0 rfl rfl ?_
  refine Vget fl_R_25 d_R_countedNumber_1 (by repeat first | assumption | apply Ob_s | apply Ob_n) rfl ?_
  refine V_istore d_R_countedNumber_4 rfl ?_
  refine V_iconst (v := 0) d_R_countedNumber_6 (by decide) ?_
  refine V_istore d_R_countedNumber_7 rfl ?_
  refine V_iconst (v := 0) d_R_countedNumber_9 (by decide) ?_
  refine V_istore d_R_countedNumber_10 rfl ?_
  exact l_R_countedNumber hg h least most p m hm m 0 0 p _ (by omega) hp ⟨rfl, rfl, rfl, rfl, rfl, rfl, rfl, trivial⟩ ⟨rfl, rfl⟩
end C5
