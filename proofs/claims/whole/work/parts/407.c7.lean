/-! the draft of an edition while a text is read: k services v, q ranges (f1, f2, f3), the last code told -/
abbrev Dst : Type := Nat × (Nat → Nat → Int32) × Nat × (Nat → Int32) × (Nat → Int32) × (Nat → Int32) × Int32
def DR (g : GG) (mm : Mm) (rd ts tr ed sa fa la za : Nat) (sv : Nat → Nat) (day : Int32) (tx : Sq) (D : Dst) (p : Nat) : Prop :=
  Ob mm rd 2 (rdL ts ed p D.2.2.2.2.2.2) ∧ Sgm g mm ts tr 500 tx ∧ Ob mm ed 0 (edL sa fa la za D.1 D.2.2.1 day) ∧ (∃ rf, Svs g mm sa D.1 rf sv D.2.1) ∧ Rgs g mm fa la za D.2.2.2.1 D.2.2.2.2.1 D.2.2.2.2.2.1 ∧ (fa ≠ la ∧ fa ≠ za ∧ la ≠ za ∧ tr ≠ fa ∧ tr ≠ la ∧ tr ≠ za) ∧ (∀ i j, i < D.1 → j < D.1 → sv i = sv j → i = j) ∧ p ≤ 500 ∧ D.2.2.1 ≤ p ∧ (∀ i, i < D.1 → wi (D.2.1 i 0) 65 90 = true) ∧ ∀ i j, i < D.1 → j < D.1 → D.2.1 i 0 = D.2.1 j 0 → i = j
/-- what isn't the reader's stays -/
def Fr (S : Nat → Prop) (mm m' : Mm) : Prop := (∀ b, b ∈ mm.2 → b ∈ m'.2) ∧ ∀ b, b ∈ mm.2 → ¬ S b → m'.1 b = mm.1 b
def ftp (rd ed sa fa la za : Nat) (b : Nat) : Prop := b = rd ∨ b = ed ∨ b = sa ∨ b = fa ∨ b = la ∨ b = za
theorem Fr_up {S : Nat → Prop} {mm m' : Mm} {a : Nat} {e : va_E} (h : Fr S mm m') (ha : S a) : Fr S mm (up m' a e) :=
  ⟨h.1, fun b hb hS => (va_up_ne _ _ (fun z : b = a => hS (z ▸ ha))).trans (h.2 b hb hS)⟩
theorem Fr_rf {S : Nat → Prop} {mm : Mm} : Fr S mm mm := ⟨fun _ h => h, fun _ _ _ => rfl⟩
theorem Fr_tr {S S' : Nat → Prop} {m1 m2 m3 : Mm} (h : Fr S m1 m2) (h' : Fr S' m2 m3) (hS : ∀ b, b ∈ m1.2 → S' b → S b) : Fr S m1 m3 :=
  ⟨fun b hb => h'.1 b (h.1 b hb), fun b hb hn => (h'.2 b (h.1 b hb) (fun z => hn (hS b hb z))).trans (h.2 b hb hn)⟩
theorem Fr_ad {S : Nat → Prop} {mm m' : Mm} {a : Nat} {e : va_E} (h : Fr S mm m') (ha : a ∉ m'.2) : Fr S mm (ad m' a e) :=
  ⟨fun b hb => List.mem_append_left _ (h.1 b hb), fun b hb hS => (va_up_ne _ _ (fun z : b = a => ha (z ▸ h.1 b hb))).trans (h.2 b hb hS)⟩
theorem cnL_ok {tx : Sq} : ∀ (n : Nat) (v : Int32) (p : Nat), (cnL tx n v p).1 ≠ none → (cnL tx n v p).2 = p + n
  | 0, _, _, _ => rfl
  | n + 1, v, p, h => by
    unfold cnL at h ⊢
    split
    · rename_i hc
      rw [if_pos hc] at h
      rw [cnL_ok n _ _ h]
      omega
    · rename_i hc
      rw [if_neg hc] at h
      exact absurd rfl h
theorem countN_ok {tx : Sq} {n : Nat} {least most : Int32} {p : Nat} (h : ¬ (countN tx n least most p).1 = -1) : (countN tx n least most p).2 = p + n := by
  unfold countN at h ⊢
  cases hc : (cnL tx n 0 p).1 with
  | none => rw [hc] at h; exact absurd rfl h
  | some w =>
    rw [hc] at h
    have h2 := cnL_ok (tx := tx) n 0 p (by rw [hc]; exact fun z => nomatch z)
    show (nir w least most p (cnL tx n 0 p).2).2 = p + n
    have h3 : ¬ (nir w least most p (cnL tx n 0 p).2).1 = -1 := h
    unfold nir at h3 ⊢
    split
    · exact h2
    · rename_i hw
      rw [if_neg hw] at h3
      exact absurd rfl h3
theorem cnL_ge {tx : Sq} : ∀ (n : Nat) (v : Int32) (p : Nat), p ≤ (cnL tx n v p).2
  | 0, _, _ => Nat.le_refl _
  | n + 1, v, p => by
    unfold cnL
    split
    · exact Nat.le_trans (Nat.le_succ p) (cnL_ge n _ _)
    · exact Nat.le_refl _
theorem nir_ge {v least most : Int32} {q p : Nat} (h : q ≤ p) : q ≤ (nir v least most q p).2 := by
  unfold nir
  split
  · exact h
  · exact Nat.le_refl _
theorem countN_ge {tx : Sq} {n : Nat} {least most : Int32} {p : Nat} (ht : tx.2 ≤ 500) : p ≤ (countN tx n least most p).2 := by
  unfold countN
  split
  · exact nir_ge (cnL_ge _ _ _)
  · exact cnL_ge _ _ _
abbrev Pd : Type := Bool × Dst × Nat
def rg3 (tx : Sq) (D : Dst) (a b : Int32) (p : Nat) : Pd := if (countN tx 1 1 9 p).1 = -1 ∨ ¬ hr tx (countN tx 1 1 9 p).2 = 10 then (false, D, (countN tx 1 1 9 p).2) else (true, (D.1, D.2.1, D.2.2.1 + 1, (if D.2.2.1 < 8 then upd D.2.2.2.1 D.2.2.1 a else D.2.2.2.1), (if D.2.2.1 < 8 then upd D.2.2.2.2.1 D.2.2.1 b else D.2.2.2.2.1), (if D.2.2.1 < 8 then upd D.2.2.2.2.2.1 D.2.2.1 (countN tx 1 1 9 p).1 else D.2.2.2.2.2.1), b), (countN tx 1 1 9 p).2 + 1)
def rg2 (tx : Sq) (D : Dst) (a : Int32) (p : Nat) : Pd := if (countN tx 4 a 9999 p).1 = -1 ∨ ¬ hr tx (countN tx 4 a 9999 p).2 = 58 then (false, D, (countN tx 4 a 9999 p).2) else rg3 tx D a (countN tx 4 a 9999 p).1 ((countN tx 4 a 9999 p).2 + 1)
def rdR (tx : Sq) (D : Dst) (p : Nat) : Pd := if (countN tx 4 (D.2.2.2.2.2.2 + 1) 9999 (p + 1)).1 = -1 ∨ ¬ hr tx (countN tx 4 (D.2.2.2.2.2.2 + 1) 9999 (p + 1)).2 = 45 then (false, D, (countN tx 4 (D.2.2.2.2.2.2 + 1) 9999 (p + 1)).2) else rg2 tx D (countN tx 4 (D.2.2.2.2.2.2 + 1) 9999 (p + 1)).1 ((countN tx 4 (D.2.2.2.2.2.2 + 1) 9999 (p + 1)).2 + 1)
/-- the reader's cell changes alone -/
theorem DR_p {g : GG} {mm : Mm} {rd ts tr ed sa fa la za : Nat} {sv : Nat → Nat} {day : Int32} {tx : Sq} {D : Dst} {p : Nat} (h : DR g mm rd ts tr ed sa fa la za sv day tx D p) {p' : Nat} (hp : p' ≤ 500) (hq : D.2.2.1 ≤ p') (lk : Int32) : DR g (rdM mm rd ts ed lk p') rd ts tr ed sa fa la za sv day tx (D.1, D.2.1, D.2.2.1, D.2.2.2.1, D.2.2.2.2.1, D.2.2.2.2.2.1, lk) p' := by
  obtain ⟨h1, h2, h3, ⟨rf, h4a, h4b, h4c⟩, ⟨h5, h6, h7⟩, h8, h9, h10, h11, h12, h13⟩ := h
  refine ⟨Ob_s h1, Sgm_n h2 (Ob_neC h2.1 h1 (by decide)) (Ne.symm (Ob_neI h1 h2.2.1)), Ob_n h3 (Ob_neC h3 h1 (by decide)), ⟨rf, Qa_n h4a (Ne.symm (Ob_neQ h1 h4a)), h4b, fun j hj => ⟨(h4c j hj).1, Ob_n (h4c j hj).2 (Ob_neC (h4c j hj).2 h1 (by decide))⟩⟩, ⟨Ia_n h5 (Ne.symm (Ob_neI h1 h5)), Ia_n h6 (Ne.symm (Ob_neI h1 h6)), Ia_n h7 (Ne.symm (Ob_neI h1 h7))⟩, h8, h9, hp, hq, h12, h13⟩
theorem DR_rdr {g : GG} {mm : Mm} {rd ts tr ed sa fa la za : Nat} {sv : Nat → Nat} {day : Int32} {tx : Sq} {D : Dst} {p : Nat} (h : DR g mm rd ts tr ed sa fa la za sv day tx D p) : Rdr g mm rd ts tr ed D.2.2.2.2.2.2 tx := ⟨⟨p, h.1⟩, h.2.1⟩
theorem DR_id {g : GG} {mm : Mm} {rd ts tr ed sa fa la za : Nat} {sv : Nat → Nat} {day : Int32} {tx : Sq} {D : Dst} {p : Nat} (h : DR g mm rd ts tr ed sa fa la za sv day tx D p) : rdM mm rd ts ed D.2.2.2.2.2.2 p = mm := up_id h.1.2
/-- how a line ends: the draft and the place behind it; what isn't the reader's stays -/
def Le (g : GG) (mm : Mm) (rd ts tr ed sa fa la za k : Nat) (sv : Nat → Nat) (day : Int32) (tx : Sq) (S : Nat → Prop) (r : Pd) : Ou → Mm → Prop := fun o m' => o = .inl (some (.int (bi r.1))) ∧ ∃ sv', DR g m' rd ts tr ed sa fa la za sv' day tx r.2.1 r.2.2 ∧ Fr S mm m' ∧ ∀ j, j < r.2.1.1 → sv' j ∉ mm.2 ∨ j < k ∧ sv' j = sv j
section C7
variable {g : GG}
theorem DR_range {mm : Mm} {rd ts tr ed sa fa la za : Nat} {sv : Nat → Nat} {day : Int32} {tx : Sq} {D : Dst} {p : Nat} (h : DR g mm rd ts tr ed sa fa la za sv day tx D p) (hq : D.2.2.1 < p) (a b z : Int32) :
    DR g (up (if D.2.2.1 < 8 then up (up (up mm fa (.inl (g.2.2.2.2 0, 8, .inl (upd D.2.2.2.1 D.2.2.1 a)))) la (.inl (g.2.2.2.2 0, 8, .inl (upd D.2.2.2.2.1 D.2.2.1 b)))) za (.inl (g.2.2.2.2 0, 8, .inl (upd D.2.2.2.2.2.1 D.2.2.1 z))) else mm) ed (.inr (0, edL sa fa la za D.1 (D.2.2.1 + 1) day))) rd ts tr ed sa fa la za sv day tx (D.1, D.2.1, D.2.2.1 + 1, (if D.2.2.1 < 8 then upd D.2.2.2.1 D.2.2.1 a else D.2.2.2.1), (if D.2.2.1 < 8 then upd D.2.2.2.2.1 D.2.2.1 b else D.2.2.2.2.1), (if D.2.2.1 < 8 then upd D.2.2.2.2.2.1 D.2.2.1 z else D.2.2.2.2.2.1), D.2.2.2.2.2.2) p := by
  obtain ⟨h1, h2, h3, ⟨rf, h4a, h4b, h4c⟩, ⟨h5, h6, h7⟩, ⟨n1, n2, n3, n4, n5, n6⟩, h9, h10, h11, h12, h13⟩ := h
  have k1 := Ob_neC h1 h3 (by decide)
  have k2 := Ob_neC h2.1 h3 (by decide)
  have k3 := Ob_neI h3 h2.2.1
  have k4 := Ob_neQ h3 h4a
  have k5 := Ob_neI h3 h5
  have k6 := Ob_neI h3 h6
  have k7 := Ob_neI h3 h7
  by_cases hc : D.2.2.1 < 8
  · simp only [if_pos hc]
    have a1 := Ob_neI h1 h5
    have a2 := Ob_neI h1 h6
    have a3 := Ob_neI h1 h7
    have b1 := Ob_neI h2.1 h5
    have b2 := Ob_neI h2.1 h6
    have b3 := Ob_neI h2.1 h7
    have c1 := Ia_neQ h5 h4a
    have c2 := Ia_neQ h6 h4a
    have c3 := Ia_neQ h7 h4a
    refine ⟨Ob_n (Ob_n (Ob_n (Ob_n h1 a1) a2) a3) k1, Sgm_n (Sgm_n (Sgm_n (Sgm_n h2 b1 n4) b2 n5) b3 n6) k2 (Ne.symm k3), Ob_s (Ob_n (Ob_n (Ob_n h3 k5) k6) k7), ⟨rf, Qa_n (Qa_n (Qa_n (Qa_n h4a (Ne.symm c1)) (Ne.symm c2)) (Ne.symm c3)) (Ne.symm k4), h4b, fun j hj => ⟨(h4c j hj).1, ?_⟩⟩, ⟨Ia_n (Ia_n (Ia_n (Ia_s h5) n1) n2) (Ne.symm k5), Ia_n (Ia_n (Ia_s (Ia_n h6 (Ne.symm n1))) n3) (Ne.symm k6), Ia_n (Ia_s (Ia_n (Ia_n h7 (Ne.symm n2)) (Ne.symm n3))) (Ne.symm k7)⟩, ⟨n1, n2, n3, n4, n5, n6⟩, h9, h10, hq, h12, h13⟩
    have ho := (h4c j hj).2
    exact Ob_n (Ob_n (Ob_n (Ob_n ho (Ob_neI ho h5)) (Ob_neI ho h6)) (Ob_neI ho h7)) (Ob_neC ho h3 (by decide))
  · simp only [if_neg hc]
    refine ⟨Ob_n h1 k1, Sgm_n h2 k2 (Ne.symm k3), Ob_s h3, ⟨rf, Qa_n h4a (Ne.symm k4), h4b, fun j hj => ⟨(h4c j hj).1, Ob_n (h4c j hj).2 (Ob_neC (h4c j hj).2 h3 (by decide))⟩⟩, ⟨Ia_n h5 (Ne.symm k5), Ia_n h6 (Ne.symm k6), Ia_n h7 (Ne.symm k7)⟩, ⟨n1, n2, n3, n4, n5, n6⟩, h9, h10, hq, h12, h13⟩
set_option maxRecDepth 20000 in
theorem c_R_readsRange (hg : GO g) {mm : Mm} {rd ts tr ed sa fa la za : Nat} {sv : Nat → Nat} {day : Int32} {tx : Sq} {D : Dst} {p : Nat} (h : DR g mm rd ts tr ed sa fa la za sv day tx D p) (hc0 : hr tx p = 47) : CT g m_R_readsRange 3 72 0 0 [.ref rd] mm (Le g mm rd ts tr ed sa fa la za D.1 sv day tx (ftp rd ed sa fa la za) (rdR tx D p)) := by
  have hx := DR_rdr h
  have hT : tx.2 ≤ 500 := h.2.1.2.2.1
  have h1 := h.1
  have hq0 : D.2.2.1 ≤ p := h.2.2.2.2.2.2.2.2.1
  have hp1 : p + 1 ≤ 500 := ps_le hT hc0 (by decide)
  -- a line that is wrong
  have bad : ∀ p', p' ≤ 500 → D.2.2.1 ≤ p' → Le g mm rd ts tr ed sa fa la za D.1 sv day tx (ftp rd ed sa fa la za) (false, D, p') (.inl (some (.int 0))) (rdM mm rd ts ed D.2.2.2.2.2.2 p') :=
    fun p' e1 e2 => ⟨rfl, sv, DR_p h e1 e2 _, Fr_up Fr_rf (Or.inl rfl), fun j hj => Or.inr ⟨hj, rfl⟩⟩
  have e0 : up mm rd (.inr (2, [.ref ts, .ref ed, .int (nI p + 1), .int D.2.2.2.2.2.2])) = rdM mm rd ts ed D.2.2.2.2.2.2 (p + 1) := by
    rw [← nI_succ]
    rfl
  refine CT_go (lo := [(0, .ref rd)]) rfl rfl rfl rfl hg ?_
  first | refine V_aload_n d_R_readsRange_0 rfl rfl ?_ | refine V_aloadN_n d_R_readsRange_0 rfl rfl ?_
  refine V_dup d_R_readsRange_1 rfl ?_
  refine Vget fl_R_25 d_R_readsRange_2 (by repeat first | assumption | apply Ob_s | apply Ob_n) rfl ?_
  refine V_iconst (v := 1) d_R_readsRange_5 (by decide) ?_
  refine V_iadd d_R_readsRange_6 ?_
  refine Vput pl_R_25 d_R_readsRange_7 (by repeat first | assumption | apply Ob_s | apply Ob_n) rfl rfl (Nat.le_of_ble_eq_true rfl) ?_
  refine ek_v (P := fun z => V g m_R_readsRange 3 72 0 0 _ _ _ z _) e0 ?_
  have h2 := hx.ob (p + 1)
  first | refine V_aload_n d_R_readsRange_10 rfl rfl ?_ | refine V_aloadN_n d_R_readsRange_10 rfl rfl ?_
  refine V_iconst (v := 4) d_R_readsRange_11 (by decide) ?_
  first | refine V_aload_n d_R_readsRange_12 rfl rfl ?_ | refine V_aloadN_n d_R_readsRange_12 rfl rfl ?_
  refine Vget fl_R_29 d_R_readsRange_13 (by repeat first | assumption | apply Ob_s | apply Ob_n) rfl ?_
  refine V_iconst (v := 1) d_R_readsRange_16 (by decide) ?_
  refine V_iadd d_R_readsRange_17 ?_
  refine V_sipush (v := 9999) d_R_readsRange_18 (by decide) ?_
  refine VcallV cb_R_countedNumber mv_R_103 rfl (ci := 2) rfl rfl d_R_readsRange_21 (c_R_countedNumber (m := 4) hg hx hp1 (by decide) _ _) ⟨by decide, by decide⟩ rfl (by repeat first | assumption | apply Ob_s | apply Ob_n) rfl (Nat.le_of_ble_eq_true rfl) (fun _ _ h => nomatch h.1) (fun v m2 hR => ?_)
  obtain ⟨hv9, e9⟩ := hR
  cases hv9
  subst m2
  have q1 : (countN tx 4 (D.2.2.2.2.2.2 + 1) 9999 (p + 1)).2 ≤ 500 := countN_le hT hp1
  have q1' : D.2.2.1 ≤ (countN tx 4 (D.2.2.2.2.2.2 + 1) 9999 (p + 1)).2 := Nat.le_trans hq0 (Nat.le_trans (Nat.le_succ p) (countN_ge hT))
  unfold rdR
  generalize countN tx 4 (D.2.2.2.2.2.2 + 1) 9999 (p + 1) = r1 at q1 q1' ⊢
  have h3 := hx.ob r1.2
  refine V_istore_n d_R_readsRange_24 rfl rfl ?_
  refine V_iload_n d_R_readsRange_25 rfl rfl ?_
  refine V_iconst (v := -1) d_R_readsRange_26 (by decide) ?_
  refine V_icmp_eq (tgt := 39) d_R_readsRange_27 (by decide) (fun h_27 => ?_) (fun h_27 => ?_)
  · refine V_iconst (v := 0) d_R_readsRange_39 (by decide) ?_
    rw [if_pos (Or.inl h_27)]
    exact V_iret d_R_readsRange_40 rfl rfl (bad _ q1 q1')
  · first | refine V_aload_n d_R_readsRange_30 rfl rfl ?_ | refine V_aloadN_n d_R_readsRange_30 rfl rfl ?_
    refine V_bipush (v := 45) d_R_readsRange_31 (by decide) ?_
    refine VcallV cb_R_passes mv_R_64 rfl (ci := 2) rfl rfl d_R_readsRange_33 (c_R_passes hg hx (p := r1.2) (by omega) 45) ⟨by decide, by decide⟩ rfl (by repeat first | assumption | apply Ob_s | apply Ob_n) rfl (Nat.le_of_ble_eq_true rfl) (fun _ _ h => nomatch h.1) (fun v m2 hR => ?_)
    obtain ⟨hv9, e9⟩ := hR
    cases hv9
    subst m2
    refine V_if_ne (tgt := 41) d_R_readsRange_36 (by decide) (fun h_36 => ?_) (fun h_36 => ?_)
    · rw [bi_ne0] at h_36
      have hc := of_decide_eq_true h_36
      have q2 := ps_le hT hc (by decide)
      rw [if_pos hc, if_neg (fun z => z.elim h_27 (fun q => q hc))]
      have h4 := hx.ob (r1.2 + 1)
      first | refine V_aload_n d_R_readsRange_41 rfl rfl ?_ | refine V_aloadN_n d_R_readsRange_41 rfl rfl ?_
      refine V_iconst (v := 4) d_R_readsRange_42 (by decide) ?_
      refine V_iload_n d_R_readsRange_43 rfl rfl ?_
      refine V_sipush (v := 9999) d_R_readsRange_44 (by decide) ?_
      refine VcallV cb_R_countedNumber mv_R_103 rfl (ci := 2) rfl rfl d_R_readsRange_47 (c_R_countedNumber (m := 4) hg hx q2 (by decide) _ _) ⟨by decide, by decide⟩ rfl (by repeat first | assumption | apply Ob_s | apply Ob_n) rfl (Nat.le_of_ble_eq_true rfl) (fun _ _ h => nomatch h.1) (fun v m2 hR => ?_)
      obtain ⟨hv9, e9⟩ := hR
      cases hv9
      subst m2
      have q3 : (countN tx 4 r1.1 9999 (r1.2 + 1)).2 ≤ 500 := countN_le hT q2
      have q3' : D.2.2.1 ≤ (countN tx 4 r1.1 9999 (r1.2 + 1)).2 := Nat.le_trans q1' (Nat.le_trans (Nat.le_succ _) (countN_ge hT))
      unfold rg2
      generalize countN tx 4 r1.1 9999 (r1.2 + 1) = r2 at q3 q3' ⊢
      have h5 := hx.ob r2.2
      refine V_istore_n d_R_readsRange_50 rfl rfl ?_
      refine V_iload_n d_R_readsRange_51 rfl rfl ?_
      refine V_iconst (v := -1) d_R_readsRange_52 (by decide) ?_
      refine V_icmp_eq (tgt := 65) d_R_readsRange_53 (by decide) (fun h_53 => ?_) (fun h_53 => ?_)
      · refine V_iconst (v := 0) d_R_readsRange_65 (by decide) ?_
        rw [if_pos (Or.inl h_53)]
        exact V_iret d_R_readsRange_66 rfl rfl (bad _ q3 q3')
      · first | refine V_aload_n d_R_readsRange_56 rfl rfl ?_ | refine V_aloadN_n d_R_readsRange_56 rfl rfl ?_
        refine V_bipush (v := 58) d_R_readsRange_57 (by decide) ?_
        refine VcallV cb_R_passes mv_R_64 rfl (ci := 2) rfl rfl d_R_readsRange_59 (c_R_passes hg hx (p := r2.2) (by omega) 58) ⟨by decide, by decide⟩ rfl (by repeat first | assumption | apply Ob_s | apply Ob_n) rfl (Nat.le_of_ble_eq_true rfl) (fun _ _ h => nomatch h.1) (fun v m2 hR => ?_)
        obtain ⟨hv9, e9⟩ := hR
        cases hv9
        subst m2
        refine V_if_ne (tgt := 67) d_R_readsRange_62 (by decide) (fun h_62 => ?_) (fun h_62 => ?_)
        · rw [bi_ne0] at h_62
          have hc2 := of_decide_eq_true h_62
          have q4 := ps_le hT hc2 (by decide)
          rw [if_pos hc2, if_neg (fun z => z.elim h_53 (fun q => q hc2))]
          have h6 := hx.ob (r2.2 + 1)
          first | refine V_aload_n d_R_readsRange_67 rfl rfl ?_ | refine V_aloadN_n d_R_readsRange_67 rfl rfl ?_
          refine V_iconst (v := 1) d_R_readsRange_68 (by decide) ?_
          refine V_iconst (v := 1) d_R_readsRange_69 (by decide) ?_
          refine V_bipush (v := 9) d_R_readsRange_70 (by decide) ?_
          refine VcallV cb_R_countedNumber mv_R_103 rfl (ci := 2) rfl rfl d_R_readsRange_72 (c_R_countedNumber (m := 1) hg hx q4 (by decide) _ _) ⟨by decide, by decide⟩ rfl (by repeat first | assumption | apply Ob_s | apply Ob_n) rfl (Nat.le_of_ble_eq_true rfl) (fun _ _ h => nomatch h.1) (fun v m2 hR => ?_)
          obtain ⟨hv9, e9⟩ := hR
          cases hv9
          subst m2
          have q5 : (countN tx 1 1 9 (r2.2 + 1)).2 ≤ 500 := countN_le hT q4
          have q5' : D.2.2.1 ≤ (countN tx 1 1 9 (r2.2 + 1)).2 := Nat.le_trans q3' (Nat.le_trans (Nat.le_succ _) (countN_ge hT))
          unfold rg3
          generalize countN tx 1 1 9 (r2.2 + 1) = r3 at q5 q5' ⊢
          have h7 := hx.ob r3.2
          refine V_istore_n d_R_readsRange_75 rfl rfl ?_
          refine V_iload_n d_R_readsRange_76 rfl rfl ?_
          refine V_iconst (v := -1) d_R_readsRange_77 (by decide) ?_
          refine V_icmp_eq (tgt := 90) d_R_readsRange_78 (by decide) (fun h_78 => ?_) (fun h_78 => ?_)
          · refine V_iconst (v := 0) d_R_readsRange_90 (by decide) ?_
            rw [if_pos (Or.inl h_78)]
            exact V_iret d_R_readsRange_91 rfl rfl (bad _ q5 q5')
          · first | refine V_aload_n d_R_readsRange_81 rfl rfl ?_ | refine V_aloadN_n d_R_readsRange_81 rfl rfl ?_
            refine V_bipush (v := 10) d_R_readsRange_82 (by decide) ?_
            refine VcallV cb_R_passes mv_R_64 rfl (ci := 2) rfl rfl d_R_readsRange_84 (c_R_passes hg hx (p := r3.2) (by omega) 10) ⟨by decide, by decide⟩ rfl (by repeat first | assumption | apply Ob_s | apply Ob_n) rfl (Nat.le_of_ble_eq_true rfl) (fun _ _ h => nomatch h.1) (fun v m2 hR => ?_)
            obtain ⟨hv9, e9⟩ := hR
            cases hv9
            subst m2
            refine V_if_ne (tgt := 92) d_R_readsRange_87 (by decide) (fun h_87 => ?_) (fun h_87 => ?_)
            · rw [bi_ne0] at h_87
              have hc3 := of_decide_eq_true h_87
              have q6 := ps_le hT hc3 (by decide)
              rw [if_pos hc3, if_neg (fun z => z.elim h_78 (fun q => q hc3))]
              have h8 := hx.ob (r3.2 + 1)
              first | refine V_aload_n d_R_readsRange_92 rfl rfl ?_ | refine V_aloadN_n d_R_readsRange_92 rfl rfl ?_
              refine V_iload_n d_R_readsRange_93 rfl rfl ?_
              refine Vput pl_R_29 d_R_readsRange_94 (by repeat first | assumption | apply Ob_s | apply Ob_n) rfl rfl (Nat.le_of_ble_eq_true rfl) ?_
              refine ek_v (P := fun z => V g m_R_readsRange 3 72 0 0 _ _ _ z _) (show _ = rdM mm rd ts ed r2.1 (r3.2 + 1) from up_up) ?_
              have hD2 := DR_p h q6 (Nat.le_trans q5' (Nat.le_succ _)) r2.1
              have h9 := hD2.1
              have h10 := hD2.2.2.1
              have h11 := hD2.2.2.2.2.1
              have hnn := h.2.2.2.2.2.1
              first | refine V_aload_n d_R_readsRange_97 rfl rfl ?_ | refine V_aloadN_n d_R_readsRange_97 rfl rfl ?_
              refine Vget fl_R_18 d_R_readsRange_98 (by repeat first | assumption | apply Ob_s | apply Ob_n) rfl ?_
              refine V_iload_n d_R_readsRange_101 rfl rfl ?_
              refine V_iload_n d_R_readsRange_102 rfl rfl ?_
              refine V_iload_n d_R_readsRange_103 rfl rfl ?_
              refine VcallV cb_E_addRange mv_R_107 rfl (ci := 0) rfl rfl d_R_readsRange_104 (c_E_addRange hg h10 h11 hnn.1 hnn.2.1 hnn.2.2.1 (show D.2.2.1 < 1000 by omega) _ _ _) ⟨by decide, by decide⟩ rfl (by repeat first | assumption | apply Ob_s | apply Ob_n) rfl (Nat.le_of_ble_eq_true rfl) (fun _ _ h => nomatch h.1) (fun v m2 hR => ?_)
              obtain ⟨hv9, e9⟩ := hR
              cases hv9
              subst m2
              refine V_iconst (v := 1) d_R_readsRange_107 (by decide) ?_
              refine V_iret d_R_readsRange_108 rfl rfl ⟨rfl, sv, DR_range hD2 (by show D.2.2.1 < r3.2 + 1; omega) _ _ _, ?_, fun j hj => Or.inr ⟨hj, rfl⟩⟩
              refine Fr_up ?_ (Or.inr (Or.inl rfl))
              split
              · exact Fr_up (Fr_up (Fr_up (Fr_up Fr_rf (Or.inl rfl)) (Or.inr (Or.inr (Or.inr (Or.inl rfl))))) (Or.inr (Or.inr (Or.inr (Or.inr (Or.inl rfl)))))) (Or.inr (Or.inr (Or.inr (Or.inr (Or.inr rfl)))))
              · exact Fr_up Fr_rf (Or.inl rfl)
            · have hc3 : ¬ hr tx r3.2 = 10 := of_decide_eq_false (bi_eq0.mp (by simpa using h_87))
              refine V_iconst (v := 0) d_R_readsRange_90 (by decide) ?_
              rw [if_neg hc3, if_pos (Or.inr hc3)]
              exact V_iret d_R_readsRange_91 rfl rfl (bad _ q5 q5')
        · have hc2 : ¬ hr tx r2.2 = 58 := of_decide_eq_false (bi_eq0.mp (by simpa using h_62))
          refine V_iconst (v := 0) d_R_readsRange_65 (by decide) ?_
          rw [if_neg hc2, if_pos (Or.inr hc2)]
          exact V_iret d_R_readsRange_66 rfl rfl (bad _ q3 q3')
    · have hc : ¬ hr tx r1.2 = 45 := of_decide_eq_false (bi_eq0.mp (by simpa using h_36))
      refine V_iconst (v := 0) d_R_readsRange_39 (by decide) ?_
      rw [if_neg hc, if_pos (Or.inr hc)]
      exact V_iret d_R_readsRange_40 rfl rfl (bad _ q1 q1')
end C7
