/-! a whole text -/
def lnF (tx : Sq) (D : Dst) (p : Nat) : Pd := if hr tx p = 47 then rdR tx D p else if hr tx p = 42 then rdH tx D p else rdS tx D p
def whF (tx : Sq) : Nat → Dst → Nat → Pd
  | 0, D, p => (true, D, p)
  | n + 1, D, p => if p < tx.2 then (if (lnF tx D p).1 = true then whF tx n (lnF tx D p).2.1 (lnF tx D p).2.2 else lnF tx D p) else (true, D, p)
theorem rdR_gt {tx : Sq} {D : Dst} {p : Nat} (ht : tx.2 ≤ 500) (h : (rdR tx D p).1 = true) : p < (rdR tx D p).2.2 := by
  have a1 := countN_ge (tx := tx) (n := 4) (least := D.2.2.2.2.2.2 + 1) (most := 9999) (p := p + 1) ht
  unfold rdR at h ⊢
  split
  · rename_i hc; rw [if_pos hc] at h; cases h
  · rename_i hc
    rw [if_neg hc] at h
    generalize countN tx 4 (D.2.2.2.2.2.2 + 1) 9999 (p + 1) = r1 at a1 h hc ⊢
    have a2 := countN_ge (tx := tx) (n := 4) (least := r1.1) (most := 9999) (p := r1.2 + 1) ht
    unfold rg2 at h ⊢
    split
    · rename_i hc2; rw [if_pos hc2] at h; cases h
    · rename_i hc2
      rw [if_neg hc2] at h
      generalize countN tx 4 r1.1 9999 (r1.2 + 1) = r2 at a2 h hc2 ⊢
      have a3 := countN_ge (tx := tx) (n := 1) (least := 1) (most := 9) (p := r2.2 + 1) ht
      unfold rg3 at h ⊢
      split
      · rename_i hc3; rw [if_pos hc3] at h; cases h
      · show p < (countN tx 1 1 9 (r2.2 + 1)).2 + 1
        omega
theorem rdH_gt {tx : Sq} {D : Dst} {p : Nat} (ht : tx.2 ≤ 500) (h : (rdH tx D p).1 = true) : p < (rdH tx D p).2.2 := by
  unfold rdH at h ⊢
  cases hf : fndF D.2.1 (hr tx (p + 1)) D.1 0 with
  | none => rw [hf] at h; cases h
  | some j =>
    rw [hf] at h
    rw [ho1] at h ⊢
    split
    · rename_i hc; rw [if_pos hc] at h; cases h
    · rename_i hc
      rw [if_neg hc] at h
      split
      · rename_i hc1; rw [if_pos hc1] at h; cases h
      · rename_i hc1
        rw [if_neg hc1] at h
        have a1 := countN_ge (tx := tx) (n := 2) (least := 0) (most := 23) (p := p + 3) ht
        unfold ho2 at h ⊢
        split
        · rename_i hc2; rw [if_pos hc2] at h; cases h
        · rename_i hc2
          rw [if_neg hc2] at h
          generalize countN tx 2 0 23 (p + 3) = r1 at a1 h hc2 ⊢
          have a2 := countN_ge (tx := tx) (n := 2) (least := r1.1 + 1) (most := 24) (p := r1.2 + 1) ht
          unfold ho3 at h ⊢
          split
          · rename_i hc3; rw [if_pos hc3] at h; cases h
          · show p < (countN tx 2 (r1.1 + 1) 24 (r1.2 + 1)).2 + 1
            omega
theorem rdS_gt {tx : Sq} {D : Dst} {p : Nat} (ht : tx.2 ≤ 500) (h : (rdS tx D p).1 = true) : p < (rdS tx D p).2.2 := by
  unfold rdS at h ⊢
  split
  · rename_i hc; rw [if_pos hc] at h; cases h
  · rename_i hc
    rw [if_neg hc] at h
    split
    · rename_i hc1; rw [if_pos hc1] at h; cases h
    · rename_i hc1
      rw [if_neg hc1] at h
      have hp : p + 2 ≤ 500 := ps_le ht (Classical.not_not.mp hc1) (by decide)
      have a1 := cap1_ok (v := upd (fun _ => 0) 0 (hr tx p)) ht hp
      unfold se2 at h ⊢
      split
      · rename_i hc2; rw [if_pos hc2] at h; cases h
      · rename_i hc2
        rw [if_neg hc2] at h
        generalize cap1 tx (upd (fun _ => 0) 0 (hr tx p)) (p + 2) = r1 at a1 h hc2 ⊢
        have a2 := pr1_ok (v := r1.2.1) ht a1.1
        unfold se3 at h ⊢
        split
        · rename_i hc3; rw [if_pos hc3] at h; cases h
        · show p < (pr1 tx r1.2.1 r1.2.2).2.2 + 1
          have := a1.2.1
          have := a2.2.1
          omega
theorem lnF_gt {tx : Sq} {D : Dst} {p : Nat} (ht : tx.2 ≤ 500) (h : (lnF tx D p).1 = true) : p < (lnF tx D p).2.2 := by
  unfold lnF at h ⊢
  split
  · rename_i hc; rw [if_pos hc] at h; exact rdR_gt ht h
  · rename_i hc
    rw [if_neg hc] at h
    split
    · rename_i hc1; rw [if_pos hc1] at h; exact rdH_gt ht h
    · rename_i hc1; rw [if_neg hc1] at h; exact rdS_gt ht h
/-- how a text ends -/
def Wt (g : GG) (m0 : Mm) (rd ts tr ed sa fa la za : Nat) (day : Int32) (tx : Sq) (r : Pd) : Ou → Mm → Prop := fun o m' => o = .inl (some (.int (bi r.1))) ∧ ∃ sv', DR g m' rd ts tr ed sa fa la za sv' day tx r.2.1 r.2.2 ∧ Fr (ftp rd ed sa fa la za) m0 m' ∧ ∀ j, j < r.2.1.1 → sv' j ∉ m0.2
section C10
variable {g : GG}
theorem Wt_step {m0 mm m' : Mm} {rd ts tr ed sa fa la za : Nat} {sv : Nat → Nat} {day : Int32} {tx : Sq} {k : Nat} {r : Pd} {o : Ou} (hF : Fr (ftp rd ed sa fa la za) m0 mm) (hn : ∀ i, i < k → sv i ∉ m0.2) (h : Le g mm rd ts tr ed sa fa la za k sv day tx (fts rd ed sa fa la za k sv) r o m') : Wt g m0 rd ts tr ed sa fa la za day tx r o m' := by
  obtain ⟨h1, sv', h2, h3, h4⟩ := h
  refine ⟨h1, sv', h2, Fr_tr hF h3 (fun b hb hS => ?_), fun j hj => ?_⟩
  · rcases hS with hS | ⟨j, hj, e⟩
    · exact hS
    · exact absurd (e ▸ hb) (hn j hj)
  · rcases h4 j hj with h5 | ⟨h5, h6⟩
    · exact fun z => h5 (hF.1 _ z)
    · rw [h6]; exact hn j h5
set_option maxRecDepth 20000 in
theorem l_R_whole (hg : GO g) {m0 : Mm} {rd ts tr ed sa fa la za : Nat} {day : Int32} {tx : Sq} {Fi : Ou → Mm → Prop} : ∀ (n j : Nat) (sv : Nat → Nat) (D : Dst) (p : Nat) (mm : Mm) (x : List (Nat × Value)), 501 ≤ n + p → j ≤ p → DR g mm rd ts tr ed sa fa la za sv day tx D p → Fr (ftp rd ed sa fa la za) m0 mm → (∀ i, i < D.1 → sv i ∉ m0.2) → chk [(0, .ref rd), (1, .int (nI j))] x → (∀ o m', Wt g m0 rd ts tr ed sa fa la za day tx (whF tx n D p) o m' → Fi o m') → V g m_R_readsWholeText 5 114 (501 - p) (9 * (501 - p)) 19 x [] mm Fi := by
  intro n
  induction n with
  | zero =>
    intro j sv D p mm x hn hj h hF hs hx hE
    have hp : p ≤ 500 := h.2.2.2.2.2.2.2.1
    omega
  | succ n ih =>
    intro j sv D p mm x hn hj h hF hs hx hE
    have hp : p ≤ 500 := h.2.2.2.2.2.2.2.1
    have hT : tx.2 ≤ 500 := h.2.1.2.2.1
    have h1 := h.1
    have h2 := h.2.1.1
    have hxx := DR_rdr h
    have c1 := c_R_here hg hxx (p := p) (by omega)
    rw [DR_id h] at c1
    refine V_lo _ hx ?_
    obtain ⟨B, hB⟩ : ∃ B, B + p = 500 := ⟨500 - p, by omega⟩
    obtain ⟨C, hC⟩ : ∃ C, C = 9 * B := ⟨_, rfl⟩
    refine V_bud (bc' := (B + 1) + 0) (bs' := (C + 9) + 0) (by omega) (by omega) ?_
    by_cases hlt : p < tx.2
    · rw [whF, if_pos hlt] at hE
      refine V_iload_n d_R_readsWholeText_19 rfl rfl ?_
      refine V_sipush (v := 500) d_R_readsWholeText_20 (by decide) ?_
      refine V_icmp_ge (tgt := 88) d_R_readsWholeText_23 (by decide) (fun h_23 => ?_) (fun h_23 => ?_)
      · exact absurd h_23 (nI_ge (b := 500) (by omega) (by omega))
      · first | refine V_aload_n d_R_readsWholeText_26 rfl rfl ?_ | refine V_aloadN_n d_R_readsWholeText_26 rfl rfl ?_
        refine Vget fl_R_25 d_R_readsWholeText_27 (by repeat first | assumption | apply Ob_s | apply Ob_n) rfl ?_
        first | refine V_aload_n d_R_readsWholeText_30 rfl rfl ?_ | refine V_aloadN_n d_R_readsWholeText_30 rfl rfl ?_
        refine Vget fl_R_9 d_R_readsWholeText_31 (by repeat first | assumption | apply Ob_s | apply Ob_n) rfl ?_
        refine Vget fl_R_32 d_R_readsWholeText_34 (by repeat first | assumption | apply Ob_s | apply Ob_n) rfl ?_
        refine V_icmp_ge (tgt := 88) d_R_readsWholeText_37 (by decide) (fun h_37 => ?_) (fun h_37 => ?_)
        · exact absurd h_37 (nI_ge (by omega) (by omega))
        · first | refine V_aload_n d_R_readsWholeText_40 rfl rfl ?_ | refine V_aloadN_n d_R_readsWholeText_40 rfl rfl ?_
          refine VcallV cb_R_here mv_R_37 rfl (ci := 2) rfl rfl d_R_readsWholeText_41 c1 ⟨by decide, by decide⟩ rfl (by repeat first | assumption | apply Ob_s | apply Ob_n) rfl (Nat.le_of_ble_eq_true rfl) (fun _ _ h => nomatch h.1) (fun v m2 hR => ?_)
          obtain ⟨hv9, e9⟩ := hR
          cases hv9
          subst m2
          -- behind a line
          have key : ∀ (v : Option Value) (m2 : Mm), Le g mm rd ts tr ed sa fa la za D.1 sv day tx (fts rd ed sa fa la za D.1 sv) (lnF tx D p) (.inl v) m2 → V g m_R_readsWholeText 5 114 B C 75 [(2, .int (hr tx p)), (0, .ref rd), (1, .int (nI j))] (v.toList ++ []) m2 Fi := by
            intro v m2 hL
            have hW := Wt_step hF hs hL
            have hv := hW.1
            injection hv with hv
            subst hv
            refine V_istore_n d_R_readsWholeText_75 rfl rfl ?_
            refine V_iload_n d_R_readsWholeText_76 rfl rfl ?_
            refine V_if_ne (tgt := 82) d_R_readsWholeText_77 (by decide) (fun h_77 => ?_) (fun h_77 => ?_)
            · rw [bi_ne0] at h_77
              rw [if_pos h_77] at hE
              have hgt := lnF_gt hT h_77
              obtain ⟨-, sv', hD', hF', hs'⟩ := hW
              refine V_iinc d_R_readsWholeText_82 rfl (nI_inc _) rfl ?_
              refine V_goto (tgt := 19) d_R_readsWholeText_85 (by decide) ?_
              exact V_bud (by omega) (by omega) (ih (j + 1) sv' _ _ m2 _ (by omega) (by omega) hD' hF' hs' ⟨rfl, rfl, trivial⟩ hE)
            · have h7 : (lnF tx D p).1 = false := bi_eq0.mp (by simpa using h_77)
              rw [if_neg (by rw [h7]; decide)] at hE
              refine V_iconst (v := 0) d_R_readsWholeText_80 (by decide) ?_
              refine V_iret d_R_readsWholeText_81 rfl rfl (hE _ _ ?_)
              obtain ⟨-, hW2⟩ := hW
              exact ⟨by rw [h7]; rfl, hW2⟩
          refine V_istore_n d_R_readsWholeText_44 rfl rfl ?_
          refine V_iload_n d_R_readsWholeText_45 rfl rfl ?_
          refine V_bipush (v := 47) d_R_readsWholeText_46 (by decide) ?_
          refine V_icmp_ne (tgt := 58) d_R_readsWholeText_48 (by decide) (fun h_48 => ?_) (fun h_48 => ?_)
          · refine V_iload_n d_R_readsWholeText_58 rfl rfl ?_
            refine V_bipush (v := 42) d_R_readsWholeText_59 (by decide) ?_
            refine V_icmp_ne (tgt := 71) d_R_readsWholeText_61 (by decide) (fun h_61 => ?_) (fun h_61 => ?_)
            · first | refine V_aload_n d_R_readsWholeText_71 rfl rfl ?_ | refine V_aloadN_n d_R_readsWholeText_71 rfl rfl ?_
              refine V_bud (bc' := B + 1) (bs' := C + 9) (by omega) (by omega) ?_
              refine VcallV cb_R_readsService mv_R_48 rfl (ci := 2) rfl rfl d_R_readsWholeText_72 (c_R_readsService hg h) ⟨by decide, by decide⟩ rfl (by repeat first | assumption | apply Ob_s | apply Ob_n) rfl (Nat.le_of_ble_eq_true rfl) (fun _ _ h => nomatch h.1) (fun v m2 hR => ?_)
              refine key v m2 (Le_mono ?_ (fun b hb => Or.inl hb))
              rw [lnF, if_neg h_48, if_neg h_61]
              exact hR
            · have h61 : hr tx p = 42 := h_61
              first | refine V_aload_n d_R_readsWholeText_64 rfl rfl ?_ | refine V_aloadN_n d_R_readsWholeText_64 rfl rfl ?_
              refine V_bud (bc' := B + 0) (bs' := C + 0) (by omega) (by omega) ?_
              refine VcallV cb_R_readsHours mv_R_45 rfl (ci := 2) rfl rfl d_R_readsWholeText_65 (c_R_readsHours hg h h61) ⟨by decide, by decide⟩ rfl (by repeat first | assumption | apply Ob_s | apply Ob_n) rfl (Nat.le_of_ble_eq_true rfl) (fun _ _ h => nomatch h.1) (fun v m2 hR => ?_)
              refine V_goto (tgt := 75) d_R_readsWholeText_68 (by decide) (key v m2 ?_)
              rw [lnF, if_neg h_48, if_pos h61]
              exact hR
          · have h48 : hr tx p = 47 := h_48
            first | refine V_aload_n d_R_readsWholeText_51 rfl rfl ?_ | refine V_aloadN_n d_R_readsWholeText_51 rfl rfl ?_
            refine V_bud (bc' := B + 0) (bs' := C + 0) (by omega) (by omega) ?_
            refine VcallV cb_R_readsRange mv_R_41 rfl (ci := 2) rfl rfl d_R_readsWholeText_52 (c_R_readsRange hg h h48) ⟨by decide, by decide⟩ rfl (by repeat first | assumption | apply Ob_s | apply Ob_n) rfl (Nat.le_of_ble_eq_true rfl) (fun _ _ h => nomatch h.1) (fun v m2 hR => ?_)
            refine V_goto (tgt := 75) d_R_readsWholeText_55 (by decide) (key v m2 (Le_mono ?_ (fun b hb => Or.inl hb)))
            rw [lnF, if_pos h48]
            exact hR
    · rw [whF, if_neg hlt] at hE
      have fin : Fi (.inl (some (.int 1))) mm := hE _ _ ⟨rfl, sv, h, hF, hs⟩
      refine V_iload_n d_R_readsWholeText_19 rfl rfl ?_
      refine V_sipush (v := 500) d_R_readsWholeText_20 (by decide) ?_
      refine V_icmp_ge (tgt := 88) d_R_readsWholeText_23 (by decide) (fun h_23 => ?_) (fun h_23 => ?_)
      · refine V_iconst (v := 1) d_R_readsWholeText_88 (by decide) ?_
        exact V_iret d_R_readsWholeText_89 rfl rfl fin
      · first | refine V_aload_n d_R_readsWholeText_26 rfl rfl ?_ | refine V_aloadN_n d_R_readsWholeText_26 rfl rfl ?_
        refine Vget fl_R_25 d_R_readsWholeText_27 (by repeat first | assumption | apply Ob_s | apply Ob_n) rfl ?_
        first | refine V_aload_n d_R_readsWholeText_30 rfl rfl ?_ | refine V_aloadN_n d_R_readsWholeText_30 rfl rfl ?_
        refine Vget fl_R_9 d_R_readsWholeText_31 (by repeat first | assumption | apply Ob_s | apply Ob_n) rfl ?_
        refine Vget fl_R_32 d_R_readsWholeText_34 (by repeat first | assumption | apply Ob_s | apply Ob_n) rfl ?_
        refine V_icmp_ge (tgt := 88) d_R_readsWholeText_37 (by decide) (fun h_37 => ?_) (fun h_37 => ?_)
        · refine V_iconst (v := 1) d_R_readsWholeText_88 (by decide) ?_
          exact V_iret d_R_readsWholeText_89 rfl rfl fin
        · exact absurd (nI_le (by omega) (by omega)) h_37
theorem c_R_readsWholeText (hg : GO g) {mm : Mm} {rd ts tr ed sa fa la za p0 k0 q0 : Nat} {lk0 day : Int32} {tx : Sq} {rf : Nat → Option Nat} {f1 f2 f3 : Fw} (h1 : Ob mm rd 2 (rdL ts ed p0 lk0)) (h2 : Sgm g mm ts tr 500 tx) (h3 : Ob mm ed 0 (edL sa fa la za k0 q0 day)) (h4 : Qa g mm 2 sa 26 rf) (h5 : Rgs g mm fa la za f1 f2 f3) (h6 : fa ≠ la ∧ fa ≠ za ∧ la ≠ za ∧ tr ≠ fa ∧ tr ≠ la ∧ tr ≠ za) : CT g m_R_readsWholeText 5 114 501 4509 [.ref rd] mm (Wt g mm rd ts tr ed sa fa la za day tx (whF tx 501 (0, fun _ _ => 0, 0, f1, f2, f3, -1) 0)) := by
  have n1 := Ob_neC h1 h3 (by decide)
  have hD : DR g (rdM (up mm ed (.inr (0, edL sa fa la za 0 0 day))) rd ts ed (-1) 0) rd ts tr ed sa fa la za (fun _ => 0) day tx (0, fun _ _ => 0, 0, f1, f2, f3, -1) 0 := by
    have hA : DR g (rdM (up mm ed (.inr (0, edL sa fa la za 0 0 day))) rd ts ed lk0 0) rd ts tr ed sa fa la za (fun _ => 0) day tx (0, fun _ _ => 0, 0, f1, f2, f3, lk0) 0 := by
      have m1 : Ob (up mm ed (.inr (0, edL sa fa la za 0 0 day))) rd 2 (rdL ts ed p0 lk0) := Ob_n h1 n1
      have m2 : Sgm g (up mm ed (.inr (0, edL sa fa la za 0 0 day))) ts tr 500 tx := Sgm_n h2 (Ob_neC h2.1 h3 (by decide)) (Ne.symm (Ob_neI h3 h2.2.1))
      have m4 : Qa g (up mm ed (.inr (0, edL sa fa la za 0 0 day))) 2 sa 26 rf := Qa_n h4 (Ne.symm (Ob_neQ h3 h4))
      exact ⟨Ob_s m1, Sgm_n m2 (Ob_neC m2.1 m1 (by decide)) (Ne.symm (Ob_neI m1 m2.2.1)), Ob_n (Ob_s h3) (Ne.symm n1), ⟨rf, Qa_n m4 (Ne.symm (Ob_neQ m1 m4)), Nat.zero_le _, fun j hj => absurd hj (Nat.not_lt_zero j)⟩, ⟨Ia_n (Ia_n h5.1 (Ne.symm (Ob_neI h3 h5.1))) (Ne.symm (Ob_neI h1 h5.1)), Ia_n (Ia_n h5.2.1 (Ne.symm (Ob_neI h3 h5.2.1))) (Ne.symm (Ob_neI h1 h5.2.1)), Ia_n (Ia_n h5.2.2 (Ne.symm (Ob_neI h3 h5.2.2))) (Ne.symm (Ob_neI h1 h5.2.2))⟩, h6, fun i j hi => absurd hi (Nat.not_lt_zero i), Nat.zero_le _, Nat.le_refl _, fun i hi => absurd hi (Nat.not_lt_zero i), fun i j hi => absurd hi (Nat.not_lt_zero i)⟩
    have z := DR_p hA (p' := 0) (Nat.zero_le _) (Nat.le_refl 0) (-1)
    have e : rdM (rdM (up mm ed (.inr (0, edL sa fa la za 0 0 day))) rd ts ed lk0 0) rd ts ed (-1) 0 = rdM (up mm ed (.inr (0, edL sa fa la za 0 0 day))) rd ts ed (-1) 0 := up_up
    rw [← e]
    exact z
  refine CT_go (lo := [(0, .ref rd)]) rfl rfl rfl rfl hg ?_
  first | refine V_aload_n d_R_readsWholeText_0 rfl rfl ?_ | refine V_aloadN_n d_R_readsWholeText_0 rfl rfl ?_
  refine Vget fl_R_18 d_R_readsWholeText_1 (by repeat first | assumption | apply Ob_s | apply Ob_n) rfl ?_
  refine VcallV cb_E_clear mv_R_22 rfl (ci := 0) rfl rfl d_R_readsWholeText_4 (c_E_clear hg h3) ⟨by decide, by decide⟩ rfl (by repeat first | assumption | apply Ob_s | apply Ob_n) rfl (Nat.le_of_ble_eq_true rfl) (fun _ _ h => nomatch h.1) (fun v m2 hR => ?_)
  obtain ⟨hv9, e9⟩ := hR
  cases hv9
  subst m2
  first | refine V_aload_n d_R_readsWholeText_7 rfl rfl ?_ | refine V_aloadN_n d_R_readsWholeText_7 rfl rfl ?_
  refine V_iconst (v := 0) d_R_readsWholeText_8 (by decide) ?_
  refine Vput pl_R_25 d_R_readsWholeText_9 (by repeat first | assumption | apply Ob_s | apply Ob_n) rfl rfl (Nat.le_of_ble_eq_true rfl) ?_
  first | refine V_aload_n d_R_readsWholeText_12 rfl rfl ?_ | refine V_aloadN_n d_R_readsWholeText_12 rfl rfl ?_
  refine V_iconst (v := -1) d_R_readsWholeText_13 (by decide) ?_
  refine Vput pl_R_29 d_R_readsWholeText_14 (by repeat first | assumption | apply Ob_s | apply Ob_n) rfl rfl (Nat.le_of_ble_eq_true rfl) ?_
  refine V_iconst (v := 0) d_R_readsWholeText_17 (by decide) ?_
  refine V_istore_n d_R_readsWholeText_18 rfl rfl ?_
  refine ek_v (P := fun z => V g m_R_readsWholeText 5 114 501 4509 _ _ _ z _) (show _ = rdM (up mm ed (.inr (0, edL sa fa la za 0 0 day))) rd ts ed (-1) 0 from up_up) ?_
  exact l_R_whole hg 501 0 _ _ 0 _ _ (by omega) (Nat.le_refl _) hD (Fr_up (Fr_up Fr_rf (Or.inr (Or.inl rfl))) (Or.inl rfl)) (fun i hi => absurd hi (Nat.not_lt_zero i)) ⟨rfl, rfl, trivial⟩ (fun _ _ z => z)
end C10
