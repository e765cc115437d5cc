/-! hours of a service -/
def fts (rd ed sa fa la za k : Nat) (sv : Nat → Nat) (b : Nat) : Prop := ftp rd ed sa fa la za b ∨ ∃ j, j < k ∧ b = sv j
def setR (v : Nat → Nat → Int32) (j : Nat) (w : Fw) : Nat → Nat → Int32 := fun i => if i = j then w else v i
theorem fndF_some {v : Nat → Nat → Int32} {c : Int32} : ∀ {n j i : Nat}, fndF v c n j = some i → j ≤ i ∧ i < j + n ∧ v i 0 = c
  | 0, _, _, h => nomatch h
  | n + 1, j, i, h => by
    unfold fndF at h
    split at h
    · rename_i hc
      injection h with h
      subst h
      exact ⟨Nat.le_refl _, by omega, hc⟩
    · have := fndF_some h
      exact ⟨by omega, by omega, this.2.2⟩
theorem fndF_none {v : Nat → Nat → Int32} {c : Int32} : ∀ {n j : Nat}, fndF v c n j = none → ∀ i, j ≤ i → i < j + n → v i 0 ≠ c
  | 0, _, _, _, h1, h2 => by omega
  | n + 1, j, h, i, h1, h2 => by
    unfold fndF at h
    split at h
    · cases h
    · rename_i hc
      by_cases e : i = j
      · subst e; exact hc
      · exact fndF_none h i (by omega) (by omega)
def ho3 (tx : Sq) (D : Dst) (j : Nat) (a : Int32) (p : Nat) : Pd := if (countN tx 2 (a + 1) 24 p).1 = -1 ∨ ¬ hr tx (countN tx 2 (a + 1) 24 p).2 = 10 then (false, D, (countN tx 2 (a + 1) 24 p).2) else (true, (D.1, setR D.2.1 j (upd (upd (D.2.1 j) 7 a) 8 (countN tx 2 (a + 1) 24 p).1), D.2.2), (countN tx 2 (a + 1) 24 p).2 + 1)
def ho2 (tx : Sq) (D : Dst) (j : Nat) (p : Nat) : Pd := if (countN tx 2 0 23 p).1 = -1 ∨ ¬ hr tx (countN tx 2 0 23 p).2 = 45 then (false, D, (countN tx 2 0 23 p).2) else ho3 tx D j (countN tx 2 0 23 p).1 ((countN tx 2 0 23 p).2 + 1)
def ho1 (tx : Sq) (D : Dst) (p : Nat) : Option Nat → Pd
  | none => (false, D, p + 1)
  | some j => if 0 < D.2.1 j 8 then (false, D, p + 1) else if ¬ hr tx (p + 2) = 58 then (false, D, p + 2) else ho2 tx D j (p + 3)
def rdH (tx : Sq) (D : Dst) (p : Nat) : Pd := ho1 tx D p (fndF D.2.1 (hr tx (p + 1)) D.1 0)
theorem Fr_mono {S S' : Nat → Prop} {m1 m2 : Mm} (h : Fr S m1 m2) (hS : ∀ b, S b → S' b) : Fr S' m1 m2 := ⟨h.1, fun b hb hn => h.2 b hb (fun z => hn (hS b z))⟩
theorem Le_mono {g : GG} {mm : Mm} {rd ts tr ed sa fa la za : Nat} {sv : Nat → Nat} {day : Int32} {tx : Sq} {S S' : Nat → Prop} {k : Nat} {r : Pd} {o : Ou} {m' : Mm} (h : Le g mm rd ts tr ed sa fa la za k sv day tx S r o m') (hS : ∀ b, S b → S' b) : Le g mm rd ts tr ed sa fa la za k sv day tx S' r o m' := by
  obtain ⟨h1, sv', h2, h3, h4⟩ := h
  exact ⟨h1, sv', h2, Fr_mono h3 hS, h4⟩
section C8
variable {g : GG}
/-- a service of the draft changes, its letter stays -/
theorem DR_sv {mm : Mm} {rd ts tr ed sa fa la za : Nat} {sv : Nat → Nat} {day : Int32} {tx : Sq} {D : Dst} {p : Nat} (h : DR g mm rd ts tr ed sa fa la za sv day tx D p) {j : Nat} (hj : j < D.1) {w : Fw} (hw : w 0 = D.2.1 j 0) : DR g (up mm (sv j) (.inr (3, svL w))) rd ts tr ed sa fa la za sv day tx (D.1, setR D.2.1 j w, D.2.2) p := by
  obtain ⟨h1, h2, h3, ⟨rf, h4a, h4b, h4c⟩, ⟨h5, h6, h7⟩, h8, h9, h10, h11, h12, h13⟩ := h
  have ho := (h4c j hj).2
  have hl : ∀ i, setR D.2.1 j w i 0 = D.2.1 i 0 := by
    intro i
    unfold setR
    split
    · rename_i e; rw [e]; exact hw
    · rfl
  refine ⟨Ob_n h1 (Ob_neC h1 ho (by decide)), Sgm_n h2 (Ob_neC h2.1 ho (by decide)) (Ne.symm (Ob_neI ho h2.2.1)), Ob_n h3 (Ob_neC h3 ho (by decide)), ⟨rf, Qa_n h4a (Ne.symm (Ob_neQ ho h4a)), h4b, fun i hi => ⟨(h4c i hi).1, ?_⟩⟩, ⟨Ia_n h5 (Ne.symm (Ob_neI ho h5)), Ia_n h6 (Ne.symm (Ob_neI ho h6)), Ia_n h7 (Ne.symm (Ob_neI ho h7))⟩, h8, h9, h10, h11, fun i hi => ?_, fun i k hi hk e => h13 i k hi hk ?_⟩
  · show Ob _ _ 3 (svL (setR D.2.1 j w i))
    unfold setR
    by_cases e : i = j
    · subst e
      rw [if_pos rfl]
      exact Ob_s ho
    · rw [if_neg e]
      exact Ob_n (h4c i hi).2 (fun z => e (h9 i j hi hj z))
  · show wi (setR D.2.1 j w i 0) 65 90 = true
    rw [hl]
    exact h12 i hi
  · have e' : setR D.2.1 j w i 0 = setR D.2.1 j w k 0 := e
    rwa [hl, hl] at e'
set_option maxRecDepth 20000 in
theorem c_R_readsHours (hg : GO g) {mm : Mm} {rd ts tr ed sa fa la za : Nat} {sv : Nat → Nat} {day : Int32} {tx : Sq} {D : Dst} {p : Nat} (h : DR g mm rd ts tr ed sa fa la za sv day tx D p) (hc0 : hr tx p = 42) : CT g m_R_readsHours 3 72 0 0 [.ref rd] mm (Le g mm rd ts tr ed sa fa la za D.1 sv day tx (fts rd ed sa fa la za D.1 sv) (rdH tx D p)) := by
  have hx := DR_rdr h
  have hT : tx.2 ≤ 500 := h.2.1.2.2.1
  have h1 := h.1
  have hq0 : D.2.2.1 ≤ p := h.2.2.2.2.2.2.2.2.1
  have hp1 : p + 1 ≤ 500 := ps_le hT hc0 (by decide)
  have bad : ∀ p', p' ≤ 500 → D.2.2.1 ≤ p' → Le g mm rd ts tr ed sa fa la za D.1 sv day tx (fts rd ed sa fa la za D.1 sv) (false, D, p') (.inl (some (.int 0))) (rdM mm rd ts ed D.2.2.2.2.2.2 p') :=
    fun p' e1 e2 => ⟨rfl, sv, DR_p h e1 e2 _, Fr_up Fr_rf (Or.inl (Or.inl rfl)), fun j hj => Or.inr ⟨hj, rfl⟩⟩
  have e0 : up mm rd (.inr (2, [.ref ts, .ref ed, .int (nI p + 1), .int D.2.2.2.2.2.2])) = rdM mm rd ts ed D.2.2.2.2.2.2 (p + 1) := by
    rw [← nI_succ]
    rfl
  refine CT_go (lo := [(0, .ref rd)]) rfl rfl rfl rfl hg ?_
  first | refine V_aload_n d_R_readsHours_0 rfl rfl ?_ | refine V_aloadN_n d_R_readsHours_0 rfl rfl ?_
  refine V_dup d_R_readsHours_1 rfl ?_
  refine Vget fl_R_25 d_R_readsHours_2 (by repeat first | assumption | apply Ob_s | apply Ob_n) rfl ?_
  refine V_iconst (v := 1) d_R_readsHours_5 (by decide) ?_
  refine V_iadd d_R_readsHours_6 ?_
  refine Vput pl_R_25 d_R_readsHours_7 (by repeat first | assumption | apply Ob_s | apply Ob_n) rfl rfl (Nat.le_of_ble_eq_true rfl) ?_
  refine ek_v (P := fun z => V g m_R_readsHours 3 72 0 0 _ _ _ z _) e0 ?_
  have h2 := hx.ob (p + 1)
  have hD1 := DR_p h hp1 (Nat.le_trans hq0 (Nat.le_succ p)) D.2.2.2.2.2.2
  obtain ⟨rf, hS1⟩ := hD1.2.2.2.1
  have hE1 := hD1.2.2.1
  first | refine V_aload_n d_R_readsHours_10 rfl rfl ?_ | refine V_aloadN_n d_R_readsHours_10 rfl rfl ?_
  refine Vget fl_R_18 d_R_readsHours_11 (by repeat first | assumption | apply Ob_s | apply Ob_n) rfl ?_
  first | refine V_aload_n d_R_readsHours_14 rfl rfl ?_ | refine V_aloadN_n d_R_readsHours_14 rfl rfl ?_
  refine VcallV cb_R_here mv_R_37 rfl (ci := 2) rfl rfl d_R_readsHours_15 (c_R_here hg hx (p := p + 1) (by omega)) ⟨by decide, by decide⟩ rfl (by repeat first | assumption | apply Ob_s | apply Ob_n) rfl (Nat.le_of_ble_eq_true rfl) (fun _ _ h => nomatch h.1) (fun v m2 hR => ?_)
  obtain ⟨hv9, e9⟩ := hR
  cases hv9
  subst m2
  refine VcallV cb_E_find mv_R_55 rfl (ci := 0) rfl rfl d_R_readsHours_18 (c_E_find hg hE1 hS1 _) ⟨by decide, by decide⟩ rfl (by repeat first | assumption | apply Ob_s | apply Ob_n) rfl (Nat.le_of_ble_eq_true rfl) (fun _ _ h => nomatch h.1) (fun v m2 hR => ?_)
  obtain ⟨hv9, e9⟩ := hR
  cases hv9
  subst m2
  unfold rdH
  cases hf : fndF D.2.1 (hr tx (p + 1)) D.1 0 with
  | none =>
    refine V_astoreN_n d_R_readsHours_21 rfl rfl ?_
    first | refine V_aload_n d_R_readsHours_22 rfl rfl ?_ | refine V_aloadN_n d_R_readsHours_22 rfl rfl ?_
    first | refine V_ifnullR d_R_readsHours_23 ?_ | refine V_ifnullN (tgt := 33) d_R_readsHours_23 (by decide) ?_
    refine V_iconst (v := 0) d_R_readsHours_33 (by decide) ?_
    exact V_iret d_R_readsHours_34 rfl rfl (bad _ hp1 (by omega))
  | some j =>
    obtain ⟨-, hj, hvc⟩ := fndF_some hf
    rw [Nat.zero_add] at hj
    have hne : hr tx (p + 1) ≠ -1 := by
      rw [← hvc]
      intro z
      have := h.2.2.2.2.2.2.2.2.2.1 j hj
      rw [z] at this
      exact absurd this (by decide)
    have hp2 : p + 2 ≤ 500 := by have := hr_lt hne; omega
    have ho := (hS1.2.2 j hj).2
    refine V_astore_n (x := sv j) d_R_readsHours_21 rfl rfl ?_
    first | refine V_aload_n d_R_readsHours_22 rfl rfl ?_ | refine V_aloadN_n d_R_readsHours_22 rfl rfl ?_
    first | refine V_ifnullR d_R_readsHours_23 ?_ | refine V_ifnullN (tgt := 33) d_R_readsHours_23 (by decide) ?_
    first | refine V_aload_n d_R_readsHours_26 rfl rfl ?_ | refine V_aloadN_n d_R_readsHours_26 rfl rfl ?_
    refine VcallV cb_S_hasHours mv_R_111 rfl (ci := 3) rfl rfl d_R_readsHours_27 (c_S_hasHours hg ho) ⟨by decide, by decide⟩ rfl (by repeat first | assumption | apply Ob_s | apply Ob_n) rfl (Nat.le_of_ble_eq_true rfl) (fun _ _ h => nomatch h.1) (fun v m2 hR => ?_)
    obtain ⟨hv9, e9⟩ := hR
    cases hv9
    subst m2
    rw [ho1]
    refine V_if_eq (tgt := 35) d_R_readsHours_30 (by decide) (fun h_30 => ?_) (fun h_30 => ?_)
    · rw [bi_eq0] at h_30
      have h8 : ¬ 0 < D.2.1 j 8 := of_decide_eq_false h_30
      rw [if_neg h8]
      first | refine V_aload_n d_R_readsHours_35 rfl rfl ?_ | refine V_aloadN_n d_R_readsHours_35 rfl rfl ?_
      refine V_dup d_R_readsHours_36 rfl ?_
      refine Vget fl_R_25 d_R_readsHours_37 (by repeat first | assumption | apply Ob_s | apply Ob_n) rfl ?_
      refine V_iconst (v := 1) d_R_readsHours_40 (by decide) ?_
      refine V_iadd d_R_readsHours_41 ?_
      refine Vput pl_R_25 d_R_readsHours_42 (by repeat first | assumption | apply Ob_s | apply Ob_n) rfl rfl (Nat.le_of_ble_eq_true rfl) ?_
      refine ek_v (P := fun z => V g m_R_readsHours 3 72 0 0 _ _ _ z _) (show _ = rdM mm rd ts ed D.2.2.2.2.2.2 (p + 2) from rdM_inc) ?_
      have h3 := hx.ob (p + 2)
      first | refine V_aload_n d_R_readsHours_45 rfl rfl ?_ | refine V_aloadN_n d_R_readsHours_45 rfl rfl ?_
      refine V_bipush (v := 58) d_R_readsHours_46 (by decide) ?_
      refine VcallV cb_R_passes mv_R_64 rfl (ci := 2) rfl rfl d_R_readsHours_48 (c_R_passes hg hx (p := p + 2) (by omega) 58) ⟨by decide, by decide⟩ rfl (by repeat first | assumption | apply Ob_s | apply Ob_n) rfl (Nat.le_of_ble_eq_true rfl) (fun _ _ h => nomatch h.1) (fun v m2 hR => ?_)
      obtain ⟨hv9, e9⟩ := hR
      cases hv9
      subst m2
      refine V_if_ne (tgt := 56) d_R_readsHours_51 (by decide) (fun h_51 => ?_) (fun h_51 => ?_)
      · rw [bi_ne0] at h_51
        have hc := of_decide_eq_true h_51
        have q2 : p + 3 ≤ 500 := ps_le hT hc (by decide)
        rw [if_pos hc, if_neg (fun z => z hc)]
        have h4 := hx.ob (p + 3)
        first | refine V_aload_n d_R_readsHours_56 rfl rfl ?_ | refine V_aloadN_n d_R_readsHours_56 rfl rfl ?_
        refine V_iconst (v := 2) d_R_readsHours_57 (by decide) ?_
        refine V_iconst (v := 0) d_R_readsHours_58 (by decide) ?_
        refine V_bipush (v := 23) d_R_readsHours_59 (by decide) ?_
        refine VcallV cb_R_countedNumber mv_R_103 rfl (ci := 2) rfl rfl d_R_readsHours_61 (c_R_countedNumber (m := 2) hg hx q2 (by decide) _ _) ⟨by decide, by decide⟩ rfl (by repeat first | assumption | apply Ob_s | apply Ob_n) rfl (Nat.le_of_ble_eq_true rfl) (fun _ _ h => nomatch h.1) (fun v m2 hR => ?_)
        obtain ⟨hv9, e9⟩ := hR
        cases hv9
        subst m2
        have q3 : (countN tx 2 0 23 (p + 3)).2 ≤ 500 := countN_le hT q2
        have q3' : D.2.2.1 ≤ (countN tx 2 0 23 (p + 3)).2 := Nat.le_trans hq0 (Nat.le_trans (by omega) (countN_ge hT))
        unfold ho2
        generalize countN tx 2 0 23 (p + 3) = r1 at q3 q3' ⊢
        have h5 := hx.ob r1.2
        refine V_istore_n d_R_readsHours_64 rfl rfl ?_
        refine V_iload_n d_R_readsHours_65 rfl rfl ?_
        refine V_iconst (v := -1) d_R_readsHours_66 (by decide) ?_
        refine V_icmp_eq (tgt := 79) d_R_readsHours_67 (by decide) (fun h_67 => ?_) (fun h_67 => ?_)
        · refine V_iconst (v := 0) d_R_readsHours_79 (by decide) ?_
          rw [if_pos (Or.inl h_67)]
          exact V_iret d_R_readsHours_80 rfl rfl (bad _ q3 q3')
        · first | refine V_aload_n d_R_readsHours_70 rfl rfl ?_ | refine V_aloadN_n d_R_readsHours_70 rfl rfl ?_
          refine V_bipush (v := 45) d_R_readsHours_71 (by decide) ?_
          refine VcallV cb_R_passes mv_R_64 rfl (ci := 2) rfl rfl d_R_readsHours_73 (c_R_passes hg hx (p := r1.2) (by omega) 45) ⟨by decide, by decide⟩ rfl (by repeat first | assumption | apply Ob_s | apply Ob_n) rfl (Nat.le_of_ble_eq_true rfl) (fun _ _ h => nomatch h.1) (fun v m2 hR => ?_)
          obtain ⟨hv9, e9⟩ := hR
          cases hv9
          subst m2
          refine V_if_ne (tgt := 81) d_R_readsHours_76 (by decide) (fun h_76 => ?_) (fun h_76 => ?_)
          · rw [bi_ne0] at h_76
            have hc2 := of_decide_eq_true h_76
            have q4 := ps_le hT hc2 (by decide)
            rw [if_pos hc2, if_neg (fun z => z.elim h_67 (fun q => q hc2))]
            have h6 := hx.ob (r1.2 + 1)
            first | refine V_aload_n d_R_readsHours_81 rfl rfl ?_ | refine V_aloadN_n d_R_readsHours_81 rfl rfl ?_
            refine V_iconst (v := 2) d_R_readsHours_82 (by decide) ?_
            refine V_iload_n d_R_readsHours_83 rfl rfl ?_
            refine V_iconst (v := 1) d_R_readsHours_84 (by decide) ?_
            refine V_iadd d_R_readsHours_85 ?_
            refine V_bipush (v := 24) d_R_readsHours_86 (by decide) ?_
            refine VcallV cb_R_countedNumber mv_R_103 rfl (ci := 2) rfl rfl d_R_readsHours_88 (c_R_countedNumber (m := 2) hg hx q4 (by decide) _ _) ⟨by decide, by decide⟩ rfl (by repeat first | assumption | apply Ob_s | apply Ob_n) rfl (Nat.le_of_ble_eq_true rfl) (fun _ _ h => nomatch h.1) (fun v m2 hR => ?_)
            obtain ⟨hv9, e9⟩ := hR
            cases hv9
            subst m2
            have q5 : (countN tx 2 (r1.1 + 1) 24 (r1.2 + 1)).2 ≤ 500 := countN_le hT q4
            have q5' : D.2.2.1 ≤ (countN tx 2 (r1.1 + 1) 24 (r1.2 + 1)).2 := Nat.le_trans q3' (Nat.le_trans (Nat.le_succ _) (countN_ge hT))
            unfold ho3
            generalize countN tx 2 (r1.1 + 1) 24 (r1.2 + 1) = r2 at q5 q5' ⊢
            have h7 := hx.ob r2.2
            refine V_istore_n d_R_readsHours_91 rfl rfl ?_
            refine V_iload_n d_R_readsHours_92 rfl rfl ?_
            refine V_iconst (v := -1) d_R_readsHours_93 (by decide) ?_
            refine V_icmp_eq (tgt := 106) d_R_readsHours_94 (by decide) (fun h_94 => ?_) (fun h_94 => ?_)
            · refine V_iconst (v := 0) d_R_readsHours_106 (by decide) ?_
              rw [if_pos (Or.inl h_94)]
              exact V_iret d_R_readsHours_107 rfl rfl (bad _ q5 q5')
            · first | refine V_aload_n d_R_readsHours_97 rfl rfl ?_ | refine V_aloadN_n d_R_readsHours_97 rfl rfl ?_
              refine V_bipush (v := 10) d_R_readsHours_98 (by decide) ?_
              refine VcallV cb_R_passes mv_R_64 rfl (ci := 2) rfl rfl d_R_readsHours_100 (c_R_passes hg hx (p := r2.2) (by omega) 10) ⟨by decide, by decide⟩ rfl (by repeat first | assumption | apply Ob_s | apply Ob_n) rfl (Nat.le_of_ble_eq_true rfl) (fun _ _ h => nomatch h.1) (fun v m2 hR => ?_)
              obtain ⟨hv9, e9⟩ := hR
              cases hv9
              subst m2
              refine V_if_ne (tgt := 108) d_R_readsHours_103 (by decide) (fun h_103 => ?_) (fun h_103 => ?_)
              · rw [bi_ne0] at h_103
                have hc3 := of_decide_eq_true h_103
                have q6 := ps_le hT hc3 (by decide)
                rw [if_pos hc3, if_neg (fun z => z.elim h_94 (fun q => q hc3))]
                have hD2 := DR_p h q6 (Nat.le_trans q5' (Nat.le_succ _)) D.2.2.2.2.2.2
                have ho2 : Ob (rdM mm rd ts ed D.2.2.2.2.2.2 (r2.2 + 1)) (sv j) 3 (svL (D.2.1 j)) := by
                  obtain ⟨rf2, hS2⟩ := hD2.2.2.2.1
                  exact (hS2.2.2 j hj).2
                first | refine V_aload_n d_R_readsHours_108 rfl rfl ?_ | refine V_aloadN_n d_R_readsHours_108 rfl rfl ?_
                refine V_iload_n d_R_readsHours_109 rfl rfl ?_
                refine Vput pl_R_114 d_R_readsHours_110 (by repeat first | assumption | apply Ob_s | apply Ob_n) rfl rfl (Nat.le_of_ble_eq_true rfl) ?_
                first | refine V_aload_n d_R_readsHours_113 rfl rfl ?_ | refine V_aloadN_n d_R_readsHours_113 rfl rfl ?_
                refine V_iload_n d_R_readsHours_114 rfl rfl ?_
                refine Vput pl_R_117 d_R_readsHours_115 (by repeat first | assumption | apply Ob_s | apply Ob_n) rfl rfl (Nat.le_of_ble_eq_true rfl) ?_
                refine V_iconst (v := 1) d_R_readsHours_118 (by decide) ?_
                refine V_iret d_R_readsHours_119 rfl rfl ⟨rfl, sv, ?_, Fr_up (Fr_up (Fr_up Fr_rf (Or.inl (Or.inl rfl))) (Or.inr ⟨j, hj, rfl⟩)) (Or.inr ⟨j, hj, rfl⟩), fun j hj => Or.inr ⟨hj, rfl⟩⟩
                rw [up_up]
                exact DR_sv hD2 hj (w := upd (upd (D.2.1 j) 7 r1.1) 8 r2.1) rfl
              · have hc3 : ¬ hr tx r2.2 = 10 := of_decide_eq_false (bi_eq0.mp (by simpa using h_103))
                refine V_iconst (v := 0) d_R_readsHours_106 (by decide) ?_
                rw [if_neg hc3, if_pos (Or.inr hc3)]
                exact V_iret d_R_readsHours_107 rfl rfl (bad _ q5 q5')
          · have hc2 : ¬ hr tx r1.2 = 45 := of_decide_eq_false (bi_eq0.mp (by simpa using h_76))
            refine V_iconst (v := 0) d_R_readsHours_79 (by decide) ?_
            rw [if_neg hc2, if_pos (Or.inr hc2)]
            exact V_iret d_R_readsHours_80 rfl rfl (bad _ q3 q3')
      · have hc : ¬ hr tx (p + 2) = 58 := of_decide_eq_false (bi_eq0.mp (by simpa using h_51))
        refine V_iconst (v := 0) d_R_readsHours_54 (by decide) ?_
        rw [if_neg hc, if_pos hc]
        exact V_iret d_R_readsHours_55 rfl rfl (bad _ hp2 (by omega))
    · rw [bi_ne0] at h_30
      have h8 : 0 < D.2.1 j 8 := of_decide_eq_true h_30
      rw [if_pos h8]
      refine V_iconst (v := 0) d_R_readsHours_33 (by decide) ?_
      exact V_iret d_R_readsHours_34 rfl rfl (bad _ hp1 (by omega))
end C8
