/-! places stay within the text -/
theorem hr_in {tx : Sq} {p : Nat} {a : Int32} (ha : -1 < a) (h : wi (hr tx p) a 57 = true) : p < tx.2 := hr_lt (fun z => by
  rw [z] at h
  simp only [wi, ha, decide_true, Bool.not_true, Bool.false_and] at h
  cases h)
theorem wi_nn {c a : Int32} (ha : -1 < a) (h : wi c a 57 = true) : -1 < c + 1 := by
  simp only [wi, Bool.and_eq_true, Bool.not_eq_true', decide_eq_false_iff_not] at h
  obtain ⟨h1, h2⟩ := h
  rw [Int32.lt_iff_toInt_lt] at h1 h2 ha ⊢
  have e57 : (57 : Int32).toInt = 57 := rfl
  have em1 : (-1 : Int32).toInt = -1 := rfl
  have e1 : (1 : Int32).toInt = 1 := rfl
  rw [e57] at h2
  rw [em1] at ha ⊢
  rw [Int32.toInt_add, e1, Int.bmod_eq_of_le (by omega) (by omega)]
  omega
theorem udF_le {tx : Sq} (ht : tx.2 ≤ 500) : ∀ (n : Nat) (s b : Int32) (p : Nat), -1 < b + 1 → p ≤ 500 → (udF tx n s b p).2 ≤ 500
  | 0, _, _, _, _, h => h
  | n + 1, s, b, p, hb, h => by
    unfold udF
    split
    · rename_i hc
      have := hr_in hb hc
      exact udF_le ht n _ _ _ (wi_nn hb hc) (by omega)
    · exact h
theorem upD_le {tx : Sq} {p : Nat} (ht : tx.2 ≤ 500) (h : p ≤ 500) : (upD tx p).2 ≤ 500 := udF_le ht 9 0 48 p (by decide) h
theorem fnL_le {tx : Sq} (ht : tx.2 ≤ 500) (most : Int32) : ∀ (n : Nat) (v : Int32) (p : Nat), p ≤ 500 → (fnL tx most n v p).2 ≤ 500
  | 0, _, _, h => h
  | n + 1, v, p, h => by
    unfold fnL
    split
    · rename_i hc
      have := dg_lt hc
      exact fnL_le ht most n _ _ (by omega)
    · exact h
theorem nir_le {v least most : Int32} {q p : Nat} (hq : q ≤ 500) (hp : p ≤ 500) : (nir v least most q p).2 ≤ 500 := by
  unfold nir
  split
  · exact hp
  · exact hq
theorem freeN_le {tx : Sq} {least most : Int32} {p : Nat} (ht : tx.2 ≤ 500) (h : p ≤ 500) : (freeN tx least most p).2 ≤ 500 := by
  unfold freeN
  split
  · rename_i hc
    have := hr_lt (tx := tx) (p := p) (by rw [hc.1]; decide)
    show p + 1 ≤ 500
    omega
  · split
    · exact h
    · exact nir_le h (fnL_le ht most _ _ _ h)
theorem cnL_le {tx : Sq} (ht : tx.2 ≤ 500) : ∀ (n : Nat) (v : Int32) (p : Nat), p ≤ 500 → (cnL tx n v p).2 ≤ 500
  | 0, _, _, h => h
  | n + 1, v, p, h => by
    unfold cnL
    split
    · rename_i hc
      have := dg_lt hc
      exact cnL_le ht n _ _ (by omega)
    · exact h
theorem countN_le {tx : Sq} {n : Nat} {least most : Int32} {p : Nat} (ht : tx.2 ≤ 500) (h : p ≤ 500) : (countN tx n least most p).2 ≤ 500 := by
  unfold countN
  split
  · exact nir_le h (cnL_le ht _ _ _ h)
  · exact cnL_le ht _ _ _ h
theorem ps_le {tx : Sq} {c : Int32} {p : Nat} (ht : tx.2 ≤ 500) (hc : hr tx p = c) (h : c ≠ -1) : p + 1 ≤ 500 := by
  have := hr_lt (tx := tx) (p := p) (by rw [hc]; exact h)
  omega
/-! a service while it is read -/
abbrev Fw : Type := Nat → Int32
def sM (mm : Mm) (a : Nat) (v : Fw) : Mm := up mm a (.inr (3, svL v))
theorem Rdr_s {g : GG} {mm : Mm} {rd ts tr ed a : Nat} {lk : Int32} {tx : Sq} {v v0 : Fw} (h : Rdr g mm rd ts tr ed lk tx) (ha : Ob mm a 3 (svL v0)) : Rdr g (sM mm a v) rd ts tr ed lk tx := by
  obtain ⟨⟨q, h1⟩, h2⟩ := h
  exact ⟨⟨q, Ob_n h1 (Ob_neC h1 ha (by decide))⟩, Sgm_n h2 (Ob_neC h2.1 ha (by decide)) (Ne.symm (Ob_neI ha h2.2.1))⟩
theorem sM_put {mm : Mm} {rd ts ed a p : Nat} {lk : Int32} {v v' : Fw} (h : a ≠ rd) : up (rdM (sM mm a v) rd ts ed lk p) a (.inr (3, svL v')) = rdM (sM mm a v') rd ts ed lk p := by
  unfold rdM sM
  rw [up_com (Ne.symm h), up_up]
theorem sM_ob {g : GG} {mm : Mm} {rd ts tr ed a : Nat} {lk : Int32} {tx : Sq} {v0 : Fw} (h : Rdr g mm rd ts tr ed lk tx) (ha : Ob mm a 3 (svL v0)) (v : Fw) (p : Nat) : Ob (rdM (sM mm a v) rd ts ed lk p) a 3 (svL v) := by
  obtain ⟨⟨q, h1⟩, h2⟩ := h
  exact Ob_n (Ob_s ha) (Ob_neC ha h1 (by decide))
abbrev Ps : Type := Bool × Fw × Nat
def cap4 (tx : Sq) (v : Fw) (p : Nat) : Ps := if hr tx (upD tx p).2 = 58 then (true, upd v 4 (upD tx p).1, (upD tx p).2 + 1) else (false, upd v 4 (upD tx p).1, (upD tx p).2)
def cap3 (tx : Sq) (v : Fw) (p : Nat) : Ps := if (freeN tx 1 500 p).1 = -1 ∨ ¬ hr tx (freeN tx 1 500 p).2 = 58 then (false, upd v 3 (freeN tx 1 500 p).1, (freeN tx 1 500 p).2) else cap4 tx (upd v 3 (freeN tx 1 500 p).1) ((freeN tx 1 500 p).2 + 1)
def cap2 (tx : Sq) (v : Fw) (p : Nat) : Ps := if (freeN tx 1 1000 p).1 = -1 ∨ ¬ hr tx (freeN tx 1 1000 p).2 = 58 then (false, upd v 2 (freeN tx 1 1000 p).1, (freeN tx 1 1000 p).2) else cap3 tx (upd v 2 (freeN tx 1 1000 p).1) ((freeN tx 1 1000 p).2 + 1)
def cap1 (tx : Sq) (v : Fw) (p : Nat) : Ps := if (upD tx p).1 = 0 ∨ ¬ hr tx (upD tx p).2 = 58 then (false, upd v 1 (upD tx p).1, (upD tx p).2) else cap2 tx (upd v 1 (upD tx p).1) ((upD tx p).2 + 1)
def pr2 (tx : Sq) (v : Fw) (p : Nat) : Ps := (!decide ((freeN tx 0 99 p).1 = -1), upd v 6 (freeN tx 0 99 p).1, (freeN tx 0 99 p).2)
def pr1 (tx : Sq) (v : Fw) (p : Nat) : Ps := if (freeN tx 0 999 p).1 = -1 ∨ ¬ hr tx (freeN tx 0 999 p).2 = 43 then (false, upd v 5 (freeN tx 0 999 p).1, (freeN tx 0 999 p).2) else pr2 tx (upd v 5 (freeN tx 0 999 p).1) ((freeN tx 0 999 p).2 + 1)
/-- the end of reading a part of a service -/
def Pe (mm : Mm) (rd ts ed a : Nat) (lk : Int32) (r : Ps) : Ou → Mm → Prop := Re (some (.int (bi r.1))) (rdM (sM mm a r.2.1) rd ts ed lk r.2.2)
section C6
variable {g : GG}
set_option maxRecDepth 20000 in
theorem c_R_readsCapacity (hg : GO g) {mm : Mm} {rd ts tr ed a : Nat} {lk : Int32} {tx : Sq} {v0 : Fw} (h : Rdr g mm rd ts tr ed lk tx) (ha : Ob mm a 3 (svL v0)) (v : Fw) {p : Nat} (hp : p ≤ 500) : CT g m_R_readsCapacity 3 71 0 0 [.ref rd, .ref a] (rdM (sM mm a v) rd ts ed lk p) (Pe mm rd ts ed a lk (cap1 tx v p)) := by
  have hT : tx.2 ≤ 500 := h.2.2.2.1
  have hne : a ≠ rd := by
    obtain ⟨⟨q, h1⟩, h2⟩ := h
    exact Ob_neC ha h1 (by decide)
  have s4 : ∀ (v : Fw) (p : Nat), p ≤ 500 → V g m_R_readsCapacity 3 71 0 0 88 [(0, .ref rd), (1, .ref a)] [] (rdM (sM mm a v) rd ts ed lk p) (Pe mm rd ts ed a lk (cap4 tx v p)) := by
    intro v p hp
    have h1 := (Rdr_s (v := v) h ha).ob p
    have hx := (Rdr_s (v := v) h ha)
    first | refine V_aload_n d_R_readsCapacity_88 rfl rfl ?_ | refine V_aloadN_n d_R_readsCapacity_88 rfl rfl ?_
    first | refine V_aload_n d_R_readsCapacity_89 rfl rfl ?_ | refine V_aloadN_n d_R_readsCapacity_89 rfl rfl ?_
    refine VcallV cb_R_upwardDigits mv_R_78 rfl (ci := 2) rfl rfl d_R_readsCapacity_90 (c_R_upwardDigits hg hx (by omega)) ⟨by decide, by decide⟩ rfl (by repeat first | assumption | apply Ob_s | apply Ob_n) rfl (Nat.le_of_ble_eq_true rfl) (fun _ _ h => nomatch h.1) (fun v m2 hR => ?_)
    obtain ⟨hv9, e9⟩ := hR
    cases hv9
    subst m2
    have h2 := sM_ob h ha v (upD tx p).2
    refine Vput pl_R_94 d_R_readsCapacity_93 (by repeat first | assumption | apply Ob_s | apply Ob_n) rfl rfl (Nat.le_of_ble_eq_true rfl) ?_
    first | refine V_aload_n d_R_readsCapacity_96 rfl rfl ?_ | refine V_aloadN_n d_R_readsCapacity_96 rfl rfl ?_
    refine V_bipush (v := 58) d_R_readsCapacity_97 (by decide) ?_
    refine ek_v (P := fun z => V g m_R_readsCapacity 3 71 0 0 _ _ _ z _) (sM_put (v' := upd v 4 (upD tx p).1) hne) ?_
    have h3 := (Rdr_s (v := upd v 4 (upD tx p).1) h ha).ob (upD tx p).2
    refine VcallV cb_R_passes mv_R_64 rfl (ci := 2) rfl rfl d_R_readsCapacity_99 (c_R_passes hg (Rdr_s (v := upd v 4 (upD tx p).1) h ha) (Nat.lt_of_le_of_lt (upD_le hT hp) (by decide)) 58) ⟨by decide, by decide⟩ rfl (by repeat first | assumption | apply Ob_s | apply Ob_n) rfl (Nat.le_of_ble_eq_true rfl) (fun _ _ h => nomatch h.1) (fun v m2 hR => ?_)
    obtain ⟨hv9, e9⟩ := hR
    cases hv9
    subst m2
    refine V_iret d_R_readsCapacity_102 rfl (bi_nz _) ?_
    unfold cap4 Pe
    by_cases hc : hr tx (upD tx p).2 = 58
    · rw [if_pos hc, if_pos hc, decide_eq_true hc]
      exact ⟨rfl, rfl⟩
    · rw [if_neg hc, if_neg hc, decide_eq_false hc]
      exact ⟨rfl, rfl⟩
  have s3 : ∀ (v : Fw) (p : Nat), p ≤ 500 → V g m_R_readsCapacity 3 71 0 0 57 [(0, .ref rd), (1, .ref a)] [] (rdM (sM mm a v) rd ts ed lk p) (Pe mm rd ts ed a lk (cap3 tx v p)) := by
    intro v p hp
    have h1 := (Rdr_s (v := v) h ha).ob p
    have hx := (Rdr_s (v := v) h ha)
    first | refine V_aload_n d_R_readsCapacity_57 rfl rfl ?_ | refine V_aloadN_n d_R_readsCapacity_57 rfl rfl ?_
    first | refine V_aload_n d_R_readsCapacity_58 rfl rfl ?_ | refine V_aloadN_n d_R_readsCapacity_58 rfl rfl ?_
    refine V_iconst (v := 1) d_R_readsCapacity_59 (by decide) ?_
    refine V_sipush (v := 500) d_R_readsCapacity_60 (by decide) ?_
    refine VcallV cb_R_freeNumber mv_R_84 rfl (ci := 2) rfl rfl d_R_readsCapacity_63 (c_R_freeNumber hg hx hp 1 500) ⟨by decide, by decide⟩ rfl (by repeat first | assumption | apply Ob_s | apply Ob_n) rfl (Nat.le_of_ble_eq_true rfl) (fun _ _ h => nomatch h.1) (fun v m2 hR => ?_)
    obtain ⟨hv9, e9⟩ := hR
    cases hv9
    subst m2
    have h2 := sM_ob h ha v (freeN tx 1 500 p).2
    refine Vput pl_R_91 d_R_readsCapacity_66 (by repeat first | assumption | apply Ob_s | apply Ob_n) rfl rfl (Nat.le_of_ble_eq_true rfl) ?_
    refine ek_v (P := fun z => V g m_R_readsCapacity 3 71 0 0 _ _ _ z _) (sM_put (v' := upd v 3 (freeN tx 1 500 p).1) hne) ?_
    have h3 := (Rdr_s (v := upd v 3 (freeN tx 1 500 p).1) h ha).ob (freeN tx 1 500 p).2
    have h4 := sM_ob h ha (upd v 3 (freeN tx 1 500 p).1) (freeN tx 1 500 p).2
    have q1 : (freeN tx 1 500 p).2 ≤ 500 := freeN_le hT hp
    first | refine V_aload_n d_R_readsCapacity_69 rfl rfl ?_ | refine V_aloadN_n d_R_readsCapacity_69 rfl rfl ?_
    refine Vget fl_R_91 d_R_readsCapacity_70 (by repeat first | assumption | apply Ob_s | apply Ob_n) rfl ?_
    refine V_iconst (v := -1) d_R_readsCapacity_73 (by decide) ?_
    refine V_icmp_eq (tgt := 86) d_R_readsCapacity_74 (by decide) (fun h_74 => ?_) (fun h_74 => ?_)
    · have h9 : (freeN tx 1 500 p).1 = -1 := h_74
      refine V_iconst (v := 0) d_R_readsCapacity_86 (by decide) ?_
      refine V_iret d_R_readsCapacity_87 rfl rfl ?_
      rw [cap3, if_pos (Or.inl h9)]
      exact ⟨rfl, rfl⟩
    · have h9 : ¬ (freeN tx 1 500 p).1 = -1 := h_74
      first | refine V_aload_n d_R_readsCapacity_77 rfl rfl ?_ | refine V_aloadN_n d_R_readsCapacity_77 rfl rfl ?_
      refine V_bipush (v := 58) d_R_readsCapacity_78 (by decide) ?_
      refine VcallV cb_R_passes mv_R_64 rfl (ci := 2) rfl rfl d_R_readsCapacity_80 (c_R_passes hg (Rdr_s (v := upd v 3 (freeN tx 1 500 p).1) h ha) (Nat.lt_of_le_of_lt q1 (by decide)) 58) ⟨by decide, by decide⟩ rfl (by repeat first | assumption | apply Ob_s | apply Ob_n) rfl (Nat.le_of_ble_eq_true rfl) (fun _ _ h => nomatch h.1) (fun v m2 hR => ?_)
      obtain ⟨hv9, e9⟩ := hR
      cases hv9
      subst m2
      refine V_if_ne (tgt := 88) d_R_readsCapacity_83 (by decide) (fun h_83 => ?_) (fun h_83 => ?_)
      · rw [bi_ne0] at h_83
        have hc := of_decide_eq_true h_83
        rw [if_pos hc, cap3, if_neg (fun z => z.elim h9 (fun q => q hc))]
        exact s4 _ _ (ps_le hT hc (by decide))
      · have hc : ¬ hr tx (freeN tx 1 500 p).2 = 58 := of_decide_eq_false (bi_eq0.mp (by simpa using h_83))
        refine V_iconst (v := 0) d_R_readsCapacity_86 (by decide) ?_
        refine V_iret d_R_readsCapacity_87 rfl rfl ?_
        rw [cap3, if_pos (Or.inr hc), if_neg hc]
        exact ⟨rfl, rfl⟩
  have s2 : ∀ (v : Fw) (p : Nat), p ≤ 500 → V g m_R_readsCapacity 3 71 0 0 26 [(0, .ref rd), (1, .ref a)] [] (rdM (sM mm a v) rd ts ed lk p) (Pe mm rd ts ed a lk (cap2 tx v p)) := by
    intro v p hp
    have h1 := (Rdr_s (v := v) h ha).ob p
    have hx := (Rdr_s (v := v) h ha)
    first | refine V_aload_n d_R_readsCapacity_26 rfl rfl ?_ | refine V_aloadN_n d_R_readsCapacity_26 rfl rfl ?_
    first | refine V_aload_n d_R_readsCapacity_27 rfl rfl ?_ | refine V_aloadN_n d_R_readsCapacity_27 rfl rfl ?_
    refine V_iconst (v := 1) d_R_readsCapacity_28 (by decide) ?_
    refine V_sipush (v := 1000) d_R_readsCapacity_29 (by decide) ?_
    refine VcallV cb_R_freeNumber mv_R_84 rfl (ci := 2) rfl rfl d_R_readsCapacity_32 (c_R_freeNumber hg hx hp 1 1000) ⟨by decide, by decide⟩ rfl (by repeat first | assumption | apply Ob_s | apply Ob_n) rfl (Nat.le_of_ble_eq_true rfl) (fun _ _ h => nomatch h.1) (fun v m2 hR => ?_)
    obtain ⟨hv9, e9⟩ := hR
    cases hv9
    subst m2
    have h2 := sM_ob h ha v (freeN tx 1 1000 p).2
    refine Vput pl_R_88 d_R_readsCapacity_35 (by repeat first | assumption | apply Ob_s | apply Ob_n) rfl rfl (Nat.le_of_ble_eq_true rfl) ?_
    refine ek_v (P := fun z => V g m_R_readsCapacity 3 71 0 0 _ _ _ z _) (sM_put (v' := upd v 2 (freeN tx 1 1000 p).1) hne) ?_
    have h3 := (Rdr_s (v := upd v 2 (freeN tx 1 1000 p).1) h ha).ob (freeN tx 1 1000 p).2
    have h4 := sM_ob h ha (upd v 2 (freeN tx 1 1000 p).1) (freeN tx 1 1000 p).2
    have q1 : (freeN tx 1 1000 p).2 ≤ 500 := freeN_le hT hp
    first | refine V_aload_n d_R_readsCapacity_38 rfl rfl ?_ | refine V_aloadN_n d_R_readsCapacity_38 rfl rfl ?_
    refine Vget fl_R_88 d_R_readsCapacity_39 (by repeat first | assumption | apply Ob_s | apply Ob_n) rfl ?_
    refine V_iconst (v := -1) d_R_readsCapacity_42 (by decide) ?_
    refine V_icmp_eq (tgt := 55) d_R_readsCapacity_43 (by decide) (fun h_43 => ?_) (fun h_43 => ?_)
    · have h9 : (freeN tx 1 1000 p).1 = -1 := h_43
      refine V_iconst (v := 0) d_R_readsCapacity_55 (by decide) ?_
      refine V_iret d_R_readsCapacity_56 rfl rfl ?_
      rw [cap2, if_pos (Or.inl h9)]
      exact ⟨rfl, rfl⟩
    · have h9 : ¬ (freeN tx 1 1000 p).1 = -1 := h_43
      first | refine V_aload_n d_R_readsCapacity_46 rfl rfl ?_ | refine V_aloadN_n d_R_readsCapacity_46 rfl rfl ?_
      refine V_bipush (v := 58) d_R_readsCapacity_47 (by decide) ?_
      refine VcallV cb_R_passes mv_R_64 rfl (ci := 2) rfl rfl d_R_readsCapacity_49 (c_R_passes hg (Rdr_s (v := upd v 2 (freeN tx 1 1000 p).1) h ha) (Nat.lt_of_le_of_lt q1 (by decide)) 58) ⟨by decide, by decide⟩ rfl (by repeat first | assumption | apply Ob_s | apply Ob_n) rfl (Nat.le_of_ble_eq_true rfl) (fun _ _ h => nomatch h.1) (fun v m2 hR => ?_)
      obtain ⟨hv9, e9⟩ := hR
      cases hv9
      subst m2
      refine V_if_ne (tgt := 57) d_R_readsCapacity_52 (by decide) (fun h_52 => ?_) (fun h_52 => ?_)
      · rw [bi_ne0] at h_52
        have hc := of_decide_eq_true h_52
        rw [if_pos hc, cap2, if_neg (fun z => z.elim h9 (fun q => q hc))]
        exact s3 _ _ (ps_le hT hc (by decide))
      · have hc : ¬ hr tx (freeN tx 1 1000 p).2 = 58 := of_decide_eq_false (bi_eq0.mp (by simpa using h_52))
        refine V_iconst (v := 0) d_R_readsCapacity_55 (by decide) ?_
        refine V_iret d_R_readsCapacity_56 rfl rfl ?_
        rw [cap2, if_pos (Or.inr hc), if_neg hc]
        exact ⟨rfl, rfl⟩
  have h1 := (Rdr_s (v := v) h ha).ob p
  have hx := (Rdr_s (v := v) h ha)
  refine CT_go (lo := [(0, .ref rd), (1, .ref a)]) rfl rfl rfl rfl hg ?_
  first | refine V_aload_n d_R_readsCapacity_0 rfl rfl ?_ | refine V_aloadN_n d_R_readsCapacity_0 rfl rfl ?_
  first | refine V_aload_n d_R_readsCapacity_1 rfl rfl ?_ | refine V_aloadN_n d_R_readsCapacity_1 rfl rfl ?_
  refine VcallV cb_R_upwardDigits mv_R_78 rfl (ci := 2) rfl rfl d_R_readsCapacity_2 (c_R_upwardDigits hg hx (by omega)) ⟨by decide, by decide⟩ rfl (by repeat first | assumption | apply Ob_s | apply Ob_n) rfl (Nat.le_of_ble_eq_true rfl) (fun _ _ h => nomatch h.1) (fun v m2 hR => ?_)
  obtain ⟨hv9, e9⟩ := hR
  cases hv9
  subst m2
  have h2 := sM_ob h ha v (upD tx p).2
  refine Vput pl_R_81 d_R_readsCapacity_5 (by repeat first | assumption | apply Ob_s | apply Ob_n) rfl rfl (Nat.le_of_ble_eq_true rfl) ?_
  refine ek_v (P := fun z => V g m_R_readsCapacity 3 71 0 0 _ _ _ z _) (sM_put (v' := upd v 1 (upD tx p).1) hne) ?_
  have h3 := (Rdr_s (v := upd v 1 (upD tx p).1) h ha).ob (upD tx p).2
  have h4 := sM_ob h ha (upd v 1 (upD tx p).1) (upD tx p).2
  have q1 : (upD tx p).2 ≤ 500 := upD_le hT hp
  first | refine V_aload_n d_R_readsCapacity_8 rfl rfl ?_ | refine V_aloadN_n d_R_readsCapacity_8 rfl rfl ?_
  refine Vget fl_R_81 d_R_readsCapacity_9 (by repeat first | assumption | apply Ob_s | apply Ob_n) rfl ?_
  refine V_if_eq (tgt := 24) d_R_readsCapacity_12 (by decide) (fun h_12 => ?_) (fun h_12 => ?_)
  · have h9 : (upD tx p).1 = 0 := h_12
    refine V_iconst (v := 0) d_R_readsCapacity_24 (by decide) ?_
    refine V_iret d_R_readsCapacity_25 rfl rfl ?_
    rw [cap1, if_pos (Or.inl h9)]
    exact ⟨rfl, rfl⟩
  · have h9 : ¬ (upD tx p).1 = 0 := h_12
    first | refine V_aload_n d_R_readsCapacity_15 rfl rfl ?_ | refine V_aloadN_n d_R_readsCapacity_15 rfl rfl ?_
    refine V_bipush (v := 58) d_R_readsCapacity_16 (by decide) ?_
    refine VcallV cb_R_passes mv_R_64 rfl (ci := 2) rfl rfl d_R_readsCapacity_18 (c_R_passes hg (Rdr_s (v := upd v 1 (upD tx p).1) h ha) (Nat.lt_of_le_of_lt q1 (by decide)) 58) ⟨by decide, by decide⟩ rfl (by repeat first | assumption | apply Ob_s | apply Ob_n) rfl (Nat.le_of_ble_eq_true rfl) (fun _ _ h => nomatch h.1) (fun v m2 hR => ?_)
    obtain ⟨hv9, e9⟩ := hR
    cases hv9
    subst m2
    refine V_if_ne (tgt := 26) d_R_readsCapacity_21 (by decide) (fun h_21 => ?_) (fun h_21 => ?_)
    · rw [bi_ne0] at h_21
      have hc := of_decide_eq_true h_21
      rw [if_pos hc, cap1, if_neg (fun z => z.elim h9 (fun q => q hc))]
      exact s2 _ _ (ps_le hT hc (by decide))
    · have hc : ¬ hr tx (upD tx p).2 = 58 := of_decide_eq_false (bi_eq0.mp (by simpa using h_21))
      refine V_iconst (v := 0) d_R_readsCapacity_24 (by decide) ?_
      refine V_iret d_R_readsCapacity_25 rfl rfl ?_
      rw [cap1, if_pos (Or.inr hc), if_neg hc]
      exact ⟨rfl, rfl⟩
set_option maxRecDepth 20000 in
theorem c_R_readsPrice (hg : GO g) {mm : Mm} {rd ts tr ed a : Nat} {lk : Int32} {tx : Sq} {v0 : Fw} (h : Rdr g mm rd ts tr ed lk tx) (ha : Ob mm a 3 (svL v0)) (v : Fw) {p : Nat} (hp : p ≤ 500) : CT g m_R_readsPrice 3 71 0 0 [.ref rd, .ref a] (rdM (sM mm a v) rd ts ed lk p) (Pe mm rd ts ed a lk (pr1 tx v p)) := by
  have hT : tx.2 ≤ 500 := h.2.2.2.1
  have hne : a ≠ rd := by
    obtain ⟨⟨q, h1⟩, h2⟩ := h
    exact Ob_neC ha h1 (by decide)
  have s2 : ∀ (v : Fw) (p : Nat), p ≤ 500 → V g m_R_readsPrice 3 71 0 0 31 [(0, .ref rd), (1, .ref a)] [] (rdM (sM mm a v) rd ts ed lk p) (Pe mm rd ts ed a lk (pr2 tx v p)) := by
    intro v p hp
    have h1 := (Rdr_s (v := v) h ha).ob p
    have hx := (Rdr_s (v := v) h ha)
    first | refine V_aload_n d_R_readsPrice_31 rfl rfl ?_ | refine V_aloadN_n d_R_readsPrice_31 rfl rfl ?_
    first | refine V_aload_n d_R_readsPrice_32 rfl rfl ?_ | refine V_aloadN_n d_R_readsPrice_32 rfl rfl ?_
    refine V_iconst (v := 0) d_R_readsPrice_33 (by decide) ?_
    refine V_bipush (v := 99) d_R_readsPrice_34 (by decide) ?_
    refine VcallV cb_R_freeNumber mv_R_84 rfl (ci := 2) rfl rfl d_R_readsPrice_36 (c_R_freeNumber hg hx hp 0 99) ⟨by decide, by decide⟩ rfl (by repeat first | assumption | apply Ob_s | apply Ob_n) rfl (Nat.le_of_ble_eq_true rfl) (fun _ _ h => nomatch h.1) (fun v m2 hR => ?_)
    obtain ⟨hv9, e9⟩ := hR
    cases hv9
    subst m2
    have h2 := sM_ob h ha v (freeN tx 0 99 p).2
    refine Vput pl_R_100 d_R_readsPrice_39 (by repeat first | assumption | apply Ob_s | apply Ob_n) rfl rfl (Nat.le_of_ble_eq_true rfl) ?_
    refine ek_v (P := fun z => V g m_R_readsPrice 3 71 0 0 _ _ _ z _) (sM_put (v' := upd v 6 (freeN tx 0 99 p).1) hne) ?_
    have h4 := sM_ob h ha (upd v 6 (freeN tx 0 99 p).1) (freeN tx 0 99 p).2
    first | refine V_aload_n d_R_readsPrice_42 rfl rfl ?_ | refine V_aloadN_n d_R_readsPrice_42 rfl rfl ?_
    refine Vget fl_R_100 d_R_readsPrice_43 (by repeat first | assumption | apply Ob_s | apply Ob_n) rfl ?_
    refine V_iconst (v := -1) d_R_readsPrice_46 (by decide) ?_
    refine V_icmp_eq (tgt := 54) d_R_readsPrice_47 (by decide) (fun h_47 => ?_) (fun h_47 => ?_)
    · have h9 : (freeN tx 0 99 p).1 = -1 := h_47
      refine V_iconst (v := 0) d_R_readsPrice_54 (by decide) ?_
      exact V_iret d_R_readsPrice_55 rfl rfl ⟨by rw [pr2, decide_eq_true h9]; rfl, rfl⟩
    · have h9 : ¬ (freeN tx 0 99 p).1 = -1 := h_47
      refine V_iconst (v := 1) d_R_readsPrice_50 (by decide) ?_
      refine V_goto (tgt := 55) d_R_readsPrice_51 (by decide) ?_
      exact V_iret d_R_readsPrice_55 rfl rfl ⟨by rw [pr2, decide_eq_false h9]; rfl, rfl⟩
  have h1 := (Rdr_s (v := v) h ha).ob p
  have hx := (Rdr_s (v := v) h ha)
  refine CT_go (lo := [(0, .ref rd), (1, .ref a)]) rfl rfl rfl rfl hg ?_
  first | refine V_aload_n d_R_readsPrice_0 rfl rfl ?_ | refine V_aloadN_n d_R_readsPrice_0 rfl rfl ?_
  first | refine V_aload_n d_R_readsPrice_1 rfl rfl ?_ | refine V_aloadN_n d_R_readsPrice_1 rfl rfl ?_
  refine V_iconst (v := 0) d_R_readsPrice_2 (by decide) ?_
  refine V_sipush (v := 999) d_R_readsPrice_3 (by decide) ?_
  refine VcallV cb_R_freeNumber mv_R_84 rfl (ci := 2) rfl rfl d_R_readsPrice_6 (c_R_freeNumber hg hx hp 0 999) ⟨by decide, by decide⟩ rfl (by repeat first | assumption | apply Ob_s | apply Ob_n) rfl (Nat.le_of_ble_eq_true rfl) (fun _ _ h => nomatch h.1) (fun v m2 hR => ?_)
  obtain ⟨hv9, e9⟩ := hR
  cases hv9
  subst m2
  have h2 := sM_ob h ha v (freeN tx 0 999 p).2
  refine Vput pl_R_97 d_R_readsPrice_9 (by repeat first | assumption | apply Ob_s | apply Ob_n) rfl rfl (Nat.le_of_ble_eq_true rfl) ?_
  refine ek_v (P := fun z => V g m_R_readsPrice 3 71 0 0 _ _ _ z _) (sM_put (v' := upd v 5 (freeN tx 0 999 p).1) hne) ?_
  have h3 := (Rdr_s (v := upd v 5 (freeN tx 0 999 p).1) h ha).ob (freeN tx 0 999 p).2
  have h4 := sM_ob h ha (upd v 5 (freeN tx 0 999 p).1) (freeN tx 0 999 p).2
  have q1 : (freeN tx 0 999 p).2 ≤ 500 := freeN_le hT hp
  first | refine V_aload_n d_R_readsPrice_12 rfl rfl ?_ | refine V_aloadN_n d_R_readsPrice_12 rfl rfl ?_
  refine Vget fl_R_97 d_R_readsPrice_13 (by repeat first | assumption | apply Ob_s | apply Ob_n) rfl ?_
  refine V_iconst (v := -1) d_R_readsPrice_16 (by decide) ?_
  refine V_icmp_eq (tgt := 29) d_R_readsPrice_17 (by decide) (fun h_17 => ?_) (fun h_17 => ?_)
  · have h9 : (freeN tx 0 999 p).1 = -1 := h_17
    refine V_iconst (v := 0) d_R_readsPrice_29 (by decide) ?_
    refine V_iret d_R_readsPrice_30 rfl rfl ?_
    rw [pr1, if_pos (Or.inl h9)]
    exact ⟨rfl, rfl⟩
  · have h9 : ¬ (freeN tx 0 999 p).1 = -1 := h_17
    first | refine V_aload_n d_R_readsPrice_20 rfl rfl ?_ | refine V_aloadN_n d_R_readsPrice_20 rfl rfl ?_
    refine V_bipush (v := 43) d_R_readsPrice_21 (by decide) ?_
    refine VcallV cb_R_passes mv_R_64 rfl (ci := 2) rfl rfl d_R_readsPrice_23 (c_R_passes hg (Rdr_s (v := upd v 5 (freeN tx 0 999 p).1) h ha) (Nat.lt_of_le_of_lt q1 (by decide)) 43) ⟨by decide, by decide⟩ rfl (by repeat first | assumption | apply Ob_s | apply Ob_n) rfl (Nat.le_of_ble_eq_true rfl) (fun _ _ h => nomatch h.1) (fun v m2 hR => ?_)
    obtain ⟨hv9, e9⟩ := hR
    cases hv9
    subst m2
    refine V_if_ne (tgt := 31) d_R_readsPrice_26 (by decide) (fun h_26 => ?_) (fun h_26 => ?_)
    · rw [bi_ne0] at h_26
      have hc := of_decide_eq_true h_26
      rw [if_pos hc, pr1, if_neg (fun z => z.elim h9 (fun q => q hc))]
      exact s2 _ _ (ps_le hT hc (by decide))
    · have hc : ¬ hr tx (freeN tx 0 999 p).2 = 43 := of_decide_eq_false (bi_eq0.mp (by simpa using h_26))
      refine V_iconst (v := 0) d_R_readsPrice_29 (by decide) ?_
      refine V_iret d_R_readsPrice_30 rfl rfl ?_
      rw [pr1, if_pos (Or.inr hc), if_neg hc]
      exact ⟨rfl, rfl⟩
end C6
