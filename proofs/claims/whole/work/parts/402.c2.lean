/-! Signs: a row r of n places, s.1 its contents, s.2 its length -/
abbrev Sq : Type := (Nat → Int32) × Nat
def sgUp (g : GG) (mm : Mm) (a r n : Nat) (s : Sq) : Mm := up (up mm r (.inl (g.2.2.2.2 0, n, .inl s.1))) a (.inr (4, [.ref r, .int (nI s.2)]))
def Sgm (g : GG) (mm : Mm) (a r n : Nat) (s : Sq) : Prop := Ob mm a 4 [.ref r, .int (nI s.2)] ∧ Ia g mm r n s.1 ∧ s.2 ≤ n ∧ n < 1000
def apN (n : Nat) (s : Sq) (c : Int32) : Sq := if s.2 < n then (upd s.1 s.2 c, s.2 + 1) else s
theorem apN_le {n : Nat} {s : Sq} {c : Int32} (h : s.2 ≤ n) : (apN n s c).2 ≤ n := by
  unfold apN
  split
  · show s.2 + 1 ≤ n; omega
  · exact h
theorem up_id {mm : Mm} {a : Nat} {e : va_E} (h : mm.1 a = e) : up mm a e = mm := by
  unfold up
  refine Prod.ext (funext fun b => ?_) rfl
  show va_up mm.1 a e b = mm.1 b
  by_cases hb : b = a
  · subst hb; rw [va_up_self, h]
  · rw [va_up_ne _ _ hb]
theorem up_up {mm : Mm} {a : Nat} {e e' : va_E} : up (up mm a e) a e' = up mm a e' := by
  unfold up
  refine Prod.ext (funext fun b => ?_) rfl
  show va_up (va_up mm.1 a e) a e' b = va_up mm.1 a e' b
  by_cases hb : b = a
  · subst hb; rw [va_up_self, va_up_self]
  · rw [va_up_ne _ _ hb, va_up_ne _ _ hb, va_up_ne _ _ hb]
theorem up_com {mm : Mm} {a b : Nat} {e e' : va_E} (h : a ≠ b) : up (up mm a e) b e' = up (up mm b e') a e := by
  unfold up
  refine Prod.ext (funext fun c => ?_) rfl
  show va_up (va_up mm.1 a e) b e' c = va_up (va_up mm.1 b e') a e c
  by_cases hb : c = b
  · subst hb; rw [va_up_self, va_up_ne _ _ (Ne.symm h), va_up_self]
  · by_cases ha : c = a
    · subst ha; rw [va_up_ne _ _ hb, va_up_self, va_up_self]
    · rw [va_up_ne _ _ hb, va_up_ne _ _ ha, va_up_ne _ _ ha, va_up_ne _ _ hb]
theorem Sgm.ne {g : GG} {mm : Mm} {a r n : Nat} {s : Sq} (h : Sgm g mm a r n s) : a ≠ r := Ob_neI h.1 h.2.1
theorem Sgm.up {g : GG} {mm : Mm} {a r n : Nat} {s s' : Sq} (h : Sgm g mm a r n s) (hs : s'.2 ≤ n) : Sgm g (sgUp g mm a r n s') a r n s' :=
  ⟨Ob_s (Ob_n h.1 h.ne), Ia_n (Ia_s h.2.1) (Ne.symm h.ne), hs, h.2.2.2⟩
theorem sgUp_id {g : GG} {mm : Mm} {a r n : Nat} {s : Sq} (h : Sgm g mm a r n s) : sgUp g mm a r n s = mm := by
  unfold sgUp
  rw [up_id h.2.1.2, up_id h.1.2]
theorem sgUp_up {g : GG} {mm : Mm} {a r n : Nat} {s s' : Sq} (h : a ≠ r) : sgUp g (sgUp g mm a r n s) a r n s' = sgUp g mm a r n s' := by
  unfold sgUp
  rw [up_com (a := a) (b := r) h, up_up, up_up]
theorem nI_tr {a b : Nat} {i : Int32} (h : a ≤ b) (hb : b < 2 ^ 31) (hi : nI b ≤ i) : nI a ≤ i := by
  rw [Int32.le_iff_toInt_le, nI_toInt hb] at hi
  rw [Int32.le_iff_toInt_le, nI_toInt (by omega)]
  omega
def sAt (s : Sq) (i : Int32) : Int32 := if i < 0 then -1 else if nI s.2 ≤ i then -1 else s.1 i.toNatClampNeg
theorem sAt_nI (s : Sq) (p : Nat) (hp : p < 2 ^ 31) (hs : s.2 < 2 ^ 31) : sAt s (nI p) = if p < s.2 then s.1 p else -1 := by
  unfold sAt
  rw [if_neg (nI_pos hp), nI_clamp hp]
  by_cases h : p < s.2
  · rw [if_neg (nI_ge h hs), if_pos h]
  · rw [if_pos (nI_le (by omega) hp), if_neg h]
section C2
variable {g : GG}
theorem c_G_clear (hg : GO g) {mm : Mm} {a r n : Nat} {s : Sq} (h : Sgm g mm a r n s) : CT g m_G_clear 0 0 0 0 [.ref a] mm (Re none (sgUp g mm a r n (s.1, 0))) := by
  have h1 := h.1
  refine CT_go (lo := [(0, .ref a)]) rfl rfl rfl rfl hg ?_
  first | refine V_aload_n d_G_clear_0 rfl rfl ?_ | refine V_aloadN_n d_G_clear_0 rfl rfl ?_
  refine V_iconst (v := 0) d_G_clear_1 (by decide) ?_
  refine Vput pl_G_13 d_G_clear_2 (by repeat first | assumption | apply Ob_s | apply Ob_n) rfl rfl (Nat.le_of_ble_eq_true rfl) ?_
  refine V_vret d_G_clear_5 rfl ?_
  exact ⟨rfl, by unfold sgUp; rw [up_id h.2.1.2]; rfl⟩
theorem c_G_signAt (hg : GO g) {mm : Mm} {a r n : Nat} {s : Sq} (h : Sgm g mm a r n s) (i : Int32) : CT g m_G_signAt 0 0 0 0 [.ref a, .int i] mm (Re (some (.int (sAt s i))) mm) := by
  obtain ⟨h1, h2, h3, h4⟩ := h
  refine CT_go (lo := [(0, .ref a), (1, .int i)]) rfl rfl rfl rfl hg ?_
  refine V_iload_n d_G_signAt_0 rfl rfl ?_
  refine V_if_lt (tgt := 30) d_G_signAt_1 (by decide) (fun h_1 => ?_) (fun h_1 => ?_)
  · refine V_iconst (v := -1) d_G_signAt_30 (by decide) ?_
    refine V_iret d_G_signAt_31 rfl rfl ?_
    first | exact absurd (nI_tr (by omega) (by omega) ‹nI n ≤ i›) ‹¬ nI s.2 ≤ i› | (refine ⟨?_, rfl⟩; simp only [sAt]; first | rw [if_pos ‹i < 0›] | rw [if_neg ‹¬ i < 0›, if_pos ‹nI s.2 ≤ i›] | rw [if_neg ‹¬ i < 0›, if_neg ‹¬ nI s.2 ≤ i›])
  · refine V_iload_n d_G_signAt_4 rfl rfl ?_
    first | refine V_aload_n d_G_signAt_5 rfl rfl ?_ | refine V_aloadN_n d_G_signAt_5 rfl rfl ?_
    refine Vget fl_G_13 d_G_signAt_6 (by repeat first | assumption | apply Ob_s | apply Ob_n) rfl ?_
    refine V_icmp_ge (tgt := 30) d_G_signAt_9 (by decide) (fun h_9 => ?_) (fun h_9 => ?_)
    · refine V_iconst (v := -1) d_G_signAt_30 (by decide) ?_
      refine V_iret d_G_signAt_31 rfl rfl ?_
      first | exact absurd (nI_tr (by omega) (by omega) ‹nI n ≤ i›) ‹¬ nI s.2 ≤ i› | (refine ⟨?_, rfl⟩; simp only [sAt]; first | rw [if_pos ‹i < 0›] | rw [if_neg ‹¬ i < 0›, if_pos ‹nI s.2 ≤ i›] | rw [if_neg ‹¬ i < 0›, if_neg ‹¬ nI s.2 ≤ i›])
    · refine V_iload_n d_G_signAt_12 rfl rfl ?_
      first | refine V_aload_n d_G_signAt_13 rfl rfl ?_ | refine V_aloadN_n d_G_signAt_13 rfl rfl ?_
      refine Vget fl_G_7 d_G_signAt_14 (by repeat first | assumption | apply Ob_s | apply Ob_n) rfl ?_
      refine ValenI d_G_signAt_17 (by repeat first | assumption | apply Ia_s | apply Ia_n) ?_
      refine V_icmp_ge (tgt := 30) d_G_signAt_18 (by decide) (fun h_18 => ?_) (fun h_18 => ?_)
      · refine V_iconst (v := -1) d_G_signAt_30 (by decide) ?_
        refine V_iret d_G_signAt_31 rfl rfl ?_
        first | exact absurd (nI_tr (by omega) (by omega) ‹nI n ≤ i›) ‹¬ nI s.2 ≤ i› | (refine ⟨?_, rfl⟩; simp only [sAt]; first | rw [if_pos ‹i < 0›] | rw [if_neg ‹¬ i < 0›, if_pos ‹nI s.2 ≤ i›] | rw [if_neg ‹¬ i < 0›, if_neg ‹¬ nI s.2 ≤ i›])
      · first | refine V_aload_n d_G_signAt_21 rfl rfl ?_ | refine V_aloadN_n d_G_signAt_21 rfl rfl ?_
        refine Vget fl_G_7 d_G_signAt_22 (by repeat first | assumption | apply Ob_s | apply Ob_n) rfl ?_
        refine V_iload_n d_G_signAt_25 rfl rfl ?_
        refine Viald d_G_signAt_26 (by repeat first | assumption | apply Ia_s | apply Ia_n) (by exact in_of h_1 h_18 (by omega)) ?_
        refine V_goto (tgt := 31) d_G_signAt_27 (by decide) ?_
        refine V_iret d_G_signAt_31 rfl rfl ?_
        first | exact absurd (nI_tr (by omega) (by omega) ‹nI n ≤ i›) ‹¬ nI s.2 ≤ i› | (refine ⟨?_, rfl⟩; simp only [sAt]; first | rw [if_pos ‹i < 0›] | rw [if_neg ‹¬ i < 0›, if_pos ‹nI s.2 ≤ i›] | rw [if_neg ‹¬ i < 0›, if_neg ‹¬ nI s.2 ≤ i›])
theorem c_G_append (hg : GO g) {mm : Mm} {a r n : Nat} {s : Sq} (h : Sgm g mm a r n s) (c : Int32) : CT g m_G_append 0 0 0 0 [.ref a, .int c] mm (Re (some (.int (bi (decide (s.2 < n))))) (sgUp g mm a r n (apN n s c))) := by
  have hid := sgUp_id h
  have hne := h.ne
  obtain ⟨h1, h2, h3, h4⟩ := h
  refine CT_go (lo := [(0, .ref a), (1, .int c)]) rfl rfl rfl rfl hg ?_
  first | refine V_aload_n d_G_append_0 rfl rfl ?_ | refine V_aloadN_n d_G_append_0 rfl rfl ?_
  refine Vget fl_G_13 d_G_append_1 (by repeat first | assumption | apply Ob_s | apply Ob_n) rfl ?_
  refine V_if_lt (tgt := 19) d_G_append_4 (by decide) (fun h_4 => ?_) (fun h_4 => ?_)
  · exact absurd h_4 (nI_pos (by omega))
  · first | refine V_aload_n d_G_append_7 rfl rfl ?_ | refine V_aloadN_n d_G_append_7 rfl rfl ?_
    refine Vget fl_G_13 d_G_append_8 (by repeat first | assumption | apply Ob_s | apply Ob_n) rfl ?_
    first | refine V_aload_n d_G_append_11 rfl rfl ?_ | refine V_aloadN_n d_G_append_11 rfl rfl ?_
    refine Vget fl_G_7 d_G_append_12 (by repeat first | assumption | apply Ob_s | apply Ob_n) rfl ?_
    refine ValenI d_G_append_15 (by repeat first | assumption | apply Ia_s | apply Ia_n) ?_
    refine V_icmp_lt (tgt := 21) d_G_append_16 (by decide) (fun h_16 => ?_) (fun h_16 => ?_)
    · first | refine V_aload_n d_G_append_21 rfl rfl ?_ | refine V_aloadN_n d_G_append_21 rfl rfl ?_
      refine Vget fl_G_7 d_G_append_22 (by repeat first | assumption | apply Ob_s | apply Ob_n) rfl ?_
      first | refine V_aload_n d_G_append_25 rfl rfl ?_ | refine V_aloadN_n d_G_append_25 rfl rfl ?_
      refine Vget fl_G_13 d_G_append_26 (by repeat first | assumption | apply Ob_s | apply Ob_n) rfl ?_
      refine V_iload_n d_G_append_29 rfl rfl ?_
      refine Viast d_G_append_30 (by repeat first | assumption | apply Ia_s | apply Ia_n) (by exact in_of' h_4 h_16 (by omega)) ?_
      first | refine V_aload_n d_G_append_31 rfl rfl ?_ | refine V_aloadN_n d_G_append_31 rfl rfl ?_
      refine V_dup d_G_append_32 rfl ?_
      refine Vget fl_G_13 d_G_append_33 (by repeat first | assumption | apply Ob_s | apply Ob_n) rfl ?_
      refine V_iconst (v := 1) d_G_append_36 (by decide) ?_
      refine V_iadd d_G_append_37 ?_
      refine Vput pl_G_13 d_G_append_38 (by repeat first | assumption | apply Ob_s | apply Ob_n) rfl rfl (Nat.le_of_ble_eq_true rfl) ?_
      refine V_iconst (v := 1) d_G_append_41 (by decide) ?_
      have hlt : s.2 < n := (nI_ltI (by omega) (by omega)).mp h_16
      refine V_iret d_G_append_42 rfl rfl ⟨by rw [decide_eq_true hlt]; rfl, ?_⟩
      unfold sgUp apN
      rw [if_pos hlt, nI_clamp (by omega)]
      show _ = up _ a (.inr (4, [.ref r, .int (nI (s.2 + 1))]))
      rw [nI_succ]
      rfl
    · refine V_iconst (v := 0) d_G_append_19 (by decide) ?_
      have hlt : ¬ s.2 < n := fun z => h_16 ((nI_ltI (by omega) (by omega)).mpr z)
      refine V_iret d_G_append_20 rfl rfl ⟨by rw [decide_eq_false hlt]; rfl, ?_⟩
      unfold apN
      rw [if_neg hlt, hid]
end C2
