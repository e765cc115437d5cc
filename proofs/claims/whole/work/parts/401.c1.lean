/-! what a method's end says: this answer, this memory -/
def Re (v : Option Value) (mm : Mm) : Ou → Mm → Prop := fun o m' => o = .inl v ∧ m' = mm
def bi (b : Bool) : Int32 := bif b then 1 else 0
theorem bi_nz (b : Bool) : narrow .boolean (.int (bi b)) = .int (bi b) := by cases b <;> rfl
theorem bi_eq0 {b : Bool} : bi b = 0 ↔ b = false := by cases b <;> decide
theorem bi_ne0 {b : Bool} : ¬ bi b = 0 ↔ b = true := by cases b <;> decide
theorem CT_go {g : GG} {t : Mt} {mm : Mm} {Fi : Ou → Mm → Prop} {fr lc mc ms : Nat} {av : List Value} {lo : List (Nat × Value)} (hn : plainName t.1.cls = true) (hlen : Nat.ble (lg_sl av).length t.2.2.1 = true) (hcat : av.all (fun v => Nat.beq v.category 1) = true) (hlo : lv_args 0 av = lo) (hg : GO g) (k : V g t fr lc mc ms 0 lo [] mm Fi) : CT g t fr lc mc ms av mm Fi := by
  subst hlo
  exact CT_of hn (Nat.le_of_ble_eq_true hlen) (fun v hv => Nat.eq_of_beq_eq_true (List.all_eq_true.mp hcat v hv)) hg k
def wi (n a b : Int32) : Bool := !decide (n < a) && !decide (b < n)
section C1
variable {g : GG}
set_option maxRecDepth 20000 in
theorem c_T_isWithin (hg : GO g) (mm : Mm) (n a b : Int32) : CT g m_T_isWithin 0 0 0 0 [.int n, .int a, .int b] mm (Re (some (.int (bi (wi n a b)))) mm) := by
  refine CT_go (lo := [(0, .int n), (1, .int a), (2, .int b)]) rfl rfl rfl rfl hg ?_
  refine V_iload_n d_T_isWithin_0 rfl rfl ?_
  refine V_iload_n d_T_isWithin_1 rfl rfl ?_
  refine V_icmp_lt (tgt := 14) d_T_isWithin_2 (by decide) (fun h_2 => ?_) (fun h_2 => ?_)
  · refine V_iconst (v := 0) d_T_isWithin_14 (by decide) ?_
    refine V_iret d_T_isWithin_15 rfl rfl ?_
    exact ⟨by simp [wi, bi, *], rfl⟩
  · refine V_iload_n d_T_isWithin_5 rfl rfl ?_
    refine V_iload_n d_T_isWithin_6 rfl rfl ?_
    refine V_icmp_gt (tgt := 14) d_T_isWithin_7 (by decide) (fun h_7 => ?_) (fun h_7 => ?_)
    · refine V_iconst (v := 0) d_T_isWithin_14 (by decide) ?_
      refine V_iret d_T_isWithin_15 rfl rfl ?_
      exact ⟨by simp [wi, bi, *], rfl⟩
    · refine V_iconst (v := 1) d_T_isWithin_10 (by decide) ?_
      refine V_goto (tgt := 15) d_T_isWithin_11 (by decide) ?_
      refine V_iret d_T_isWithin_15 rfl rfl ?_
      exact ⟨by simp [wi, bi, *], rfl⟩
theorem c_T_isPlain (hg : GO g) (mm : Mm) (n : Int32) : CT g m_T_isPlain 1 22 0 0 [.int n] mm (Re (some (.int (bi (wi n 32 126)))) mm) := by
  refine CT_go (lo := [(0, .int n)]) rfl rfl rfl rfl hg ?_
  refine V_iload_n d_T_isPlain_0 rfl rfl ?_
  refine V_bipush (v := 32) d_T_isPlain_1 (by decide) ?_
  refine V_bipush (v := 126) d_T_isPlain_3 (by decide) ?_
  refine V_callS cb_T_isWithin ms_T_65 rfl rfl d_T_isPlain_5 (c_T_isWithin hg mm n 32 126) ⟨by decide, by decide⟩ rfl rfl (Nat.le_of_ble_eq_true rfl) (fun _ _ h => nomatch h.1) (fun v m2 hR => ?_)
  obtain ⟨hv9, e9⟩ := hR
  cases hv9
  subst m2
  exact V_iret d_T_isPlain_8 rfl (bi_nz _) ⟨rfl, rfl⟩
theorem c_T_isDigit (hg : GO g) (mm : Mm) (n : Int32) : CT g m_T_isDigit 1 22 0 0 [.int n] mm (Re (some (.int (bi (wi n 48 57)))) mm) := by
  refine CT_go (lo := [(0, .int n)]) rfl rfl rfl rfl hg ?_
  refine V_iload_n d_T_isDigit_0 rfl rfl ?_
  refine V_bipush (v := 48) d_T_isDigit_1 (by decide) ?_
  refine V_bipush (v := 57) d_T_isDigit_3 (by decide) ?_
  refine V_callS cb_T_isWithin ms_T_65 rfl rfl d_T_isDigit_5 (c_T_isWithin hg mm n 48 57) ⟨by decide, by decide⟩ rfl rfl (Nat.le_of_ble_eq_true rfl) (fun _ _ h => nomatch h.1) (fun v m2 hR => ?_)
  obtain ⟨hv9, e9⟩ := hR
  cases hv9
  subst m2
  exact V_iret d_T_isDigit_8 rfl (bi_nz _) ⟨rfl, rfl⟩
theorem c_T_isLetter (hg : GO g) (mm : Mm) (n : Int32) : CT g m_T_isLetter 1 22 0 0 [.int n] mm (Re (some (.int (bi (wi n 65 90)))) mm) := by
  refine CT_go (lo := [(0, .int n)]) rfl rfl rfl rfl hg ?_
  refine V_iload_n d_T_isLetter_0 rfl rfl ?_
  refine V_bipush (v := 65) d_T_isLetter_1 (by decide) ?_
  refine V_bipush (v := 90) d_T_isLetter_3 (by decide) ?_
  refine V_callS cb_T_isWithin ms_T_65 rfl rfl d_T_isLetter_5 (c_T_isWithin hg mm n 65 90) ⟨by decide, by decide⟩ rfl rfl (Nat.le_of_ble_eq_true rfl) (fun _ _ h => nomatch h.1) (fun v m2 hR => ?_)
  obtain ⟨hv9, e9⟩ := hR
  cases hv9
  subst m2
  exact V_iret d_T_isLetter_8 rfl (bi_nz _) ⟨rfl, rfl⟩
theorem c_T_isWeight (hg : GO g) (mm : Mm) (n : Int32) : CT g m_T_isWeight 1 22 0 0 [.int n] mm (Re (some (.int (bi (wi n 1 2000)))) mm) := by
  refine CT_go (lo := [(0, .int n)]) rfl rfl rfl rfl hg ?_
  refine V_iload_n d_T_isWeight_0 rfl rfl ?_
  refine V_iconst (v := 1) d_T_isWeight_1 (by decide) ?_
  refine V_sipush (v := 2000) d_T_isWeight_2 (by decide) ?_
  refine V_callS cb_T_isWithin ms_T_65 rfl rfl d_T_isWeight_5 (c_T_isWithin hg mm n 1 2000) ⟨by decide, by decide⟩ rfl rfl (Nat.le_of_ble_eq_true rfl) (fun _ _ h => nomatch h.1) (fun v m2 hR => ?_)
  obtain ⟨hv9, e9⟩ := hR
  cases hv9
  subst m2
  exact V_iret d_T_isWeight_8 rfl (bi_nz _) ⟨rfl, rfl⟩
theorem c_T_isCode (hg : GO g) (mm : Mm) (n : Int32) : CT g m_T_isCode 1 22 0 0 [.int n] mm (Re (some (.int (bi (wi n 0 9999)))) mm) := by
  refine CT_go (lo := [(0, .int n)]) rfl rfl rfl rfl hg ?_
  refine V_iload_n d_T_isCode_0 rfl rfl ?_
  refine V_iconst (v := 0) d_T_isCode_1 (by decide) ?_
  refine V_sipush (v := 9999) d_T_isCode_2 (by decide) ?_
  refine V_callS cb_T_isWithin ms_T_65 rfl rfl d_T_isCode_5 (c_T_isWithin hg mm n 0 9999) ⟨by decide, by decide⟩ rfl rfl (Nat.le_of_ble_eq_true rfl) (fun _ _ h => nomatch h.1) (fun v m2 hR => ?_)
  obtain ⟨hv9, e9⟩ := hR
  cases hv9
  subst m2
  exact V_iret d_T_isCode_8 rfl (bi_nz _) ⟨rfl, rfl⟩
def hasD (s n : Int32) : Bool := wi n 1 9 && decide (s >>> (n &&& 31) &&& 1 = 1)
theorem c_T_hasDigit (hg : GO g) (mm : Mm) (s n : Int32) : CT g m_T_hasDigit 1 22 0 0 [.int s, .int n] mm (Re (some (.int (bi (hasD s n)))) mm) := by
  refine CT_go (lo := [(0, .int s), (1, .int n)]) rfl rfl rfl rfl hg ?_
  refine V_iload_n d_T_hasDigit_0 rfl rfl ?_
  refine V_iconst (v := 1) d_T_hasDigit_1 (by decide) ?_
  refine V_bipush (v := 9) d_T_hasDigit_2 (by decide) ?_
  refine V_callS cb_T_isWithin ms_T_65 rfl rfl d_T_hasDigit_4 (c_T_isWithin hg mm n 1 9) ⟨by decide, by decide⟩ rfl rfl (Nat.le_of_ble_eq_true rfl) (fun _ _ h => nomatch h.1) (fun v m2 hR => ?_)
  obtain ⟨hv9, e9⟩ := hR
  cases hv9
  subst m2
  refine V_if_eq (tgt := 23) d_T_hasDigit_7 (by decide) (fun h_7 => ?_) (fun h_7 => ?_)
  · refine V_iconst (v := 0) d_T_hasDigit_23 (by decide) ?_
    refine V_iret d_T_hasDigit_24 rfl rfl ?_
    exact ⟨by cases hw : wi n 1 9 <;> simp_all [hasD, bi], rfl⟩
  · refine V_iload_n d_T_hasDigit_10 rfl rfl ?_
    refine V_iload_n d_T_hasDigit_11 rfl rfl ?_
    refine V_ishr d_T_hasDigit_12 ?_
    refine V_iconst (v := 1) d_T_hasDigit_13 (by decide) ?_
    refine V_iand d_T_hasDigit_14 ?_
    refine V_iconst (v := 1) d_T_hasDigit_15 (by decide) ?_
    refine V_icmp_ne (tgt := 23) d_T_hasDigit_16 (by decide) (fun h_16 => ?_) (fun h_16 => ?_)
    · refine V_iconst (v := 0) d_T_hasDigit_23 (by decide) ?_
      refine V_iret d_T_hasDigit_24 rfl rfl ?_
      exact ⟨by cases hw : wi n 1 9 <;> simp_all [hasD, bi], rfl⟩
    · refine V_iconst (v := 1) d_T_hasDigit_19 (by decide) ?_
      refine V_goto (tgt := 24) d_T_hasDigit_20 (by decide) ?_
      refine V_iret d_T_hasDigit_24 rfl rfl ?_
      exact ⟨by cases hw : wi n 1 9 <;> simp_all [hasD, bi], rfl⟩
end C1
