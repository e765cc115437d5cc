/-! Edition: its own cell, the services' row (sv j: where service j lies, v j: what it tells), the ranges' rows -/
def edL (sa fa la za k q : Nat) (day : Int32) : List Value := [.ref sa, .ref fa, .ref la, .ref za, .int (nI k), .int (nI q), .int day]
/-- services told: the row sa holds them, each at its place -/
def Svs (g : GG) (mm : Mm) (sa k : Nat) (rf : Nat → Option Nat) (sv : Nat → Nat) (v : Nat → Nat → Int32) : Prop := Qa g mm 2 sa 26 rf ∧ k ≤ 26 ∧ ∀ j, j < k → rf j = some (sv j) ∧ Ob mm (sv j) 3 (svL (v j))
def Rgs (g : GG) (mm : Mm) (fa la za : Nat) (f1 f2 f3 : Nat → Int32) : Prop := Ia g mm fa 8 f1 ∧ Ia g mm la 8 f2 ∧ Ia g mm za 8 f3
/-- the first service with this letter, from j on -/
def fndF (v : Nat → Nat → Int32) (c : Int32) : Nat → Nat → Option Nat
  | 0, _ => none
  | m + 1, j => if v j 0 = c then some j else fndF v c m (j + 1)
def znF (f1 f2 f3 : Nat → Int32) (c : Int32) : Nat → Nat → Int32
  | 0, _ => 0
  | m + 1, j => if wi c (f1 j) (f2 j) = true then f3 j else znF f1 f2 f3 c m (j + 1)
def hrF (v : Nat → Nat → Int32) : Nat → Nat → Nat
  | 0, _ => 0
  | m + 1, j => (if 0 < v j 8 then 1 else 0) + hrF v m (j + 1)
theorem vp_nI {j n : Nat} (h : j < n) (hn : n < 2 ^ 31) : vp_in (nI j) n := vp_in_nI h hn
section C4
variable {g : GG}
theorem c_E_serviceAt (hg : GO g) {mm : Mm} {e sa fa la za k q : Nat} {day : Int32} {rf : Nat → Option Nat} {sv : Nat → Nat} {v : Nat → Nat → Int32} (h : Ob mm e 0 (edL sa fa la za k q day)) (hs : Svs g mm sa k rf sv v) {j : Nat} (hj : j < k) : CT g m_E_serviceAt 0 0 0 0 [.ref e, .int (nI j)] mm (Re (some (.ref (sv j))) mm) := by
  obtain ⟨h1, h2, h3⟩ := hs
  have hin : vp_in (nI j) 26 := vp_nI (by omega) (by omega)
  refine CT_go (lo := [(0, .ref e), (1, .int (nI j))]) rfl rfl rfl rfl hg ?_
  refine V_iload_n d_E_serviceAt_0 rfl rfl ?_
  refine V_if_lt (tgt := 30) d_E_serviceAt_1 (by decide) (fun h_1 => ?_) (fun h_1 => ?_)
  · exact absurd h_1 (nI_pos (by omega))
  · refine V_iload_n d_E_serviceAt_4 rfl rfl ?_
    first | refine V_aload_n d_E_serviceAt_5 rfl rfl ?_ | refine V_aloadN_n d_E_serviceAt_5 rfl rfl ?_
    refine Vget fl_E_27 d_E_serviceAt_6 (by repeat first | assumption | apply Ob_s | apply Ob_n) rfl ?_
    refine V_icmp_ge (tgt := 30) d_E_serviceAt_9 (by decide) (fun h_9 => ?_) (fun h_9 => ?_)
    · exact absurd h_9 (nI_ge hj (by omega))
    · refine V_iload_n d_E_serviceAt_12 rfl rfl ?_
      first | refine V_aload_n d_E_serviceAt_13 rfl rfl ?_ | refine V_aloadN_n d_E_serviceAt_13 rfl rfl ?_
      refine Vget fl_E_11 d_E_serviceAt_14 (by repeat first | assumption | apply Ob_s | apply Ob_n) rfl ?_
      refine ValenQ (j := 2) d_E_serviceAt_17 (fun _ => rfl) (by repeat first | assumption | apply Qa_s | apply Qa_n) ?_
      refine V_icmp_ge (tgt := 30) d_E_serviceAt_18 (by decide) (fun h_18 => ?_) (fun h_18 => ?_)
      · exact absurd h_18 (nI_ge (b := 26) (by omega) (by omega))
      · first | refine V_aload_n d_E_serviceAt_21 rfl rfl ?_ | refine V_aloadN_n d_E_serviceAt_21 rfl rfl ?_
        refine Vget fl_E_11 d_E_serviceAt_22 (by repeat first | assumption | apply Ob_s | apply Ob_n) rfl ?_
        refine V_iload_n d_E_serviceAt_25 rfl rfl ?_
        refine Vaald (j := 2) d_E_serviceAt_26 (fun _ => rfl) (by repeat first | assumption | apply Qa_s | apply Qa_n) (by assumption) ?_
        refine V_goto (tgt := 31) d_E_serviceAt_27 (by decide) ?_
        rw [nI_clamp (by omega), (h3 j hj).1]
        exact V_aret (r := some (sv j)) d_E_serviceAt_31 rfl (Or.inl ⟨_, rfl⟩) ⟨rfl, rfl⟩
set_option maxRecDepth 20000 in
theorem l_E_find (hg : GO g) {mm : Mm} {e sa fa la za k q : Nat} {day : Int32} {rf : Nat → Option Nat} {sv : Nat → Nat} {v : Nat → Nat → Int32} (h : Ob mm e 0 (edL sa fa la za k q day)) (hs : Svs g mm sa k rf sv v) (c : Int32) {Fi : Ou → Mm → Prop} : ∀ (n j : Nat) (x : List (Nat × Value)), j + n = k → chk [(0, .ref e), (1, .int c), (2, .int (nI j))] x → Fi (.inl (some (va_rf ((fndF v c n j).map sv)))) mm → V g m_E_find 1 21 0 0 2 x [] mm Fi := by
  intro n
  have hk : k ≤ 26 := hs.2.1
  induction n with
  | zero =>
    intro j x hj hx hF
    refine V_lo _ hx ?_
    refine V_iload_n d_E_find_2 rfl rfl ?_
    first | refine V_aload_n d_E_find_3 rfl rfl ?_ | refine V_aloadN_n d_E_find_3 rfl rfl ?_
    refine Vget fl_E_27 d_E_find_4 (by repeat first | assumption | apply Ob_s | apply Ob_n) rfl ?_
    refine V_icmp_ge (tgt := 36) d_E_find_7 (by decide) (fun h_7 => ?_) (fun h_7 => ?_)
    · refine V_null d_E_find_36 ?_
      exact V_aret (r := none) d_E_find_37 rfl (Or.inl ⟨_, rfl⟩) hF
    · exact absurd (nI_le (by omega) (by omega)) h_7
  | succ n ih =>
    intro j x hj hx hF
    refine V_lo _ hx ?_
    have ho := (hs.2.2 j (by omega)).2
    refine V_iload_n d_E_find_2 rfl rfl ?_
    first | refine V_aload_n d_E_find_3 rfl rfl ?_ | refine V_aloadN_n d_E_find_3 rfl rfl ?_
    refine Vget fl_E_27 d_E_find_4 (by repeat first | assumption | apply Ob_s | apply Ob_n) rfl ?_
    refine V_icmp_ge (tgt := 36) d_E_find_7 (by decide) (fun h_7 => ?_) (fun h_7 => ?_)
    · exact absurd h_7 (nI_ge (by omega) (by omega))
    · first | refine V_aload_n d_E_find_10 rfl rfl ?_ | refine V_aloadN_n d_E_find_10 rfl rfl ?_
      refine V_iload_n d_E_find_11 rfl rfl ?_
      refine VcallV cb_E_serviceAt mv_E_34 rfl (ci := 0) rfl rfl d_E_find_12 (c_E_serviceAt hg h hs (j := j) (by omega)) ⟨by decide, by decide⟩ rfl (by repeat first | assumption | apply Ob_s | apply Ob_n) rfl (Nat.le_of_ble_eq_true rfl) (fun _ _ h => nomatch h.1) (fun v m2 hR => ?_)
      obtain ⟨hv9, e9⟩ := hR
      cases hv9
      subst m2
      first | refine V_astore_n d_E_find_15 rfl rfl ?_ | refine V_astoreN_n d_E_find_15 rfl rfl ?_
      first | refine V_aload_n d_E_find_16 rfl rfl ?_ | refine V_aloadN_n d_E_find_16 rfl rfl ?_
      first | refine V_ifnullR d_E_find_17 ?_ | refine V_ifnullN (tgt := 30) d_E_find_17 (by decide) ?_
      first | refine V_aload_n d_E_find_20 rfl rfl ?_ | refine V_aloadN_n d_E_find_20 rfl rfl ?_
      refine Vget fl_E_38 d_E_find_21 (by repeat first | assumption | apply Ob_s | apply Ob_n) rfl ?_
      refine V_iload_n d_E_find_24 rfl rfl ?_
      refine V_icmp_ne (tgt := 30) d_E_find_25 (by decide) (fun h_25 => ?_) (fun h_25 => ?_)
      · refine V_iinc d_E_find_30 rfl (nI_inc _) rfl ?_
        refine V_goto (tgt := 2) d_E_find_33 (by decide) ?_
        refine ih (j + 1) _ (by omega) ⟨rfl, rfl, rfl, trivial⟩ ?_
        rw [fndF, if_neg h_25] at hF
        exact hF
      · first | refine V_aload_n d_E_find_28 rfl rfl ?_ | refine V_aloadN_n d_E_find_28 rfl rfl ?_
        refine V_aret (r := some (sv j)) d_E_find_29 rfl (Or.inl ⟨_, rfl⟩) ?_
        rw [fndF, if_pos (by simpa using h_25)] at hF
        exact hF
theorem c_E_find (hg : GO g) {mm : Mm} {e sa fa la za k q : Nat} {day : Int32} {rf : Nat → Option Nat} {sv : Nat → Nat} {v : Nat → Nat → Int32} (h : Ob mm e 0 (edL sa fa la za k q day)) (hs : Svs g mm sa k rf sv v) (c : Int32) : CT g m_E_find 1 21 0 0 [.ref e, .int c] mm (Re (some (va_rf ((fndF v c k 0).map sv))) mm) := by
  refine CT_go (lo := [(0, .ref e), (1, .int c)]) rfl rfl rfl rfl hg ?_
  refine V_iconst (v := 0) d_E_find_0 (by decide) ?_
  refine V_istore_n d_E_find_1 rfl rfl ?_
  exact l_E_find hg h hs c k 0 _ (by omega) ⟨rfl, rfl, rfl, trivial⟩ ⟨rfl, rfl⟩
set_option maxRecDepth 20000 in
theorem l_E_zoneOf (hg : GO g) {mm : Mm} {e sa fa la za k q : Nat} {day : Int32} {f1 f2 f3 : Nat → Int32} (h : Ob mm e 0 (edL sa fa la za k q day)) (hr : Rgs g mm fa la za f1 f2 f3) (hq : q < 1000) (c : Int32) {Fi : Ou → Mm → Prop} : ∀ (n j : Nat) (x : List (Nat × Value)), j + n = min q 8 → chk [(0, .ref e), (1, .int c), (2, .int (nI j))] x → Fi (.inl (some (.int (znF f1 f2 f3 c n j)))) mm → V g m_E_zoneOf 1 22 0 0 2 x [] mm Fi := by
  obtain ⟨r1, r2, r3⟩ := hr
  intro n
  induction n with
  | zero =>
    intro j x hj hx hF
    refine V_lo _ hx ?_
    refine V_iload_n d_E_zoneOf_2 rfl rfl ?_
    first | refine V_aload_n d_E_zoneOf_3 rfl rfl ?_ | refine V_aloadN_n d_E_zoneOf_3 rfl rfl ?_
    refine Vget fl_E_31 d_E_zoneOf_4 (by repeat first | assumption | apply Ob_s | apply Ob_n) rfl ?_
    refine V_icmp_ge (tgt := 48) d_E_zoneOf_7 (by decide) (fun h_7 => ?_) (fun h_7 => ?_)
    · refine V_iconst (v := 0) d_E_zoneOf_48 (by decide) ?_
      exact V_iret d_E_zoneOf_49 rfl rfl hF
    · refine V_iload_n d_E_zoneOf_10 rfl rfl ?_
      refine V_bipush (v := 8) d_E_zoneOf_11 (by decide) ?_
      refine V_icmp_ge (tgt := 48) d_E_zoneOf_13 (by decide) (fun h_13 => ?_) (fun h_13 => ?_)
      · refine V_iconst (v := 0) d_E_zoneOf_48 (by decide) ?_
        exact V_iret d_E_zoneOf_49 rfl rfl hF
      · have a1 : ¬ q ≤ j := fun z => h_7 (nI_le z (by omega))
        have a2 : ¬ 8 ≤ j := fun z => h_13 (nI_le (a := 8) z (by omega))
        omega
  | succ n ih =>
    intro j x hj hx hF
    refine V_lo _ hx ?_
    have hin : vp_in (nI j) 8 := vp_nI (by omega) (by omega)
    refine V_iload_n d_E_zoneOf_2 rfl rfl ?_
    first | refine V_aload_n d_E_zoneOf_3 rfl rfl ?_ | refine V_aloadN_n d_E_zoneOf_3 rfl rfl ?_
    refine Vget fl_E_31 d_E_zoneOf_4 (by repeat first | assumption | apply Ob_s | apply Ob_n) rfl ?_
    refine V_icmp_ge (tgt := 48) d_E_zoneOf_7 (by decide) (fun h_7 => ?_) (fun h_7 => ?_)
    · exact absurd h_7 (nI_ge (by omega) (by omega))
    · refine V_iload_n d_E_zoneOf_10 rfl rfl ?_
      refine V_bipush (v := 8) d_E_zoneOf_11 (by decide) ?_
      refine V_icmp_ge (tgt := 48) d_E_zoneOf_13 (by decide) (fun h_13 => ?_) (fun h_13 => ?_)
      · exact absurd h_13 (nI_ge (b := 8) (by omega) (by omega))
      · refine V_iload_n d_E_zoneOf_16 rfl rfl ?_
        first | refine V_aload_n d_E_zoneOf_17 rfl rfl ?_ | refine V_aloadN_n d_E_zoneOf_17 rfl rfl ?_
        refine Vget fl_E_17 d_E_zoneOf_18 (by repeat first | assumption | apply Ob_s | apply Ob_n) rfl ?_
        refine V_iload_n d_E_zoneOf_21 rfl rfl ?_
        refine Viald d_E_zoneOf_22 (by repeat first | assumption | apply Ia_s | apply Ia_n) (by assumption) ?_
        first | refine V_aload_n d_E_zoneOf_23 rfl rfl ?_ | refine V_aloadN_n d_E_zoneOf_23 rfl rfl ?_
        refine Vget fl_E_21 d_E_zoneOf_24 (by repeat first | assumption | apply Ob_s | apply Ob_n) rfl ?_
        refine V_iload_n d_E_zoneOf_27 rfl rfl ?_
        refine Viald d_E_zoneOf_28 (by repeat first | assumption | apply Ia_s | apply Ia_n) (by assumption) ?_
        rw [nI_clamp (by omega)]
        refine V_callS cb_T_isWithin ms_E_41 rfl rfl d_E_zoneOf_29 (c_T_isWithin hg _ c _ _) ⟨by decide, by decide⟩ rfl rfl (Nat.le_of_ble_eq_true rfl) (fun _ _ h => nomatch h.1) (fun v m2 hR => ?_)
        obtain ⟨hv9, e9⟩ := hR
        cases hv9
        subst m2
        refine V_if_eq (tgt := 42) d_E_zoneOf_32 (by decide) (fun h_32 => ?_) (fun h_32 => ?_)
        · rw [bi_eq0] at h_32
          refine V_iinc d_E_zoneOf_42 rfl (nI_inc _) rfl ?_
          refine V_goto (tgt := 2) d_E_zoneOf_45 (by decide) ?_
          refine ih (j + 1) _ (by omega) ⟨rfl, rfl, rfl, trivial⟩ ?_
          rw [znF, if_neg (by rw [h_32]; decide)] at hF
          exact hF
        · rw [bi_ne0] at h_32
          first | refine V_aload_n d_E_zoneOf_35 rfl rfl ?_ | refine V_aloadN_n d_E_zoneOf_35 rfl rfl ?_
          refine Vget fl_E_24 d_E_zoneOf_36 (by repeat first | assumption | apply Ob_s | apply Ob_n) rfl ?_
          refine V_iload_n d_E_zoneOf_39 rfl rfl ?_
          refine Viald d_E_zoneOf_40 (by repeat first | assumption | apply Ia_s | apply Ia_n) (by assumption) ?_
          rw [nI_clamp (by omega)]
          refine V_iret d_E_zoneOf_41 rfl rfl ?_
          rw [znF, if_pos h_32] at hF
          exact hF
theorem c_E_zoneOf (hg : GO g) {mm : Mm} {e sa fa la za k q : Nat} {day : Int32} {f1 f2 f3 : Nat → Int32} (h : Ob mm e 0 (edL sa fa la za k q day)) (hr : Rgs g mm fa la za f1 f2 f3) (hq : q < 1000) (c : Int32) : CT g m_E_zoneOf 1 22 0 0 [.ref e, .int c] mm (Re (some (.int (znF f1 f2 f3 c (min q 8) 0))) mm) := by
  refine CT_go (lo := [(0, .ref e), (1, .int c)]) rfl rfl rfl rfl hg ?_
  refine V_iconst (v := 0) d_E_zoneOf_0 (by decide) ?_
  refine V_istore_n d_E_zoneOf_1 rfl rfl ?_
  exact l_E_zoneOf hg h hr hq c (min q 8) 0 _ (by omega) ⟨rfl, rfl, rfl, trivial⟩ ⟨rfl, rfl⟩
set_option maxRecDepth 20000 in
theorem l_E_servicesWithHours (hg : GO g) {mm : Mm} {e sa fa la za k q : Nat} {day : Int32} {rf : Nat → Option Nat} {sv : Nat → Nat} {v : Nat → Nat → Int32} (h : Ob mm e 0 (edL sa fa la za k q day)) (hs : Svs g mm sa k rf sv v) {Fi : Ou → Mm → Prop} : ∀ (n j c : Nat) (x : List (Nat × Value)), j + n = k → c ≤ j → chk [(0, .ref e), (1, .int (nI c)), (2, .int (nI j))] x → Fi (.inl (some (.int (nI (c + hrF v n j))))) mm → V g m_E_servicesWithHours 1 21 0 0 4 x [] mm Fi := by
  intro n
  have hk : k ≤ 26 := hs.2.1
  induction n with
  | zero =>
    intro j c x hj hc hx hF
    refine V_lo _ hx ?_
    refine V_iload_n d_E_servicesWithHours_4 rfl rfl ?_
    first | refine V_aload_n d_E_servicesWithHours_5 rfl rfl ?_ | refine V_aloadN_n d_E_servicesWithHours_5 rfl rfl ?_
    refine Vget fl_E_27 d_E_servicesWithHours_6 (by repeat first | assumption | apply Ob_s | apply Ob_n) rfl ?_
    refine V_icmp_ge (tgt := 38) d_E_servicesWithHours_9 (by decide) (fun h_9 => ?_) (fun h_9 => ?_)
    · refine V_iload_n d_E_servicesWithHours_38 rfl rfl ?_
      exact V_iret d_E_servicesWithHours_39 rfl rfl hF
    · exact absurd (nI_le (by omega) (by omega)) h_9
  | succ n ih =>
    intro j c x hj hc hx hF
    refine V_lo _ hx ?_
    have ho := (hs.2.2 j (by omega)).2
    refine V_iload_n d_E_servicesWithHours_4 rfl rfl ?_
    first | refine V_aload_n d_E_servicesWithHours_5 rfl rfl ?_ | refine V_aloadN_n d_E_servicesWithHours_5 rfl rfl ?_
    refine Vget fl_E_27 d_E_servicesWithHours_6 (by repeat first | assumption | apply Ob_s | apply Ob_n) rfl ?_
    refine V_icmp_ge (tgt := 38) d_E_servicesWithHours_9 (by decide) (fun h_9 => ?_) (fun h_9 => ?_)
    · exact absurd h_9 (nI_ge (by omega) (by omega))
    · first | refine V_aload_n d_E_servicesWithHours_12 rfl rfl ?_ | refine V_aloadN_n d_E_servicesWithHours_12 rfl rfl ?_
      refine V_iload_n d_E_servicesWithHours_13 rfl rfl ?_
      refine VcallV cb_E_serviceAt mv_E_34 rfl (ci := 0) rfl rfl d_E_servicesWithHours_14 (c_E_serviceAt hg h hs (j := j) (by omega)) ⟨by decide, by decide⟩ rfl (by repeat first | assumption | apply Ob_s | apply Ob_n) rfl (Nat.le_of_ble_eq_true rfl) (fun _ _ h => nomatch h.1) (fun v m2 hR => ?_)
      obtain ⟨hv9, e9⟩ := hR
      cases hv9
      subst m2
      first | refine V_astore_n d_E_servicesWithHours_17 rfl rfl ?_ | refine V_astoreN_n d_E_servicesWithHours_17 rfl rfl ?_
      first | refine V_aload_n d_E_servicesWithHours_18 rfl rfl ?_ | refine V_aloadN_n d_E_servicesWithHours_18 rfl rfl ?_
      first | refine V_ifnullR d_E_servicesWithHours_19 ?_ | refine V_ifnullN (tgt := 32) d_E_servicesWithHours_19 (by decide) ?_
      first | refine V_aload_n d_E_servicesWithHours_22 rfl rfl ?_ | refine V_aloadN_n d_E_servicesWithHours_22 rfl rfl ?_
      refine VcallV cb_S_hasHours mv_E_45 rfl (ci := 3) rfl rfl d_E_servicesWithHours_23 (c_S_hasHours hg ho) ⟨by decide, by decide⟩ rfl (by repeat first | assumption | apply Ob_s | apply Ob_n) rfl (Nat.le_of_ble_eq_true rfl) (fun _ _ h => nomatch h.1) (fun v m2 hR => ?_)
      obtain ⟨hv9, e9⟩ := hR
      cases hv9
      subst m2
      refine V_if_eq (tgt := 32) d_E_servicesWithHours_26 (by decide) (fun h_26 => ?_) (fun h_26 => ?_)
      · rw [bi_eq0] at h_26
        refine V_iinc d_E_servicesWithHours_32 rfl (nI_inc _) rfl ?_
        refine V_goto (tgt := 4) d_E_servicesWithHours_35 (by decide) ?_
        refine ih (j + 1) c _ (by omega) (by omega) ⟨rfl, rfl, rfl, trivial⟩ ?_
        rw [hrF, if_neg (by simpa using h_26), Nat.zero_add] at hF
        exact hF
      · rw [bi_ne0] at h_26
        refine V_iinc d_E_servicesWithHours_29 rfl (nI_inc _) rfl ?_
        refine V_iinc d_E_servicesWithHours_32 rfl (nI_inc _) rfl ?_
        refine V_goto (tgt := 4) d_E_servicesWithHours_35 (by decide) ?_
        refine ih (j + 1) (c + 1) _ (by omega) (by omega) ⟨rfl, rfl, rfl, trivial⟩ ?_
        rw [hrF, if_pos (by simpa using h_26), ← Nat.add_assoc] at hF
        exact hF
theorem c_E_servicesWithHours (hg : GO g) {mm : Mm} {e sa fa la za k q : Nat} {day : Int32} {rf : Nat → Option Nat} {sv : Nat → Nat} {v : Nat → Nat → Int32} (h : Ob mm e 0 (edL sa fa la za k q day)) (hs : Svs g mm sa k rf sv v) : CT g m_E_servicesWithHours 1 21 0 0 [.ref e] mm (Re (some (.int (nI (hrF v k 0)))) mm) := by
  refine CT_go (lo := [(0, .ref e)]) rfl rfl rfl rfl hg ?_
  refine V_iconst (v := 0) d_E_servicesWithHours_0 (by decide) ?_
  refine V_istore_n d_E_servicesWithHours_1 rfl rfl ?_
  refine V_iconst (v := 0) d_E_servicesWithHours_2 (by decide) ?_
  refine V_istore_n d_E_servicesWithHours_3 rfl rfl ?_
  exact l_E_servicesWithHours hg h hs k 0 0 _ (by omega) (Nat.le_refl _) ⟨rfl, rfl, rfl, trivial⟩ ⟨by rw [Nat.zero_add], rfl⟩
theorem c_E_clear (hg : GO g) {mm : Mm} {e sa fa la za k q : Nat} {day : Int32} (h : Ob mm e 0 (edL sa fa la za k q day)) : CT g m_E_clear 0 0 0 0 [.ref e] mm (Re none (up mm e (.inr (0, edL sa fa la za 0 0 day)))) := by
  refine CT_go (lo := [(0, .ref e)]) rfl rfl rfl rfl hg ?_
  first | refine V_aload_n d_E_clear_0 rfl rfl ?_ | refine V_aloadN_n d_E_clear_0 rfl rfl ?_
  refine V_iconst (v := 0) d_E_clear_1 (by decide) ?_
  refine Vput pl_E_27 d_E_clear_2 (by repeat first | assumption | apply Ob_s | apply Ob_n) rfl rfl (Nat.le_of_ble_eq_true rfl) ?_
  first | refine V_aload_n d_E_clear_5 rfl rfl ?_ | refine V_aloadN_n d_E_clear_5 rfl rfl ?_
  refine V_iconst (v := 0) d_E_clear_6 (by decide) ?_
  refine Vput pl_E_31 d_E_clear_7 (by repeat first | assumption | apply Ob_s | apply Ob_n) rfl rfl (Nat.le_of_ble_eq_true rfl) ?_
  exact V_vret d_E_clear_10 rfl ⟨rfl, up_up⟩
theorem c_E_isOverfull (hg : GO g) {mm : Mm} {e sa fa la za k q : Nat} {day : Int32} (h : Ob mm e 0 (edL sa fa la za k q day)) (hk : k < 1000) (hq : q < 1000) : CT g m_E_isOverfull 0 0 0 0 [.ref e] mm (Re (some (.int (bi (decide (8 < k) || decide (8 < q))))) mm) := by
  have e1 : (8 : Int32) < nI k ↔ 8 < k := nI_ltI (a := 8) (by omega) (by omega)
  have e2 : nI q ≤ (8 : Int32) ↔ q ≤ 8 := nI_leI (b := 8) (by omega) (by omega)
  refine CT_go (lo := [(0, .ref e)]) rfl rfl rfl rfl hg ?_
  first | refine V_aload_n d_E_isOverfull_0 rfl rfl ?_ | refine V_aloadN_n d_E_isOverfull_0 rfl rfl ?_
  refine Vget fl_E_27 d_E_isOverfull_1 (by repeat first | assumption | apply Ob_s | apply Ob_n) rfl ?_
  refine V_bipush (v := 8) d_E_isOverfull_4 (by decide) ?_
  refine V_icmp_gt (tgt := 18) d_E_isOverfull_6 (by decide) (fun h_6 => ?_) (fun h_6 => ?_)
  · refine V_iconst (v := 1) d_E_isOverfull_18 (by decide) ?_
    refine V_goto (tgt := 23) d_E_isOverfull_19 (by decide) ?_
    exact V_iret d_E_isOverfull_23 rfl rfl ⟨by rw [decide_eq_true (e1.mp h_6)]; rfl, rfl⟩
  · first | refine V_aload_n d_E_isOverfull_9 rfl rfl ?_ | refine V_aloadN_n d_E_isOverfull_9 rfl rfl ?_
    refine Vget fl_E_31 d_E_isOverfull_10 (by repeat first | assumption | apply Ob_s | apply Ob_n) rfl ?_
    refine V_bipush (v := 8) d_E_isOverfull_13 (by decide) ?_
    refine V_icmp_le (tgt := 22) d_E_isOverfull_15 (by decide) (fun h_15 => ?_) (fun h_15 => ?_)
    · refine V_iconst (v := 0) d_E_isOverfull_22 (by decide) ?_
      exact V_iret d_E_isOverfull_23 rfl rfl ⟨by rw [decide_eq_false (fun z => h_6 (e1.mpr z)), decide_eq_false (Nat.not_lt.mpr (e2.mp h_15))]; rfl, rfl⟩
    · refine V_iconst (v := 1) d_E_isOverfull_18 (by decide) ?_
      refine V_goto (tgt := 23) d_E_isOverfull_19 (by decide) ?_
      exact V_iret d_E_isOverfull_23 rfl rfl ⟨by rw [decide_eq_true (Nat.not_le.mp (fun z => h_15 (e2.mpr z))), Bool.or_true]; rfl, rfl⟩
theorem c_E_addService (hg : GO g) {mm : Mm} {e sa fa la za k q a : Nat} {day : Int32} {rf : Nat → Option Nat} {v : Nat → Int32} (h : Ob mm e 0 (edL sa fa la za k q day)) (hs : Qa g mm 2 sa 26 rf) (hk : k < 26) (ha : Ob mm a 3 (svL v)) : CT g m_E_addService 0 0 0 0 [.ref e, .ref a] mm (Re none (up (up mm sa (.inl (g.2.2.2.2 2, 26, .inr (.inr (.inr (.inr (va_up rf k (some a)))))))) e (.inr (0, edL sa fa la za (k + 1) q day)))) := by
  have hne : e ≠ sa := Ob_neQ h hs
  have hin : vp_in (nI k) 26 := vp_nI (by omega) (by omega)
  refine CT_go (lo := [(0, .ref e), (1, .ref a)]) rfl rfl rfl rfl hg ?_
  first | refine V_aload_n d_E_addService_0 rfl rfl ?_ | refine V_aloadN_n d_E_addService_0 rfl rfl ?_
  refine Vget fl_E_27 d_E_addService_1 (by repeat first | assumption | apply Ob_s | apply Ob_n) rfl ?_
  refine V_if_lt (tgt := 39) d_E_addService_4 (by decide) (fun h_4 => ?_) (fun h_4 => ?_)
  · exact absurd h_4 (nI_pos (by omega))
  · first | refine V_aload_n d_E_addService_7 rfl rfl ?_ | refine V_aloadN_n d_E_addService_7 rfl rfl ?_
    refine Vget fl_E_27 d_E_addService_8 (by repeat first | assumption | apply Ob_s | apply Ob_n) rfl ?_
    first | refine V_aload_n d_E_addService_11 rfl rfl ?_ | refine V_aloadN_n d_E_addService_11 rfl rfl ?_
    refine Vget fl_E_11 d_E_addService_12 (by repeat first | assumption | apply Ob_s | apply Ob_n) rfl ?_
    refine ValenQ (j := 2) d_E_addService_15 (fun _ => rfl) (by repeat first | assumption | apply Qa_s | apply Qa_n) ?_
    refine V_icmp_ge (tgt := 39) d_E_addService_16 (by decide) (fun h_16 => ?_) (fun h_16 => ?_)
    · exact absurd h_16 (nI_ge (b := 26) (by omega) (by omega))
    · first | refine V_aload_n d_E_addService_19 rfl rfl ?_ | refine V_aloadN_n d_E_addService_19 rfl rfl ?_
      refine Vget fl_E_11 d_E_addService_20 (by repeat first | assumption | apply Ob_s | apply Ob_n) rfl ?_
      first | refine V_aload_n d_E_addService_23 rfl rfl ?_ | refine V_aloadN_n d_E_addService_23 rfl rfl ?_
      refine Vget fl_E_27 d_E_addService_24 (by repeat first | assumption | apply Ob_s | apply Ob_n) rfl ?_
      first | refine V_aload_n d_E_addService_27 rfl rfl ?_ | refine V_aloadN_n d_E_addService_27 rfl rfl ?_
      refine Vaast (j := 2) (ci := 3) d_E_addService_28 (fun _ => rfl) rfl (by assumption) (by assumption) (by assumption) ?_
      first | refine V_aload_n d_E_addService_29 rfl rfl ?_ | refine V_aloadN_n d_E_addService_29 rfl rfl ?_
      refine V_dup d_E_addService_30 rfl ?_
      refine Vget fl_E_27 d_E_addService_31 (by repeat first | assumption | apply Ob_s | apply Ob_n) rfl ?_
      refine V_iconst (v := 1) d_E_addService_34 (by decide) ?_
      refine V_iadd d_E_addService_35 ?_
      refine Vput pl_E_27 d_E_addService_36 (by repeat first | assumption | apply Ob_s | apply Ob_n) rfl rfl (Nat.le_of_ble_eq_true rfl) ?_
      refine V_vret d_E_addService_39 rfl ⟨rfl, ?_⟩
      rw [nI_clamp (by omega)]
      unfold edL
      rw [nI_succ]
      rfl
theorem c_E_addRange (hg : GO g) {mm : Mm} {e sa fa la za k q : Nat} {day : Int32} {f1 f2 f3 : Nat → Int32} (h : Ob mm e 0 (edL sa fa la za k q day)) (hr : Rgs g mm fa la za f1 f2 f3) (n12 : fa ≠ la) (n13 : fa ≠ za) (n23 : la ≠ za) (hq : q < 1000) (a b z : Int32) : CT g m_E_addRange 0 0 0 0 [.ref e, .int a, .int b, .int z] mm (Re none (up (if q < 8 then up (up (up mm fa (.inl (g.2.2.2.2 0, 8, .inl (upd f1 q a)))) la (.inl (g.2.2.2.2 0, 8, .inl (upd f2 q b)))) za (.inl (g.2.2.2.2 0, 8, .inl (upd f3 q z))) else mm) e (.inr (0, edL sa fa la za k (q + 1) day)))) := by
  obtain ⟨r1, r2, r3⟩ := hr
  have m1 := Ob_neI h r1
  have m2 := Ob_neI h r2
  have m3 := Ob_neI h r3
  have n21 := Ne.symm n12
  have n31 := Ne.symm n13
  have n32 := Ne.symm n23
  have e1 : (8 : Int32) ≤ nI q ↔ 8 ≤ q := nI_leI (a := 8) (by omega) (by omega)
  refine CT_go (lo := [(0, .ref e), (1, .int a), (2, .int b), (3, .int z)]) rfl rfl rfl rfl hg ?_
  first | refine V_aload_n d_E_addRange_0 rfl rfl ?_ | refine V_aloadN_n d_E_addRange_0 rfl rfl ?_
  refine Vget fl_E_31 d_E_addRange_1 (by repeat first | assumption | apply Ob_s | apply Ob_n) rfl ?_
  refine V_if_lt (tgt := 46) d_E_addRange_4 (by decide) (fun h_4 => ?_) (fun h_4 => ?_)
  · exact absurd h_4 (nI_pos (by omega))
  · first | refine V_aload_n d_E_addRange_7 rfl rfl ?_ | refine V_aloadN_n d_E_addRange_7 rfl rfl ?_
    refine Vget fl_E_31 d_E_addRange_8 (by repeat first | assumption | apply Ob_s | apply Ob_n) rfl ?_
    refine V_bipush (v := 8) d_E_addRange_11 (by decide) ?_
    refine V_icmp_ge (tgt := 46) d_E_addRange_13 (by decide) (fun h_13 => ?_) (fun h_13 => ?_)
    · first | refine V_aload_n d_E_addRange_46 rfl rfl ?_ | refine V_aloadN_n d_E_addRange_46 rfl rfl ?_
      refine V_dup d_E_addRange_47 rfl ?_
      refine Vget fl_E_31 d_E_addRange_48 (by repeat first | assumption | apply Ob_s | apply Ob_n) rfl ?_
      refine V_iconst (v := 1) d_E_addRange_51 (by decide) ?_
      refine V_iadd d_E_addRange_52 ?_
      refine Vput pl_E_31 d_E_addRange_53 (by repeat first | assumption | apply Ob_s | apply Ob_n) rfl rfl (Nat.le_of_ble_eq_true rfl) ?_
      refine V_vret d_E_addRange_56 rfl ⟨rfl, ?_⟩
      rw [if_neg (Nat.not_lt.mpr (e1.mp h_13))]
      unfold edL
      rw [nI_succ]
      rfl
    · have hlt : q < 8 := Nat.not_le.mp (fun z => h_13 (e1.mpr z))
      have hin : vp_in (nI q) 8 := vp_nI hlt (by omega)
      first | refine V_aload_n d_E_addRange_16 rfl rfl ?_ | refine V_aloadN_n d_E_addRange_16 rfl rfl ?_
      refine Vget fl_E_17 d_E_addRange_17 (by repeat first | assumption | apply Ob_s | apply Ob_n) rfl ?_
      first | refine V_aload_n d_E_addRange_20 rfl rfl ?_ | refine V_aloadN_n d_E_addRange_20 rfl rfl ?_
      refine Vget fl_E_31 d_E_addRange_21 (by repeat first | assumption | apply Ob_s | apply Ob_n) rfl ?_
      refine V_iload_n d_E_addRange_24 rfl rfl ?_
      refine Viast d_E_addRange_25 (by repeat first | assumption | apply Ia_s | apply Ia_n) (by assumption) ?_
      first | refine V_aload_n d_E_addRange_26 rfl rfl ?_ | refine V_aloadN_n d_E_addRange_26 rfl rfl ?_
      refine Vget fl_E_21 d_E_addRange_27 (by repeat first | assumption | apply Ob_s | apply Ob_n) rfl ?_
      first | refine V_aload_n d_E_addRange_30 rfl rfl ?_ | refine V_aloadN_n d_E_addRange_30 rfl rfl ?_
      refine Vget fl_E_31 d_E_addRange_31 (by repeat first | assumption | apply Ob_s | apply Ob_n) rfl ?_
      refine V_iload_n d_E_addRange_34 rfl rfl ?_
      refine Viast d_E_addRange_35 (by repeat first | assumption | apply Ia_s | apply Ia_n) (by assumption) ?_
      first | refine V_aload_n d_E_addRange_36 rfl rfl ?_ | refine V_aloadN_n d_E_addRange_36 rfl rfl ?_
      refine Vget fl_E_24 d_E_addRange_37 (by repeat first | assumption | apply Ob_s | apply Ob_n) rfl ?_
      first | refine V_aload_n d_E_addRange_40 rfl rfl ?_ | refine V_aloadN_n d_E_addRange_40 rfl rfl ?_
      refine Vget fl_E_31 d_E_addRange_41 (by repeat first | assumption | apply Ob_s | apply Ob_n) rfl ?_
      refine V_iload_n d_E_addRange_44 rfl rfl ?_
      refine Viast d_E_addRange_45 (by repeat first | assumption | apply Ia_s | apply Ia_n) (by assumption) ?_
      first | refine V_aload_n d_E_addRange_46 rfl rfl ?_ | refine V_aloadN_n d_E_addRange_46 rfl rfl ?_
      refine V_dup d_E_addRange_47 rfl ?_
      refine Vget fl_E_31 d_E_addRange_48 (by repeat first | assumption | apply Ob_s | apply Ob_n) rfl ?_
      refine V_iconst (v := 1) d_E_addRange_51 (by decide) ?_
      refine V_iadd d_E_addRange_52 ?_
      refine Vput pl_E_31 d_E_addRange_53 (by repeat first | assumption | apply Ob_s | apply Ob_n) rfl rfl (Nat.le_of_ble_eq_true rfl) ?_
      refine V_vret d_E_addRange_56 rfl ⟨rfl, ?_⟩
      rw [if_pos hlt, nI_clamp (by omega)]
      unfold edL
      rw [nI_succ]
      rfl
end C4
