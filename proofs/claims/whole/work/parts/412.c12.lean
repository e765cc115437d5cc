/-! the class: its own cell, the kept editions -/
def Rx (r : Ou) (mm : Mm) : Ou → Mm → Prop := fun o m' => o = r ∧ m' = mm
abbrev Edd : Type := Nat × (Nat → Fw) × Nat × Fw × Fw × Fw × Int32
def EdK (g : GG) (mm : Mm) (e : Nat → Nat) (d : Edd) : Prop := Ob mm (e 0) 0 (edL (e 1) (e 2) (e 3) (e 4) d.1 d.2.2.1 d.2.2.2.2.2.2) ∧ (∃ rf, Svs g mm (e 1) d.1 rf (fun j => e (5 + j)) d.2.1) ∧ Rgs g mm (e 2) (e 3) (e 4) d.2.2.2.1 d.2.2.2.2.1 d.2.2.2.2.2.1 ∧ d.2.2.1 ≤ 8 ∧ d.1 ≤ 8
def ctL (A : Nat → Nat) (n : Nat) (day : Int32) : List Value := [.ref (A 1), .ref (A 3), .ref (A 5), .ref (A 7), .ref (A 8), .ref (A 11), .int (nI n), .int day]
def CRo (g : GG) (mm : Mm) (A : Nat → Nat) (E : Nat → Nat → Nat) (n : Nat) (day : Int32) (ed : Nat → Edd) : Prop := Ob mm (A 0) 5 (ctL A n day) ∧ n ≤ 4 ∧ Qa g mm 3 (A 11) 4 (fun i => if i < n then some (E i 0) else none) ∧ ∀ i, i < n → EdK g mm (E i) (ed i)
def eIA : Ou := .inr "java/lang/IllegalArgumentException"
def eUO : Ou := .inr "java/lang/UnsupportedOperationException"
def eIS : Ou := .inr "java/lang/IllegalStateException"
def eNE : Ou := .inr "java/util/NoSuchElementException"
def oI (v : Int32) : Ou := .inl (some (.int v))
theorem nI_ex {x : Int32} (h : 0 ≤ x.toInt) : ∃ j : Nat, x = nI j ∧ (j : Int) = x.toInt ∧ j < 2 ^ 31 := by
  have hl := x.toInt_lt
  refine ⟨x.toInt.toNat, ?_, by omega, by omega⟩
  refine Int32.toInt_inj.mp ?_
  rw [nI_toInt (by omega)]
  omega
theorem nI_ij {a b : Nat} (ha : a < 2 ^ 31) (hb : b < 2 ^ 31) (h : nI a = nI b) : a = b := by
  have := congrArg Int32.toInt h
  rw [nI_toInt ha, nI_toInt hb] at this
  omega
/-- what an edition's number stands for -/
def edO (n : Nat) (x : Int32) : Option Nat := if wi x 1 4 = true ∧ (x - 1).toNatClampNeg < n then some (x - 1).toNatClampNeg else none
theorem wi14 {x : Int32} (h : wi x 1 4 = true) : ∃ j, j < 4 ∧ x = nI (j + 1) := by
  have := wi_to h
  rw [show (1 : Int32).toInt = 1 from rfl, show (4 : Int32).toInt = 4 from rfl] at this
  obtain ⟨j, h1, h2, -⟩ := nI_ex (x := x) (by omega)
  obtain ⟨k, rfl⟩ : ∃ k, j = k + 1 := ⟨j - 1, by omega⟩
  exact ⟨k, by omega, h1⟩
theorem wi14' : ∀ j, j < 4 → wi (nI (j + 1)) 1 4 = true := by decide
theorem edO_nI {n j : Nat} (hj : j < 4) : edO n (nI (j + 1)) = if j < n then some j else none := by
  unfold edO
  rw [nI_sub1, nI_clamp (by omega), wi14' j hj]
  by_cases h : j < n
  · rw [if_pos h, if_pos ⟨rfl, h⟩]
  · rw [if_neg h, if_neg (fun z => h z.2)]
theorem edO_lt {n i : Nat} {x : Int32} (h : edO n x = some i) : i < n := by
  unfold edO at h
  split at h
  · rename_i hc
    injection h with h
    rw [← h]
    exact hc.2
  · cases h
/-- the edition that acts -/
def acF (dy : Nat → Int32) (day : Int32) : Nat → Nat → Option Nat × Int32 → Option Nat
  | 0, _, s => s.1
  | m + 1, j, s => acF dy day m (j + 1) (if ¬ day < dy j ∧ ¬ dy j < s.2 then (some j, dy j) else s)
def nO : Option Nat → Int32
  | none => 0
  | some i => nI (i + 1)
def acA (ed : Nat → Edd) (n : Nat) (day : Int32) : Option Nat := acF (fun i => (ed i).2.2.2.2.2.2) day n 0 (none, 0)
theorem acF_lt {dy : Nat → Int32} {day : Int32} : ∀ (m j : Nat) (s : Option Nat × Int32), (∀ i, s.1 = some i → i < j + m) → ∀ i, acF dy day m j s = some i → i < j + m
  | 0, j, s, h, i, hi => h i hi
  | m + 1, j, s, h, i, hi => by
    have := acF_lt m (j + 1) _ (fun i hi => ?_) i hi
    · omega
    · split at hi
      · injection hi with hi; omega
      · have := h i hi; omega
theorem acA_lt {ed : Nat → Edd} {n : Nat} {day : Int32} {i : Nat} (h : acA ed n day = some i) : i < n := by
  have := acF_lt n 0 (none, 0) (fun _ z => nomatch z) i h
  omega
section C12
variable {g : GG} {mm : Mm} {A : Nat → Nat} {E : Nat → Nat → Nat} {n : Nat} {day : Int32} {ed : Nat → Edd}
theorem c_T_editionOrNull (hg : GO g) (h : CRo g mm A E n day ed) (x : Int32) : CT g m_T_editionOrNull 1 22 0 0 [.ref (A 0), .int x] mm (Re (some (va_rf ((edO n x).map (fun i => E i 0)))) mm) := by
  obtain ⟨h1, h2, h3, -⟩ := h
  refine CT_go (lo := [(0, .ref (A 0)), (1, .int x)]) rfl rfl rfl rfl hg ?_
  refine V_iload_n d_T_editionOrNull_0 rfl rfl ?_
  refine V_iconst (v := 1) d_T_editionOrNull_1 (by decide) ?_
  first | refine V_aload_n d_T_editionOrNull_2 rfl rfl ?_ | refine V_aloadN_n d_T_editionOrNull_2 rfl rfl ?_
  refine Vget fl_T_42 d_T_editionOrNull_3 (by repeat first | assumption | apply Ob_s | apply Ob_n) rfl ?_
  refine ValenQ (j := 3) d_T_editionOrNull_6 (fun _ => rfl) (by repeat first | assumption | apply Qa_s | apply Qa_n) ?_
  refine V_callS cb_T_isWithin ms_T_65 rfl rfl d_T_editionOrNull_7 (c_T_isWithin hg _ x 1 (nI 4)) ⟨by decide, by decide⟩ rfl rfl (Nat.le_of_ble_eq_true rfl) (fun _ _ h => nomatch h.1) (fun v m2 hR => ?_)
  obtain ⟨hv9, e9⟩ := hR
  cases hv9
  subst m2
  refine V_if_eq (tgt := 24) d_T_editionOrNull_10 (by decide) (fun h_10 => ?_) (fun h_10 => ?_)
  · rw [bi_eq0] at h_10
    refine V_null d_T_editionOrNull_24 ?_
    refine V_aret (r := none) d_T_editionOrNull_25 rfl (Or.inl ⟨_, rfl⟩) ⟨?_, rfl⟩
    rw [edO, if_neg (fun z => by have q := z.1; rw [show wi x 1 4 = false from h_10] at q; cases q)]
    rfl
  · rw [bi_ne0] at h_10
    obtain ⟨j, hj, rfl⟩ := wi14 h_10
    have hin : vp_in (nI j) 4 := vp_nI hj (by omega)
    first | refine V_aload_n d_T_editionOrNull_13 rfl rfl ?_ | refine V_aloadN_n d_T_editionOrNull_13 rfl rfl ?_
    refine Vget fl_T_42 d_T_editionOrNull_14 (by repeat first | assumption | apply Ob_s | apply Ob_n) rfl ?_
    refine V_iload_n d_T_editionOrNull_17 rfl rfl ?_
    refine V_iconst (v := 1) d_T_editionOrNull_18 (by decide) ?_
    refine V_isub d_T_editionOrNull_19 ?_
    rw [nI_sub1]
    refine Vaald (j := 3) d_T_editionOrNull_20 (fun _ => rfl) (by repeat first | assumption | apply Qa_s | apply Qa_n) (by assumption) ?_
    refine V_goto (tgt := 25) d_T_editionOrNull_21 (by decide) ?_
    rw [nI_clamp (by omega)]
    refine V_aret d_T_editionOrNull_25 rfl (Or.inl ⟨_, rfl⟩) ⟨?_, rfl⟩
    rw [edO_nI hj]
    by_cases q : j < n
    · rw [if_pos q, if_pos q]; rfl
    · rw [if_neg q, if_neg q]; rfl
set_option maxRecDepth 20000 in
theorem l_T_actingNumber (hg : GO g) (h : CRo g mm A E n day ed) {Fi : Ou → Mm → Prop} : ∀ (m j : Nat) (s : Option Nat × Int32) (x : List (Nat × Value)), j + m = n → chk [(0, .ref (A 0)), (1, .int (nO s.1)), (2, .int s.2), (3, .int (nI (j + 1)))] x → Fi (.inl (some (.int (nO (acF (fun i => (ed i).2.2.2.2.2.2) day m j s))))) mm → V g m_T_actingNumber 2 43 0 0 6 x [] mm Fi := by
  have h1 := h.1
  have hn := h.2.1
  intro m
  induction m with
  | zero =>
    intro j s x hj hx hF
    refine V_lo _ hx ?_
    refine V_iload_n d_T_actingNumber_6 rfl rfl ?_
    first | refine V_aload_n d_T_actingNumber_7 rfl rfl ?_ | refine V_aloadN_n d_T_actingNumber_7 rfl rfl ?_
    refine Vget fl_T_89 d_T_actingNumber_8 (by repeat first | assumption | apply Ob_s | apply Ob_n) rfl ?_
    refine V_icmp_gt (tgt := 61) d_T_actingNumber_11 (by decide) (fun h_11 => ?_) (fun h_11 => ?_)
    · refine V_iload_n d_T_actingNumber_61 rfl rfl ?_
      exact V_iret d_T_actingNumber_62 rfl rfl hF
    · exact absurd ((nI_ltI (by omega) (by omega)).mpr (by omega)) h_11
  | succ m ih =>
    intro j s x hj hx hF
    refine V_lo _ hx ?_
    have hE := (h.2.2.2 j (by omega)).1
    refine V_iload_n d_T_actingNumber_6 rfl rfl ?_
    first | refine V_aload_n d_T_actingNumber_7 rfl rfl ?_ | refine V_aloadN_n d_T_actingNumber_7 rfl rfl ?_
    refine Vget fl_T_89 d_T_actingNumber_8 (by repeat first | assumption | apply Ob_s | apply Ob_n) rfl ?_
    refine V_icmp_gt (tgt := 61) d_T_actingNumber_11 (by decide) (fun h_11 => ?_) (fun h_11 => ?_)
    · exact absurd ((nI_ltI (by omega) (by omega)).mp h_11) (by omega)
    · first | refine V_aload_n d_T_actingNumber_14 rfl rfl ?_ | refine V_aloadN_n d_T_actingNumber_14 rfl rfl ?_
      refine V_iload_n d_T_actingNumber_15 rfl rfl ?_
      have c0 := c_T_editionOrNull hg h (nI (j + 1))
      rw [edO_nI (by omega), if_pos (show j < n by omega)] at c0
      refine VcallV cb_T_editionOrNull mv_T_217 rfl (ci := 5) rfl rfl d_T_actingNumber_16 c0 ⟨by decide, by decide⟩ rfl (by repeat first | assumption | apply Ob_s | apply Ob_n) rfl (Nat.le_of_ble_eq_true rfl) (fun _ _ h => nomatch h.1) (fun v m2 hR => ?_)
      obtain ⟨hv9, e9⟩ := hR
      cases hv9
      subst m2
      refine V_astore (x := E j 0) d_T_actingNumber_19 rfl ?_
      first | refine V_aload d_T_actingNumber_21 rfl ?_ | refine V_aloadN d_T_actingNumber_21 rfl ?_
      first | refine V_ifnullR d_T_actingNumber_23 ?_ | refine V_ifnullN (tgt := 55) d_T_actingNumber_23 (by decide) ?_
      first | refine V_aload d_T_actingNumber_26 rfl ?_ | refine V_aloadN d_T_actingNumber_26 rfl ?_
      refine Vget fl_T_206 d_T_actingNumber_28 (by repeat first | assumption | apply Ob_s | apply Ob_n) rfl ?_
      first | refine V_aload_n d_T_actingNumber_31 rfl rfl ?_ | refine V_aloadN_n d_T_actingNumber_31 rfl rfl ?_
      refine Vget fl_T_102 d_T_actingNumber_32 (by repeat first | assumption | apply Ob_s | apply Ob_n) rfl ?_
      refine V_icmp_gt (tgt := 55) d_T_actingNumber_35 (by decide) (fun h_35 => ?_) (fun h_35 => ?_)
      · refine V_iinc d_T_actingNumber_55 rfl (nI_inc _) rfl ?_
        refine V_goto (tgt := 6) d_T_actingNumber_58 (by decide) ?_
        refine ih (j + 1) s _ (by omega) ⟨rfl, rfl, rfl, rfl, trivial⟩ ?_
        rw [acF, if_neg (fun z => z.1 h_35)] at hF
        exact hF
      · first | refine V_aload d_T_actingNumber_38 rfl ?_ | refine V_aloadN d_T_actingNumber_38 rfl ?_
        refine Vget fl_T_206 d_T_actingNumber_40 (by repeat first | assumption | apply Ob_s | apply Ob_n) rfl ?_
        refine V_iload_n d_T_actingNumber_43 rfl rfl ?_
        refine V_icmp_lt (tgt := 55) d_T_actingNumber_44 (by decide) (fun h_44 => ?_) (fun h_44 => ?_)
        · refine V_iinc d_T_actingNumber_55 rfl (nI_inc _) rfl ?_
          refine V_goto (tgt := 6) d_T_actingNumber_58 (by decide) ?_
          refine ih (j + 1) s _ (by omega) ⟨rfl, rfl, rfl, rfl, trivial⟩ ?_
          rw [acF, if_neg (fun z => z.2 h_44)] at hF
          exact hF
        · refine V_iload_n d_T_actingNumber_47 rfl rfl ?_
          refine V_istore_n d_T_actingNumber_48 rfl rfl ?_
          first | refine V_aload d_T_actingNumber_49 rfl ?_ | refine V_aloadN d_T_actingNumber_49 rfl ?_
          refine Vget fl_T_206 d_T_actingNumber_51 (by repeat first | assumption | apply Ob_s | apply Ob_n) rfl ?_
          refine V_istore_n d_T_actingNumber_54 rfl rfl ?_
          refine V_iinc d_T_actingNumber_55 rfl (nI_inc _) rfl ?_
          refine V_goto (tgt := 6) d_T_actingNumber_58 (by decide) ?_
          refine ih (j + 1) (some j, (ed j).2.2.2.2.2.2) _ (by omega) ⟨rfl, rfl, rfl, rfl, trivial⟩ ?_
          rw [acF, if_pos ⟨h_35, h_44⟩] at hF
          exact hF
theorem c_T_actingNumber (hg : GO g) (h : CRo g mm A E n day ed) : CT g m_T_actingNumber 2 43 0 0 [.ref (A 0)] mm (Re (some (.int (nO (acA ed n day)))) mm) := by
  refine CT_go (lo := [(0, .ref (A 0))]) rfl rfl rfl rfl hg ?_
  refine V_iconst (v := 0) d_T_actingNumber_0 (by decide) ?_
  refine V_istore_n d_T_actingNumber_1 rfl rfl ?_
  refine V_iconst (v := 0) d_T_actingNumber_2 (by decide) ?_
  refine V_istore_n d_T_actingNumber_3 rfl rfl ?_
  refine V_iconst (v := 1) d_T_actingNumber_4 (by decide) ?_
  refine V_istore_n d_T_actingNumber_5 rfl rfl ?_
  exact l_T_actingNumber hg h n 0 (none, 0) _ (by omega) ⟨rfl, rfl, rfl, rfl, trivial⟩ ⟨rfl, rfl⟩
theorem c_T_actingEdition (hg : GO g) (h : CRo g mm A E n day ed) {i : Nat} (hi : acA ed n day = some i) : CT g m_T_actingEdition 6 90 0 0 [.ref (A 0)] mm (Re (some (.ref (E i 0))) mm) := by
  have hlt := acA_lt hi
  have h1 := h.1
  have hn := h.2.1
  refine CT_go (lo := [(0, .ref (A 0))]) rfl rfl rfl rfl hg ?_
  first | refine V_aload_n d_T_actingEdition_0 rfl rfl ?_ | refine V_aloadN_n d_T_actingEdition_0 rfl rfl ?_
  first | refine V_aload_n d_T_actingEdition_1 rfl rfl ?_ | refine V_aloadN_n d_T_actingEdition_1 rfl rfl ?_
  refine VcallV cb_T_actingNumber mv_T_106 rfl (ci := 5) rfl rfl d_T_actingEdition_2 (c_T_actingNumber hg h) ⟨by decide, by decide⟩ rfl (by repeat first | assumption | apply Ob_s | apply Ob_n) rfl (Nat.le_of_ble_eq_true rfl) (fun _ _ h => nomatch h.1) (fun v m2 hR => ?_)
  obtain ⟨hv9, e9⟩ := hR
  cases hv9
  subst m2
  rw [hi]
  have c0 := c_T_editionOrNull hg h (nI (i + 1))
  rw [edO_nI (by omega), if_pos hlt] at c0
  refine VcallV cb_T_editionOrNull mv_T_217 rfl (ci := 5) rfl rfl d_T_actingEdition_5 c0 ⟨by decide, by decide⟩ rfl (by repeat first | assumption | apply Ob_s | apply Ob_n) rfl (Nat.le_of_ble_eq_true rfl) (fun _ _ h => nomatch h.1) (fun v m2 hR => ?_)
  obtain ⟨hv9, e9⟩ := hR
  cases hv9
  subst m2
  refine V_astore_n (x := E i 0) d_T_actingEdition_8 rfl rfl ?_
  first | refine V_aload_n d_T_actingEdition_9 rfl rfl ?_ | refine V_aloadN_n d_T_actingEdition_9 rfl rfl ?_
  first | refine V_ifnonnullR (tgt := 23) d_T_actingEdition_10 (by decide) ?_ | refine V_ifnonnullN d_T_actingEdition_10 ?_
  first | refine V_aload_n d_T_actingEdition_23 rfl rfl ?_ | refine V_aloadN_n d_T_actingEdition_23 rfl rfl ?_
  exact V_aret (r := some (E i 0)) d_T_actingEdition_24 rfl (Or.inl ⟨_, rfl⟩) ⟨rfl, rfl⟩
theorem x_T_actingEdition (hg : GO g) (h : CRo g mm A E n day ed) (hi : acA ed n day = none) : CT g m_T_actingEdition 6 90 1 6 [.ref (A 0)] mm (Rx eIS mm) := by
  have h1 := h.1
  have hn := h.2.1
  refine CT_go (lo := [(0, .ref (A 0))]) rfl rfl rfl rfl hg ?_
  first | refine V_aload_n d_T_actingEdition_0 rfl rfl ?_ | refine V_aloadN_n d_T_actingEdition_0 rfl rfl ?_
  first | refine V_aload_n d_T_actingEdition_1 rfl rfl ?_ | refine V_aloadN_n d_T_actingEdition_1 rfl rfl ?_
  refine VcallV cb_T_actingNumber mv_T_106 rfl (ci := 5) rfl rfl d_T_actingEdition_2 (c_T_actingNumber hg h) ⟨by decide, by decide⟩ rfl (by repeat first | assumption | apply Ob_s | apply Ob_n) rfl (Nat.le_of_ble_eq_true rfl) (fun _ _ h => nomatch h.1) (fun v m2 hR => ?_)
  obtain ⟨hv9, e9⟩ := hR
  cases hv9
  subst m2
  rw [hi]
  have c0 := c_T_editionOrNull hg h 0
  rw [show edO n 0 = none by unfold edO; exact if_neg (fun z => absurd z.1 (by decide))] at c0
  refine VcallV cb_T_editionOrNull mv_T_217 rfl (ci := 5) rfl rfl d_T_actingEdition_5 c0 ⟨by decide, by decide⟩ rfl (by repeat first | assumption | apply Ob_s | apply Ob_n) rfl (Nat.le_of_ble_eq_true rfl) (fun _ _ h => nomatch h.1) (fun v m2 hR => ?_)
  obtain ⟨hv9, e9⟩ := hR
  cases hv9
  subst m2
  refine V_astoreN_n d_T_actingEdition_8 rfl rfl ?_
  first | refine V_aload_n d_T_actingEdition_9 rfl rfl ?_ | refine V_aloadN_n d_T_actingEdition_9 rfl rfl ?_
  first | refine V_ifnonnullR (tgt := 23) d_T_actingEdition_10 (by decide) ?_ | refine V_ifnonnullN d_T_actingEdition_10 ?_
  exact V_throw th_T_220 rfl d_T_actingEdition_13 d_T_actingEdition_16 d_T_actingEdition_17 d_T_actingEdition_19 d_T_actingEdition_22 ⟨by decide, by decide⟩ (Nat.le_of_ble_eq_true rfl) (⟨rfl, rfl⟩)
theorem c_T_knownEdition (hg : GO g) (h : CRo g mm A E n day ed) {x : Int32} {i : Nat} (hi : edO n x = some i) : CT g m_T_knownEdition 6 90 0 0 [.ref (A 0), .int x] mm (Re (some (.ref (E i 0))) mm) := by
  have h1 := h.1
  refine CT_go (lo := [(0, .ref (A 0)), (1, .int x)]) rfl rfl rfl rfl hg ?_
  first | refine V_aload_n d_T_knownEdition_0 rfl rfl ?_ | refine V_aloadN_n d_T_knownEdition_0 rfl rfl ?_
  refine V_iload_n d_T_knownEdition_1 rfl rfl ?_
  have c0 := c_T_editionOrNull hg h x
  rw [hi] at c0
  refine VcallV cb_T_editionOrNull mv_T_217 rfl (ci := 5) rfl rfl d_T_knownEdition_2 c0 ⟨by decide, by decide⟩ rfl (by repeat first | assumption | apply Ob_s | apply Ob_n) rfl (Nat.le_of_ble_eq_true rfl) (fun _ _ h => nomatch h.1) (fun v m2 hR => ?_)
  obtain ⟨hv9, e9⟩ := hR
  cases hv9
  subst m2
  refine V_astore_n (x := E i 0) d_T_knownEdition_5 rfl rfl ?_
  first | refine V_aload_n d_T_knownEdition_6 rfl rfl ?_ | refine V_aloadN_n d_T_knownEdition_6 rfl rfl ?_
  first | refine V_ifnonnullR (tgt := 20) d_T_knownEdition_7 (by decide) ?_ | refine V_ifnonnullN d_T_knownEdition_7 ?_
  first | refine V_aload_n d_T_knownEdition_20 rfl rfl ?_ | refine V_aloadN_n d_T_knownEdition_20 rfl rfl ?_
  exact V_aret (r := some (E i 0)) d_T_knownEdition_21 rfl (Or.inl ⟨_, rfl⟩) ⟨rfl, rfl⟩
theorem x_T_knownEdition (hg : GO g) (h : CRo g mm A E n day ed) {x : Int32} (hi : edO n x = none) : CT g m_T_knownEdition 6 90 1 6 [.ref (A 0), .int x] mm (Rx eNE mm) := by
  have h1 := h.1
  refine CT_go (lo := [(0, .ref (A 0)), (1, .int x)]) rfl rfl rfl rfl hg ?_
  first | refine V_aload_n d_T_knownEdition_0 rfl rfl ?_ | refine V_aloadN_n d_T_knownEdition_0 rfl rfl ?_
  refine V_iload_n d_T_knownEdition_1 rfl rfl ?_
  have c0 := c_T_editionOrNull hg h x
  rw [hi] at c0
  refine VcallV cb_T_editionOrNull mv_T_217 rfl (ci := 5) rfl rfl d_T_knownEdition_2 c0 ⟨by decide, by decide⟩ rfl (by repeat first | assumption | apply Ob_s | apply Ob_n) rfl (Nat.le_of_ble_eq_true rfl) (fun _ _ h => nomatch h.1) (fun v m2 hR => ?_)
  obtain ⟨hv9, e9⟩ := hR
  cases hv9
  subst m2
  refine V_astoreN_n d_T_knownEdition_5 rfl rfl ?_
  first | refine V_aload_n d_T_knownEdition_6 rfl rfl ?_ | refine V_aloadN_n d_T_knownEdition_6 rfl rfl ?_
  first | refine V_ifnonnullR (tgt := 20) d_T_knownEdition_7 (by decide) ?_ | refine V_ifnonnullN d_T_knownEdition_7 ?_
  exact V_throwX th_T_224 rfl d_T_knownEdition_10 d_T_knownEdition_13 d_T_knownEdition_14 d_T_knownEdition_16 d_T_knownEdition_19 ⟨by decide, by decide⟩ (Nat.le_of_ble_eq_true rfl) (⟨rfl, rfl⟩)
theorem c_T_known (hg : GO g) (a : Nat) : CT g m_T_known 6 90 0 0 [.ref a] mm (Re (some (.ref a)) mm) := by
  refine CT_go (lo := [(0, .ref a)]) rfl rfl rfl rfl hg ?_
  first | refine V_aload_n d_T_known_0 rfl rfl ?_ | refine V_aloadN_n d_T_known_0 rfl rfl ?_
  first | refine V_ifnonnullR (tgt := 14) d_T_known_1 (by decide) ?_ | refine V_ifnonnullN d_T_known_1 ?_
  first | refine V_aload_n d_T_known_14 rfl rfl ?_ | refine V_aloadN_n d_T_known_14 rfl rfl ?_
  exact V_aret (r := some a) d_T_known_15 rfl (Or.inl ⟨_, rfl⟩) ⟨rfl, rfl⟩
theorem x_T_known (hg : GO g) : CT g m_T_known 6 90 1 6 [.null] mm (Rx eNE mm) := by
  refine CT_go (lo := [(0, .null)]) rfl rfl rfl rfl hg ?_
  first | refine V_aload_n d_T_known_0 rfl rfl ?_ | refine V_aloadN_n d_T_known_0 rfl rfl ?_
  first | refine V_ifnonnullR (tgt := 14) d_T_known_1 (by decide) ?_ | refine V_ifnonnullN d_T_known_1 ?_
  exact V_throwX th_T_227 rfl d_T_known_4 d_T_known_7 d_T_known_8 d_T_known_10 d_T_known_13 ⟨by decide, by decide⟩ (Nat.le_of_ble_eq_true rfl) (⟨rfl, rfl⟩)
/-! labels -/
def ckF (f : Nat → Int32) : Nat → Nat → Int32 → Int32
  | 0, _, a => a
  | m + 1, i, a => ckF f m (i + 1) (a + (nI i + 1) * f i)
def ckL (f : Nat → Int32) : Int32 := 65 + (ckF f 7 0 0 - ckF f 7 0 0 / 26 * 26)
def sF (s : Sq) (i : Nat) : Int32 := sAt s (nI i)
theorem l_T_checkLetter (hg : GO g) {a r k : Nat} {s : Sq} (h : Sgm g mm a r k s) {Fi : Ou → Mm → Prop} : ∀ (m i : Nat) (v : Int32) (x : List (Nat × Value)), i + m = 7 → chk [(0, .ref a), (1, .int v), (2, .int (nI i))] x → Fi (oI (65 + (ckF (sF s) m i v - ckF (sF s) m i v / 26 * 26))) mm → V g m_T_checkLetter 1 21 0 0 4 x [] mm Fi := by
  have h1 := h.1
  intro m
  induction m with
  | zero =>
    intro i v x hi hx hF
    refine V_lo _ hx ?_
    refine V_iload_n d_T_checkLetter_4 rfl rfl ?_
    refine V_bipush (v := 7) d_T_checkLetter_5 (by decide) ?_
    refine V_icmp_ge (tgt := 28) d_T_checkLetter_7 (by decide) (fun h_7 => ?_) (fun h_7 => ?_)
    · refine V_bipush (v := 65) d_T_checkLetter_28 (by decide) ?_
      refine V_iload_n d_T_checkLetter_30 rfl rfl ?_
      refine V_bipush (v := 26) d_T_checkLetter_31 (by decide) ?_
      refine V_irem d_T_checkLetter_33 (by decide) ?_
      refine V_iadd d_T_checkLetter_34 ?_
      exact V_iret d_T_checkLetter_35 rfl rfl hF
    · exact absurd (nI_le (a := 7) (by omega) (by omega)) h_7
  | succ m ih =>
    intro i v x hi hx hF
    refine V_lo _ hx ?_
    refine V_iload_n d_T_checkLetter_4 rfl rfl ?_
    refine V_bipush (v := 7) d_T_checkLetter_5 (by decide) ?_
    refine V_icmp_ge (tgt := 28) d_T_checkLetter_7 (by decide) (fun h_7 => ?_) (fun h_7 => ?_)
    · exact absurd h_7 (nI_ge (b := 7) (by omega) (by omega))
    · refine V_iload_n d_T_checkLetter_10 rfl rfl ?_
      refine V_iload_n d_T_checkLetter_11 rfl rfl ?_
      refine V_iconst (v := 1) d_T_checkLetter_12 (by decide) ?_
      refine V_iadd d_T_checkLetter_13 ?_
      first | refine V_aload_n d_T_checkLetter_14 rfl rfl ?_ | refine V_aloadN_n d_T_checkLetter_14 rfl rfl ?_
      refine V_iload_n d_T_checkLetter_15 rfl rfl ?_
      refine VcallV cb_G_signAt mv_T_193 rfl (ci := 4) rfl rfl d_T_checkLetter_16 (c_G_signAt hg h (nI i)) ⟨by decide, by decide⟩ rfl (by repeat first | assumption | apply Ob_s | apply Ob_n) rfl (Nat.le_of_ble_eq_true rfl) (fun _ _ h => nomatch h.1) (fun v m2 hR => ?_)
      obtain ⟨hv9, e9⟩ := hR
      cases hv9
      subst m2
      refine V_imul d_T_checkLetter_19 ?_
      refine V_iadd d_T_checkLetter_20 ?_
      refine V_istore_n d_T_checkLetter_21 rfl rfl ?_
      refine V_iinc d_T_checkLetter_22 rfl (nI_inc _) rfl ?_
      refine V_goto (tgt := 4) d_T_checkLetter_25 (by decide) ?_
      exact ih (i + 1) _ _ (by omega) ⟨rfl, rfl, rfl, trivial⟩ hF
theorem c_T_checkLetter (hg : GO g) {a r k : Nat} {s : Sq} (h : Sgm g mm a r k s) : CT g m_T_checkLetter 1 21 0 0 [.ref a] mm (Re (some (.int (ckL (sF s)))) mm) := by
  refine CT_go (lo := [(0, .ref a)]) rfl rfl rfl rfl hg ?_
  refine V_iconst (v := 0) d_T_checkLetter_0 (by decide) ?_
  refine V_istore_n d_T_checkLetter_1 rfl rfl ?_
  refine V_iconst (v := 0) d_T_checkLetter_2 (by decide) ?_
  refine V_istore_n d_T_checkLetter_3 rfl rfl ?_
  exact l_T_checkLetter hg h 7 0 0 _ rfl ⟨rfl, rfl, rfl, trivial⟩ ⟨rfl, rfl⟩
def lcF (f : Nat → Int32) : Nat → Nat → Int32 → Int32
  | 0, _, a => a
  | m + 1, i, a => lcF f m (i + 1) (a * 10 + f i - 48)
def adg (f : Nat → Int32) : Nat → Nat → Bool
  | 0, _ => true
  | m + 1, i => dg (f i) && adg f m (i + 1)
def lfF (f : Nat → Int32) : Bool := adg f 4 3 && (wi (f 0) 65 90 && (wi (f 1) 49 57 && (decide (f 2 = 45) && wi (f 7) 65 90)))
theorem l_T_labelCode (hg : GO g) (hO : Ob mm (A 0) 5 (ctL A n day)) {r k : Nat} {s : Sq} (h : Sgm g mm (A 3) r k s) {Fi : Ou → Mm → Prop} : ∀ (m i : Nat) (v : Int32) (x : List (Nat × Value)), i + m = 7 → chk [(0, .ref (A 0)), (1, .int v), (2, .int (nI i))] x → Fi (oI (lcF (sF s) m i v)) mm → V g m_T_labelCode 1 21 0 0 4 x [] mm Fi := by
  have h1 := h.1
  intro m
  induction m with
  | zero =>
    intro i v x hi hx hF
    refine V_lo _ hx ?_
    refine V_iload_n d_T_labelCode_4 rfl rfl ?_
    refine V_bipush (v := 7) d_T_labelCode_5 (by decide) ?_
    refine V_icmp_ge (tgt := 33) d_T_labelCode_7 (by decide) (fun h_7 => ?_) (fun h_7 => ?_)
    · refine V_iload_n d_T_labelCode_33 rfl rfl ?_
      exact V_iret d_T_labelCode_34 rfl rfl hF
    · exact absurd (nI_le (a := 7) (by omega) (by omega)) h_7
  | succ m ih =>
    intro i v x hi hx hF
    refine V_lo _ hx ?_
    refine V_iload_n d_T_labelCode_4 rfl rfl ?_
    refine V_bipush (v := 7) d_T_labelCode_5 (by decide) ?_
    refine V_icmp_ge (tgt := 33) d_T_labelCode_7 (by decide) (fun h_7 => ?_) (fun h_7 => ?_)
    · exact absurd h_7 (nI_ge (b := 7) (by omega) (by omega))
    · refine V_iload_n d_T_labelCode_10 rfl rfl ?_
      refine V_bipush (v := 10) d_T_labelCode_11 (by decide) ?_
      refine V_imul d_T_labelCode_13 ?_
      first | refine V_aload_n d_T_labelCode_14 rfl rfl ?_ | refine V_aloadN_n d_T_labelCode_14 rfl rfl ?_
      refine Vget fl_T_18 d_T_labelCode_15 (by repeat first | assumption | apply Ob_s | apply Ob_n) rfl ?_
      refine V_iload_n d_T_labelCode_18 rfl rfl ?_
      refine VcallV cb_G_signAt mv_T_193 rfl (ci := 4) rfl rfl d_T_labelCode_19 (c_G_signAt hg h (nI i)) ⟨by decide, by decide⟩ rfl (by repeat first | assumption | apply Ob_s | apply Ob_n) rfl (Nat.le_of_ble_eq_true rfl) (fun _ _ h => nomatch h.1) (fun v m2 hR => ?_)
      obtain ⟨hv9, e9⟩ := hR
      cases hv9
      subst m2
      refine V_iadd d_T_labelCode_22 ?_
      refine V_bipush (v := 48) d_T_labelCode_23 (by decide) ?_
      refine V_isub d_T_labelCode_25 ?_
      refine V_istore_n d_T_labelCode_26 rfl rfl ?_
      refine V_iinc d_T_labelCode_27 rfl (nI_inc _) rfl ?_
      refine V_goto (tgt := 4) d_T_labelCode_30 (by decide) ?_
      exact ih (i + 1) _ _ (by omega) ⟨rfl, rfl, rfl, trivial⟩ hF
theorem c_T_labelCode (hg : GO g) (hO : Ob mm (A 0) 5 (ctL A n day)) {r k : Nat} {s : Sq} (h : Sgm g mm (A 3) r k s) : CT g m_T_labelCode 1 21 0 0 [.ref (A 0)] mm (Re (some (.int (lcF (sF s) 4 3 0))) mm) := by
  refine CT_go (lo := [(0, .ref (A 0))]) rfl rfl rfl rfl hg ?_
  refine V_iconst (v := 0) d_T_labelCode_0 (by decide) ?_
  refine V_istore_n d_T_labelCode_1 rfl rfl ?_
  refine V_iconst (v := 3) d_T_labelCode_2 (by decide) ?_
  refine V_istore_n d_T_labelCode_3 rfl rfl ?_
  exact l_T_labelCode hg hO h 4 3 0 _ rfl ⟨rfl, rfl, rfl, trivial⟩ ⟨rfl, rfl⟩
set_option maxRecDepth 20000 in
theorem l_T_hasLabelForm (hg : GO g) (hO : Ob mm (A 0) 5 (ctL A n day)) {r k : Nat} {s : Sq} (h : Sgm g mm (A 3) r k s) {Fi : Ou → Mm → Prop} : ∀ (m i : Nat) (x : List (Nat × Value)), i + m = 7 → chk [(0, .ref (A 0)), (1, .int (nI i))] x → Fi (oI (bi (adg (sF s) m i && (wi (sF s 0) 65 90 && (wi (sF s 1) 49 57 && (decide (sF s 2 = 45) && wi (sF s 7) 65 90)))))) mm → V g m_T_hasLabelForm 2 42 0 0 2 x [] mm Fi := by
  have h1 := h.1
  intro m
  induction m with
  | zero =>
    intro i x hi hx hF
    rw [adg, Bool.true_and] at hF
    refine V_lo _ hx ?_
    refine V_iload_n d_T_hasLabelForm_2 rfl rfl ?_
    refine V_bipush (v := 7) d_T_hasLabelForm_3 (by decide) ?_
    refine V_icmp_ge (tgt := 30) d_T_hasLabelForm_5 (by decide) (fun h_5 => ?_) (fun h_5 => ?_)
    · first | refine V_aload_n d_T_hasLabelForm_30 rfl rfl ?_ | refine V_aloadN_n d_T_hasLabelForm_30 rfl rfl ?_
      refine Vget fl_T_18 d_T_hasLabelForm_31 (by repeat first | assumption | apply Ob_s | apply Ob_n) rfl ?_
      refine V_iconst (v := 0) d_T_hasLabelForm_34 (by decide) ?_
      refine VcallV cb_G_signAt mv_T_193 rfl (ci := 4) rfl rfl d_T_hasLabelForm_35 (c_G_signAt hg h (nI 0)) ⟨by decide, by decide⟩ rfl (by repeat first | assumption | apply Ob_s | apply Ob_n) rfl (Nat.le_of_ble_eq_true rfl) (fun _ _ h => nomatch h.1) (fun v m2 hR => ?_)
      obtain ⟨hv9, e9⟩ := hR
      cases hv9
      subst m2
      refine V_callS cb_T_isLetter ms_T_245 rfl rfl d_T_hasLabelForm_38 (c_T_isLetter hg _ _) ⟨by decide, by decide⟩ rfl rfl (Nat.le_of_ble_eq_true rfl) (fun _ _ h => nomatch h.1) (fun v m2 hR => ?_)
      obtain ⟨hv9, e9⟩ := hR
      cases hv9
      subst m2
      refine V_if_eq (tgt := 94) d_T_hasLabelForm_41 (by decide) (fun h_41 => ?_) (fun h_41 => ?_)
      · have e : wi (sF s 0) 65 90 = false := bi_eq0.mp h_41
        rw [e] at hF
        refine V_iconst (v := 0) d_T_hasLabelForm_94 (by decide) ?_
        exact V_iret d_T_hasLabelForm_95 rfl rfl hF
      · have e : wi (sF s 0) 65 90 = true := bi_ne0.mp h_41
        rw [e, Bool.true_and] at hF
        first | refine V_aload_n d_T_hasLabelForm_44 rfl rfl ?_ | refine V_aloadN_n d_T_hasLabelForm_44 rfl rfl ?_
        refine Vget fl_T_18 d_T_hasLabelForm_45 (by repeat first | assumption | apply Ob_s | apply Ob_n) rfl ?_
        refine V_iconst (v := 1) d_T_hasLabelForm_48 (by decide) ?_
        refine VcallV cb_G_signAt mv_T_193 rfl (ci := 4) rfl rfl d_T_hasLabelForm_49 (c_G_signAt hg h (nI 1)) ⟨by decide, by decide⟩ rfl (by repeat first | assumption | apply Ob_s | apply Ob_n) rfl (Nat.le_of_ble_eq_true rfl) (fun _ _ h => nomatch h.1) (fun v m2 hR => ?_)
        obtain ⟨hv9, e9⟩ := hR
        cases hv9
        subst m2
        refine V_bipush (v := 49) d_T_hasLabelForm_52 (by decide) ?_
        refine V_bipush (v := 57) d_T_hasLabelForm_54 (by decide) ?_
        refine V_callS cb_T_isWithin ms_T_65 rfl rfl d_T_hasLabelForm_56 (c_T_isWithin hg _ _ 49 57) ⟨by decide, by decide⟩ rfl rfl (Nat.le_of_ble_eq_true rfl) (fun _ _ h => nomatch h.1) (fun v m2 hR => ?_)
        obtain ⟨hv9, e9⟩ := hR
        cases hv9
        subst m2
        refine V_if_eq (tgt := 94) d_T_hasLabelForm_59 (by decide) (fun h_59 => ?_) (fun h_59 => ?_)
        · have e : wi (sF s 1) 49 57 = false := bi_eq0.mp h_59
          rw [e] at hF
          refine V_iconst (v := 0) d_T_hasLabelForm_94 (by decide) ?_
          exact V_iret d_T_hasLabelForm_95 rfl rfl hF
        · have e : wi (sF s 1) 49 57 = true := bi_ne0.mp h_59
          rw [e, Bool.true_and] at hF
          first | refine V_aload_n d_T_hasLabelForm_62 rfl rfl ?_ | refine V_aloadN_n d_T_hasLabelForm_62 rfl rfl ?_
          refine Vget fl_T_18 d_T_hasLabelForm_63 (by repeat first | assumption | apply Ob_s | apply Ob_n) rfl ?_
          refine V_iconst (v := 2) d_T_hasLabelForm_66 (by decide) ?_
          refine VcallV cb_G_signAt mv_T_193 rfl (ci := 4) rfl rfl d_T_hasLabelForm_67 (c_G_signAt hg h (nI 2)) ⟨by decide, by decide⟩ rfl (by repeat first | assumption | apply Ob_s | apply Ob_n) rfl (Nat.le_of_ble_eq_true rfl) (fun _ _ h => nomatch h.1) (fun v m2 hR => ?_)
          obtain ⟨hv9, e9⟩ := hR
          cases hv9
          subst m2
          refine V_bipush (v := 45) d_T_hasLabelForm_70 (by decide) ?_
          refine V_icmp_ne (tgt := 94) d_T_hasLabelForm_72 (by decide) (fun h_72 => ?_) (fun h_72 => ?_)
          · have e : ¬ sF s 2 = 45 := h_72
            rw [decide_eq_false e] at hF
            refine V_iconst (v := 0) d_T_hasLabelForm_94 (by decide) ?_
            exact V_iret d_T_hasLabelForm_95 rfl rfl hF
          · have e : sF s 2 = 45 := h_72
            rw [decide_eq_true e, Bool.true_and] at hF
            first | refine V_aload_n d_T_hasLabelForm_75 rfl rfl ?_ | refine V_aloadN_n d_T_hasLabelForm_75 rfl rfl ?_
            refine Vget fl_T_18 d_T_hasLabelForm_76 (by repeat first | assumption | apply Ob_s | apply Ob_n) rfl ?_
            refine V_bipush (v := 7) d_T_hasLabelForm_79 (by decide) ?_
            refine VcallV cb_G_signAt mv_T_193 rfl (ci := 4) rfl rfl d_T_hasLabelForm_81 (c_G_signAt hg h (nI 7)) ⟨by decide, by decide⟩ rfl (by repeat first | assumption | apply Ob_s | apply Ob_n) rfl (Nat.le_of_ble_eq_true rfl) (fun _ _ h => nomatch h.1) (fun v m2 hR => ?_)
            obtain ⟨hv9, e9⟩ := hR
            cases hv9
            subst m2
            refine V_callS cb_T_isLetter ms_T_245 rfl rfl d_T_hasLabelForm_84 (c_T_isLetter hg _ _) ⟨by decide, by decide⟩ rfl rfl (Nat.le_of_ble_eq_true rfl) (fun _ _ h => nomatch h.1) (fun v m2 hR => ?_)
            obtain ⟨hv9, e9⟩ := hR
            cases hv9
            subst m2
            refine V_if_eq (tgt := 94) d_T_hasLabelForm_87 (by decide) (fun h_87 => ?_) (fun h_87 => ?_)
            · have e : wi (sF s 7) 65 90 = false := bi_eq0.mp h_87
              rw [e] at hF
              refine V_iconst (v := 0) d_T_hasLabelForm_94 (by decide) ?_
              exact V_iret d_T_hasLabelForm_95 rfl rfl hF
            · have e : wi (sF s 7) 65 90 = true := bi_ne0.mp h_87
              rw [e] at hF
              refine V_iconst (v := 1) d_T_hasLabelForm_90 (by decide) ?_
              refine V_goto (tgt := 95) d_T_hasLabelForm_91 (by decide) ?_
              exact V_iret d_T_hasLabelForm_95 rfl rfl hF
    · exact absurd (nI_le (a := 7) (by omega) (by omega)) h_5
  | succ m ih =>
    intro i x hi hx hF
    refine V_lo _ hx ?_
    refine V_iload_n d_T_hasLabelForm_2 rfl rfl ?_
    refine V_bipush (v := 7) d_T_hasLabelForm_3 (by decide) ?_
    refine V_icmp_ge (tgt := 30) d_T_hasLabelForm_5 (by decide) (fun h_5 => ?_) (fun h_5 => ?_)
    · exact absurd h_5 (nI_ge (b := 7) (by omega) (by omega))
    · first | refine V_aload_n d_T_hasLabelForm_8 rfl rfl ?_ | refine V_aloadN_n d_T_hasLabelForm_8 rfl rfl ?_
      refine Vget fl_T_18 d_T_hasLabelForm_9 (by repeat first | assumption | apply Ob_s | apply Ob_n) rfl ?_
      refine V_iload_n d_T_hasLabelForm_12 rfl rfl ?_
      refine VcallV cb_G_signAt mv_T_193 rfl (ci := 4) rfl rfl d_T_hasLabelForm_13 (c_G_signAt hg h (nI i)) ⟨by decide, by decide⟩ rfl (by repeat first | assumption | apply Ob_s | apply Ob_n) rfl (Nat.le_of_ble_eq_true rfl) (fun _ _ h => nomatch h.1) (fun v m2 hR => ?_)
      obtain ⟨hv9, e9⟩ := hR
      cases hv9
      subst m2
      refine V_callS cb_T_isDigit ms_T_242 rfl rfl d_T_hasLabelForm_16 (c_T_isDigit hg _ _) ⟨by decide, by decide⟩ rfl rfl (Nat.le_of_ble_eq_true rfl) (fun _ _ h => nomatch h.1) (fun v m2 hR => ?_)
      obtain ⟨hv9, e9⟩ := hR
      cases hv9
      subst m2
      rw [adg] at hF
      refine V_if_ne (tgt := 24) d_T_hasLabelForm_19 (by decide) (fun h_19 => ?_) (fun h_19 => ?_)
      · have e : dg (sF s i) = true := bi_ne0.mp h_19
        rw [e, Bool.true_and] at hF
        refine V_iinc d_T_hasLabelForm_24 rfl (nI_inc _) rfl ?_
        refine V_goto (tgt := 2) d_T_hasLabelForm_27 (by decide) ?_
        exact ih (i + 1) _ (by omega) ⟨rfl, rfl, trivial⟩ hF
      · have e : dg (sF s i) = false := bi_eq0.mp h_19
        rw [e, Bool.false_and] at hF
        refine V_iconst (v := 0) d_T_hasLabelForm_22 (by decide) ?_
        exact V_iret d_T_hasLabelForm_23 rfl rfl hF
theorem c_T_hasLabelForm (hg : GO g) (hO : Ob mm (A 0) 5 (ctL A n day)) {r k : Nat} {s : Sq} (h : Sgm g mm (A 3) r k s) : CT g m_T_hasLabelForm 2 42 0 0 [.ref (A 0)] mm (Re (some (.int (bi (lfF (sF s))))) mm) := by
  refine CT_go (lo := [(0, .ref (A 0))]) rfl rfl rfl rfl hg ?_
  refine V_iconst (v := 3) d_T_hasLabelForm_0 (by decide) ?_
  refine V_istore_n d_T_hasLabelForm_1 rfl rfl ?_
  exact l_T_hasLabelForm hg hO h 4 3 _ rfl ⟨rfl, rfl, trivial⟩ ⟨rfl, rfl⟩
/-- what a label is worth by an edition -/
def lvS (f : Nat → Int32) (d : Edd) : Option Nat → Int32
  | none => -3
  | some j => if ¬ f 1 - 48 = znF d.2.2.2.1 d.2.2.2.2.1 d.2.2.2.2.2.1 (lcF f 4 3 0) (min d.2.2.1 8) 0 ∨ hasD (d.2.1 j 1) (f 1 - 48) = false then -4 else if f 7 = ckL f then 1 else -5
def lvF (lb : Sq) (d : Edd) : Int32 := if ¬ lb.2 = 8 then -1 else if lfF (sF lb) = false then -2 else lvS (sF lb) d (fndF d.2.1 (sF lb 0) d.1 0)
theorem c_T_labelVerdict (hg : GO g) (h : CRo g mm A E n day ed) {i : Nat} (hi : i < n) {r : Nat} {lb : Sq} (hl : Sgm g mm (A 3) r 20 lb) : CT g m_T_labelVerdict 3 64 0 0 [.ref (A 0), .ref (E i 0)] mm (Re (some (.int (lvF lb (ed i)))) mm) := by
  have h1 := h.1
  have h2 := hl.1
  obtain ⟨k1, ⟨rf, k2⟩, k3, k4, k5⟩ := h.2.2.2 i hi
  have hlen := hl.2.2.1
  unfold lvF
  refine CT_go (lo := [(0, .ref (A 0)), (1, .ref (E i 0))]) rfl rfl rfl rfl hg ?_
  first | refine V_aload_n d_T_labelVerdict_0 rfl rfl ?_ | refine V_aloadN_n d_T_labelVerdict_0 rfl rfl ?_
  refine Vget fl_T_18 d_T_labelVerdict_1 (by repeat first | assumption | apply Ob_s | apply Ob_n) rfl ?_
  refine Vget fl_T_185 d_T_labelVerdict_4 (by repeat first | assumption | apply Ob_s | apply Ob_n) rfl ?_
  refine V_bipush (v := 8) d_T_labelVerdict_7 (by decide) ?_
  refine V_icmp_eq (tgt := 14) d_T_labelVerdict_9 (by decide) (fun h_9 => ?_) (fun h_9 => ?_)
  · have e8 : lb.2 = 8 := nI_ij (b := 8) (by omega) (by omega) h_9
    rw [if_neg (fun z => z e8)]
    first | refine V_aload_n d_T_labelVerdict_14 rfl rfl ?_ | refine V_aloadN_n d_T_labelVerdict_14 rfl rfl ?_
    refine VcallV cb_T_hasLabelForm mv_T_236 rfl (ci := 5) rfl rfl d_T_labelVerdict_15 (c_T_hasLabelForm hg h1 hl) ⟨by decide, by decide⟩ rfl (by repeat first | assumption | apply Ob_s | apply Ob_n) rfl (Nat.le_of_ble_eq_true rfl) (fun _ _ h => nomatch h.1) (fun v m2 hR => ?_)
    obtain ⟨hv9, e9⟩ := hR
    cases hv9
    subst m2
    refine V_if_ne (tgt := 24) d_T_labelVerdict_18 (by decide) (fun h_18 => ?_) (fun h_18 => ?_)
    · rw [bi_ne0] at h_18
      rw [if_neg (by rw [h_18]; decide)]
      first | refine V_aload_n d_T_labelVerdict_24 rfl rfl ?_ | refine V_aloadN_n d_T_labelVerdict_24 rfl rfl ?_
      first | refine V_aload_n d_T_labelVerdict_25 rfl rfl ?_ | refine V_aloadN_n d_T_labelVerdict_25 rfl rfl ?_
      refine Vget fl_T_18 d_T_labelVerdict_26 (by repeat first | assumption | apply Ob_s | apply Ob_n) rfl ?_
      refine V_iconst (v := 0) d_T_labelVerdict_29 (by decide) ?_
      refine VcallV cb_G_signAt mv_T_193 rfl (ci := 4) rfl rfl d_T_labelVerdict_30 (c_G_signAt hg hl (nI 0)) ⟨by decide, by decide⟩ rfl (by repeat first | assumption | apply Ob_s | apply Ob_n) rfl (Nat.le_of_ble_eq_true rfl) (fun _ _ h => nomatch h.1) (fun v m2 hR => ?_)
      obtain ⟨hv9, e9⟩ := hR
      cases hv9
      subst m2
      refine VcallV cb_E_find mv_T_148 rfl (ci := 0) rfl rfl d_T_labelVerdict_33 (c_E_find hg k1 k2 (sF lb 0)) ⟨by decide, by decide⟩ rfl (by repeat first | assumption | apply Ob_s | apply Ob_n) rfl (Nat.le_of_ble_eq_true rfl) (fun _ _ h => nomatch h.1) (fun v m2 hR => ?_)
      obtain ⟨hv9, e9⟩ := hR
      cases hv9
      subst m2
      cases hf : fndF (ed i).2.1 (sF lb 0) (ed i).1 0 with
      | none =>
        refine V_astoreN_n d_T_labelVerdict_36 rfl rfl ?_
        first | refine V_aload_n d_T_labelVerdict_37 rfl rfl ?_ | refine V_aloadN_n d_T_labelVerdict_37 rfl rfl ?_
        first | refine V_ifnonnullR (tgt := 44) d_T_labelVerdict_38 (by decide) ?_ | refine V_ifnonnullN d_T_labelVerdict_38 ?_
        refine V_bipush (v := -3) d_T_labelVerdict_41 (by decide) ?_
        exact V_iret d_T_labelVerdict_43 rfl rfl ⟨rfl, rfl⟩
      | some j =>
        obtain ⟨-, hj, -⟩ := fndF_some hf
        have ho := (k2.2.2 j (by omega)).2
        rw [lvS]
        refine V_astore_n (x := E i (5 + j)) d_T_labelVerdict_36 rfl rfl ?_
        first | refine V_aload_n d_T_labelVerdict_37 rfl rfl ?_ | refine V_aloadN_n d_T_labelVerdict_37 rfl rfl ?_
        first | refine V_ifnonnullR (tgt := 44) d_T_labelVerdict_38 (by decide) ?_ | refine V_ifnonnullN d_T_labelVerdict_38 ?_
        first | refine V_aload_n d_T_labelVerdict_44 rfl rfl ?_ | refine V_aloadN_n d_T_labelVerdict_44 rfl rfl ?_
        refine Vget fl_T_18 d_T_labelVerdict_45 (by repeat first | assumption | apply Ob_s | apply Ob_n) rfl ?_
        refine V_iconst (v := 1) d_T_labelVerdict_48 (by decide) ?_
        refine VcallV cb_G_signAt mv_T_193 rfl (ci := 4) rfl rfl d_T_labelVerdict_49 (c_G_signAt hg hl (nI 1)) ⟨by decide, by decide⟩ rfl (by repeat first | assumption | apply Ob_s | apply Ob_n) rfl (Nat.le_of_ble_eq_true rfl) (fun _ _ h => nomatch h.1) (fun v m2 hR => ?_)
        obtain ⟨hv9, e9⟩ := hR
        cases hv9
        subst m2
        refine V_bipush (v := 48) d_T_labelVerdict_52 (by decide) ?_
        refine V_isub d_T_labelVerdict_54 ?_
        refine V_istore_n d_T_labelVerdict_55 rfl rfl ?_
        refine V_iload_n d_T_labelVerdict_56 rfl rfl ?_
        first | refine V_aload_n d_T_labelVerdict_57 rfl rfl ?_ | refine V_aloadN_n d_T_labelVerdict_57 rfl rfl ?_
        first | refine V_aload_n d_T_labelVerdict_58 rfl rfl ?_ | refine V_aloadN_n d_T_labelVerdict_58 rfl rfl ?_
        refine VcallV cb_T_labelCode mv_T_239 rfl (ci := 5) rfl rfl d_T_labelVerdict_59 (c_T_labelCode hg h1 hl) ⟨by decide, by decide⟩ rfl (by repeat first | assumption | apply Ob_s | apply Ob_n) rfl (Nat.le_of_ble_eq_true rfl) (fun _ _ h => nomatch h.1) (fun v m2 hR => ?_)
        obtain ⟨hv9, e9⟩ := hR
        cases hv9
        subst m2
        refine VcallV cb_E_zoneOf mv_T_162 rfl (ci := 0) rfl rfl d_T_labelVerdict_62 (c_E_zoneOf hg k1 k3 (by omega) _) ⟨by decide, by decide⟩ rfl (by repeat first | assumption | apply Ob_s | apply Ob_n) rfl (Nat.le_of_ble_eq_true rfl) (fun _ _ h => nomatch h.1) (fun v m2 hR => ?_)
        obtain ⟨hv9, e9⟩ := hR
        cases hv9
        subst m2
        refine V_icmp_ne (tgt := 76) d_T_labelVerdict_65 (by decide) (fun h_65 => ?_) (fun h_65 => ?_)
        · refine V_bipush (v := -4) d_T_labelVerdict_76 (by decide) ?_
          have h65 : ¬ sF lb 1 - 48 = znF (ed i).2.2.2.1 (ed i).2.2.2.2.1 (ed i).2.2.2.2.2.1 (lcF (sF lb) 4 3 0) (min (ed i).2.2.1 8) 0 := h_65
          rw [if_pos (Or.inl h65)]
          exact V_iret d_T_labelVerdict_78 rfl rfl ⟨rfl, rfl⟩
        · first | refine V_aload_n d_T_labelVerdict_68 rfl rfl ?_ | refine V_aloadN_n d_T_labelVerdict_68 rfl rfl ?_
          refine V_iload_n d_T_labelVerdict_69 rfl rfl ?_
          refine VcallV cb_S_serves mv_T_178 rfl (ci := 3) rfl rfl d_T_labelVerdict_70 (c_S_serves hg ho _) ⟨by decide, by decide⟩ rfl (by repeat first | assumption | apply Ob_s | apply Ob_n) rfl (Nat.le_of_ble_eq_true rfl) (fun _ _ h => nomatch h.1) (fun v m2 hR => ?_)
          obtain ⟨hv9, e9⟩ := hR
          cases hv9
          subst m2
          refine V_if_ne (tgt := 79) d_T_labelVerdict_73 (by decide) (fun h_73 => ?_) (fun h_73 => ?_)
          · have e : hasD ((ed i).2.1 j 1) (sF lb 1 - 48) = true := bi_ne0.mp h_73
            rw [if_neg (fun z => z.elim (fun q => q h_65) (fun q => by rw [e] at q; cases q))]
            first | refine V_aload_n d_T_labelVerdict_79 rfl rfl ?_ | refine V_aloadN_n d_T_labelVerdict_79 rfl rfl ?_
            refine Vget fl_T_18 d_T_labelVerdict_80 (by repeat first | assumption | apply Ob_s | apply Ob_n) rfl ?_
            refine V_bipush (v := 7) d_T_labelVerdict_83 (by decide) ?_
            refine VcallV cb_G_signAt mv_T_193 rfl (ci := 4) rfl rfl d_T_labelVerdict_85 (c_G_signAt hg hl (nI 7)) ⟨by decide, by decide⟩ rfl (by repeat first | assumption | apply Ob_s | apply Ob_n) rfl (Nat.le_of_ble_eq_true rfl) (fun _ _ h => nomatch h.1) (fun v m2 hR => ?_)
            obtain ⟨hv9, e9⟩ := hR
            cases hv9
            subst m2
            first | refine V_aload_n d_T_labelVerdict_88 rfl rfl ?_ | refine V_aloadN_n d_T_labelVerdict_88 rfl rfl ?_
            refine Vget fl_T_18 d_T_labelVerdict_89 (by repeat first | assumption | apply Ob_s | apply Ob_n) rfl ?_
            refine V_callS cb_T_checkLetter ms_T_232 rfl rfl d_T_labelVerdict_92 (c_T_checkLetter hg hl) ⟨by decide, by decide⟩ rfl rfl (Nat.le_of_ble_eq_true rfl) (fun _ _ h => nomatch h.1) (fun v m2 hR => ?_)
            obtain ⟨hv9, e9⟩ := hR
            cases hv9
            subst m2
            refine V_icmp_ne (tgt := 102) d_T_labelVerdict_95 (by decide) (fun h_95 => ?_) (fun h_95 => ?_)
            · refine V_bipush (v := -5) d_T_labelVerdict_102 (by decide) ?_
              rw [if_neg (show ¬ sF lb 7 = ckL (sF lb) from h_95)]
              exact V_iret d_T_labelVerdict_104 rfl rfl ⟨rfl, rfl⟩
            · refine V_iconst (v := 1) d_T_labelVerdict_98 (by decide) ?_
              refine V_goto (tgt := 104) d_T_labelVerdict_99 (by decide) ?_
              rw [if_pos (show sF lb 7 = ckL (sF lb) from h_95)]
              exact V_iret d_T_labelVerdict_104 rfl rfl ⟨rfl, rfl⟩
          · have e : hasD ((ed i).2.1 j 1) (sF lb 1 - 48) = false := bi_eq0.mp h_73
            refine V_bipush (v := -4) d_T_labelVerdict_76 (by decide) ?_
            rw [if_pos (Or.inr e)]
            exact V_iret d_T_labelVerdict_78 rfl rfl ⟨rfl, rfl⟩
    · have e : lfF (sF lb) = false := bi_eq0.mp (by simpa using h_18)
      refine V_bipush (v := -2) d_T_labelVerdict_21 (by decide) ?_
      rw [if_pos e]
      exact V_iret d_T_labelVerdict_23 rfl rfl ⟨rfl, rfl⟩
  · refine V_iconst (v := -1) d_T_labelVerdict_12 (by decide) ?_
    have e8 : ¬ lb.2 = 8 := fun z => h_9 (by rw [z]; rfl)
    rw [if_pos e8]
    exact V_iret d_T_labelVerdict_13 rfl rfl ⟨rfl, rfl⟩
/-- a label, printed -/
def plS (s : Sq) (c z code : Int32) : Sq := apNum 37 (apN 37 (apN 37 (apN 37 (s.1, 0) c) (48 + z)) 45) code 4
def plF (s : Sq) (c z code : Int32) : Sq := apN 37 (plS s c z code) (ckL (sF (plS s c z code)))
theorem c_T_printLabel (hg : GO g) (hO : Ob mm (A 0) 5 (ctL A n day)) {r : Nat} {s : Sq} (h : Sgm g mm (A 5) r 37 s) (c z code : Int32) : CT g m_T_printLabel 2 45 0 0 [.ref (A 0), .int c, .int z, .int code] mm (Re none (sgUp g mm (A 5) r 37 (plF s c z code))) := by
  have h1 := h.1
  have n1 : A 0 ≠ A 5 := Ob_neC hO h1 (by decide)
  have n2 : A 0 ≠ r := Ob_neI hO h.2.1
  have n3 := h.ne
  have hz : (s.1, 0).2 ≤ 37 := Nat.zero_le _
  have u : ∀ s', Ob (sgUp g mm (A 5) r 37 s') (A 0) 5 (ctL A n day) := fun s' => Ob_n (Ob_n hO n2) n1
  have w : ∀ s' : Sq, s'.2 ≤ 37 → Sgm g (sgUp g mm (A 5) r 37 s') (A 5) r 37 s' := fun s' hs => h.up hs
  refine CT_go (lo := [(0, .ref (A 0)), (1, .int c), (2, .int z), (3, .int code)]) rfl rfl rfl rfl hg ?_
  first | refine V_aload_n d_T_printLabel_0 rfl rfl ?_ | refine V_aloadN_n d_T_printLabel_0 rfl rfl ?_
  refine Vget fl_T_21 d_T_printLabel_1 (by repeat first | assumption | apply Ob_s | apply Ob_n) rfl ?_
  refine VcallV cb_G_clear mv_T_75 rfl (ci := 4) rfl rfl d_T_printLabel_4 (c_G_clear hg h) ⟨by decide, by decide⟩ rfl (by repeat first | assumption | apply Ob_s | apply Ob_n) rfl (Nat.le_of_ble_eq_true rfl) (fun _ _ h => nomatch h.1) (fun v m2 hR => ?_)
  obtain ⟨hv9, e9⟩ := hR
  cases hv9
  subst m2
  have u1 := u (s.1, 0)
  have w1 := (w (s.1, 0) hz).1
  first | refine V_aload_n d_T_printLabel_7 rfl rfl ?_ | refine V_aloadN_n d_T_printLabel_7 rfl rfl ?_
  refine Vget fl_T_21 d_T_printLabel_8 (by repeat first | assumption | apply Ob_s | apply Ob_n) rfl ?_
  refine V_iload_n d_T_printLabel_11 rfl rfl ?_
  refine VcallV cb_G_append mv_T_57 rfl (ci := 4) rfl rfl d_T_printLabel_12 (c_G_app hg h _ hz _) ⟨by decide, by decide⟩ rfl (by repeat first | assumption | apply Ob_s | apply Ob_n) rfl (Nat.le_of_ble_eq_true rfl) (fun _ _ h => nomatch h.1) (fun v m2 hR => ?_)
  obtain ⟨hv9, e9⟩ := hR
  cases hv9
  subst m2
  have u2 := u (apN 37 (s.1, 0) c)
  have w2 := (w (apN 37 (s.1, 0) c) (apN_le hz)).1
  refine V_pop d_T_printLabel_15 rfl ?_
  first | refine V_aload_n d_T_printLabel_16 rfl rfl ?_ | refine V_aloadN_n d_T_printLabel_16 rfl rfl ?_
  refine Vget fl_T_21 d_T_printLabel_17 (by repeat first | assumption | apply Ob_s | apply Ob_n) rfl ?_
  refine V_bipush (v := 48) d_T_printLabel_20 (by decide) ?_
  refine V_iload_n d_T_printLabel_22 rfl rfl ?_
  refine V_iadd d_T_printLabel_23 ?_
  refine VcallV cb_G_append mv_T_57 rfl (ci := 4) rfl rfl d_T_printLabel_24 (c_G_app hg h _ (apN_le hz) _) ⟨by decide, by decide⟩ rfl (by repeat first | assumption | apply Ob_s | apply Ob_n) rfl (Nat.le_of_ble_eq_true rfl) (fun _ _ h => nomatch h.1) (fun v m2 hR => ?_)
  obtain ⟨hv9, e9⟩ := hR
  cases hv9
  subst m2
  have u3 := u (apN 37 (apN 37 (s.1, 0) c) (48 + z))
  have w3 := (w (apN 37 (apN 37 (s.1, 0) c) (48 + z)) (apN_le (apN_le hz))).1
  refine V_pop d_T_printLabel_27 rfl ?_
  first | refine V_aload_n d_T_printLabel_28 rfl rfl ?_ | refine V_aloadN_n d_T_printLabel_28 rfl rfl ?_
  refine Vget fl_T_21 d_T_printLabel_29 (by repeat first | assumption | apply Ob_s | apply Ob_n) rfl ?_
  refine V_bipush (v := 45) d_T_printLabel_32 (by decide) ?_
  refine VcallV cb_G_append mv_T_57 rfl (ci := 4) rfl rfl d_T_printLabel_34 (c_G_app hg h _ (apN_le (apN_le hz)) _) ⟨by decide, by decide⟩ rfl (by repeat first | assumption | apply Ob_s | apply Ob_n) rfl (Nat.le_of_ble_eq_true rfl) (fun _ _ h => nomatch h.1) (fun v m2 hR => ?_)
  obtain ⟨hv9, e9⟩ := hR
  cases hv9
  subst m2
  have u4 := u (apN 37 (apN 37 (apN 37 (s.1, 0) c) (48 + z)) 45)
  have w4 := (w (apN 37 (apN 37 (apN 37 (s.1, 0) c) (48 + z)) 45) (apN_le (apN_le (apN_le hz)))).1
  refine V_pop d_T_printLabel_37 rfl ?_
  first | refine V_aload_n d_T_printLabel_38 rfl rfl ?_ | refine V_aloadN_n d_T_printLabel_38 rfl rfl ?_
  refine Vget fl_T_21 d_T_printLabel_39 (by repeat first | assumption | apply Ob_s | apply Ob_n) rfl ?_
  refine V_iload_n d_T_printLabel_42 rfl rfl ?_
  refine V_iconst (v := 4) d_T_printLabel_43 (by decide) ?_
  refine VcallV cb_G_appendNumber mv_T_229 rfl (ci := 4) rfl rfl d_T_printLabel_44 (c_G_appendNumber hg h _ (apN_le (apN_le (apN_le hz))) _ _) ⟨by decide, by decide⟩ rfl (by repeat first | assumption | apply Ob_s | apply Ob_n) rfl (Nat.le_of_ble_eq_true rfl) (fun _ _ h => nomatch h.1) (fun v m2 hR => ?_)
  obtain ⟨hv9, e9⟩ := hR
  cases hv9
  subst m2
  have u5 := u (plS s c z code)
  have hz5 : (plS s c z code).2 ≤ 37 := apNum_le (apN_le (apN_le (apN_le hz)))
  have w5 := w (plS s c z code) hz5
  have w6 := w5.1
  refine ek_v (P := fun z => V g m_T_printLabel 2 45 0 0 _ _ _ z _) (show _ = sgUp g mm (A 5) r 37 (plS s c z code) from rfl) ?_
  first | refine V_aload_n d_T_printLabel_47 rfl rfl ?_ | refine V_aloadN_n d_T_printLabel_47 rfl rfl ?_
  refine Vget fl_T_21 d_T_printLabel_48 (by repeat first | assumption | apply Ob_s | apply Ob_n) rfl ?_
  first | refine V_aload_n d_T_printLabel_51 rfl rfl ?_ | refine V_aloadN_n d_T_printLabel_51 rfl rfl ?_
  refine Vget fl_T_21 d_T_printLabel_52 (by repeat first | assumption | apply Ob_s | apply Ob_n) rfl ?_
  refine V_callS cb_T_checkLetter ms_T_232 rfl rfl d_T_printLabel_55 (c_T_checkLetter hg w5) ⟨by decide, by decide⟩ rfl rfl (Nat.le_of_ble_eq_true rfl) (fun _ _ h => nomatch h.1) (fun v m2 hR => ?_)
  obtain ⟨hv9, e9⟩ := hR
  cases hv9
  subst m2
  refine VcallV cb_G_append mv_T_57 rfl (ci := 4) rfl rfl d_T_printLabel_58 (c_G_app hg h _ hz5 _) ⟨by decide, by decide⟩ rfl (by repeat first | assumption | apply Ob_s | apply Ob_n) rfl (Nat.le_of_ble_eq_true rfl) (fun _ _ h => nomatch h.1) (fun v m2 hR => ?_)
  obtain ⟨hv9, e9⟩ := hR
  cases hv9
  subst m2
  refine V_pop d_T_printLabel_61 rfl ?_
  exact V_vret d_T_printLabel_62 rfl ⟨rfl, rfl⟩
end C12
