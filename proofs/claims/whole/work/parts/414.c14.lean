/-! more of the face -/
theorem wLine_le {k : Nat} {v : Fw} {s : Sq} (h : s.2 ≤ k) : (wLine k v s).2 ≤ k := apNum_le (apN_le (apNum_le (apN_le (apSet_le (apN_le (apNum_le (apN_le (apNum_le (apN_le (apSet_le (apN_le (apN_le h))))))))))))
theorem plF_le {s : Sq} {c z code : Int32} : (plF s c z code).2 ≤ 37 := apN_le (apNum_le (apN_le (apN_le (apN_le (Nat.zero_le _)))))
theorem tabC (x : Int32) (N : Nat) : (∃ j, j ≤ N ∧ x = nI j) ∨ (x.toInt < ((0 : Nat) : Int) ∨ (N : Int) < x.toInt) := by
  by_cases h : 0 ≤ x.toInt
  · obtain ⟨j, h1, h2, -⟩ := nI_ex h
    by_cases q : j ≤ N
    · exact Or.inl ⟨j, q, h1⟩
    · exact Or.inr (Or.inr (by omega))
  · exact Or.inr (Or.inl (by omega))
/-- the zone of a code by an edition -/
def zC (d : Edd) (c : Int32) : Int32 := znF d.2.2.2.1 d.2.2.2.2.1 d.2.2.2.2.2.1 c (min d.2.2.1 8) 0
def labS (pr : Sq) (d : Edd) (code : Int32) : Option Nat → Ou × Sq
  | none => (eNE, pr)
  | some j => if wi code 0 9999 = false then (eIA, pr) else if hasD (d.2.1 j 1) (zC d code) = false then (oI 0, pr) else (oI (nI (plF pr (d.2.1 j 0) (zC d code) code).2), plF pr (d.2.1 j 0) (zC d code) code)
def labO (pr : Sq) (ed : Nat → Edd) (c code : Int32) : Option Nat → Ou × Sq
  | none => (eIS, pr)
  | some i => labS pr (ed i) code (fndF (ed i).2.1 c (ed i).1 0)
def prtS (pr : Sq) (d : Edd) : Option Nat → Ou × Sq
  | none => (eNE, pr)
  | some j => (oI (nI (wLine 37 (d.2.1 j) (pr.1, 0)).2), wLine 37 (d.2.1 j) (pr.1, 0))
def prtO (pr : Sq) (ed : Nat → Edd) (c : Int32) : Option Nat → Ou × Sq
  | none => (eNE, pr)
  | some i => prtS pr (ed i) (fndF (ed i).2.1 c (ed i).1 0)
def trkO (lb : Sq) (ed : Nat → Edd) : Option Nat → Ou × Sq
  | none => (eIS, lb)
  | some i => (oI (lvF lb (ed i)), (lb.1, 0))
def tolO (ed : Nat → Edd) (x : Int32) : Option Nat → Ou
  | none => eNE
  | some i => if x = 0 then oI (ed i).2.2.2.2.2.2 else if x = 1 then oI (nI (ed i).1) else if x = 2 then oI (nI (ed i).2.2.1) else if x = 3 then oI (nI (hrF (ed i).2.1 (ed i).1 0)) else eIA
def cntO (tx lb pr : Sq) (n : Nat) (day : Int32) (ed : Nat → Edd) (x : Int32) : Int32 := if x = 0 then nI n else if x = 1 then nI tx.2 else if x = 2 then nI lb.2 else if x = 3 then nO (acA ed n day) else if x = 4 then day else if x = 5 then nI pr.2 else -1
section C14
variable {g : GG} {mm m' : Mm} {A : Nat → Nat} {E : Nat → Nat → Nat} {col : Nat → Nat} {tx lb pr : Sq} {n : Nat} {day : Int32} {len : Nat} {ft : Fw} {ed : Nat → Edd}
set_option maxRecDepth 20000 in
theorem c_T_label (hg : GO g) (h : CR g mm A E col tx lb pr n day len ft ed) (c code : Int32) : CT g m_T_label 7 111 1 6 [.ref (A 0), .int c, .int code] mm (Po g mm A col (labO pr ed c code (acA ed n day)).1 tx lb (labO pr ed c code (acA ed n day)).2 n day len ft ed) := by
  have h1 := h.1.1
  refine CT_go (lo := [(0, .ref (A 0)), (1, .int c), (2, .int code)]) rfl rfl rfl rfl hg ?_
  first | refine V_aload_n d_T_label_0 rfl rfl ?_ | refine V_aloadN_n d_T_label_0 rfl rfl ?_
  cases ha : acA ed n day with
  | none =>
    refine VcallV cb_T_actingEdition mv_T_115 rfl (ci := 5) rfl rfl d_T_label_1 (x_T_actingEdition hg h.1 ha) ⟨by decide, by decide⟩ rfl (by repeat first | assumption | apply Ob_s | apply Ob_n) rfl (Nat.le_of_ble_eq_true rfl) (fun E9 m9 h9 => ?_) (fun _ _ h => nomatch h.1)
    obtain ⟨h9a, e9⟩ := h9
    cases h9a
    subst m9
    exact Po_same h eIS
  | some i =>
    obtain ⟨k1, ⟨rf, k2⟩, k3, k4, k5⟩ := h.1.2.2.2 i (acA_lt ha)
    rw [labO]
    refine VcallV cb_T_actingEdition mv_T_115 rfl (ci := 5) rfl rfl d_T_label_1 (c_T_actingEdition hg h.1 ha) ⟨by decide, by decide⟩ rfl (by repeat first | assumption | apply Ob_s | apply Ob_n) rfl (Nat.le_of_ble_eq_true rfl) (fun _ _ h => nomatch h.1) (fun v m2 hR => ?_)
    obtain ⟨hv9, e9⟩ := hR
    cases hv9
    subst m2
    first | refine V_astore_n d_T_label_4 rfl rfl ?_ | refine V_astoreN_n d_T_label_4 rfl rfl ?_
    first | refine V_aload_n d_T_label_5 rfl rfl ?_ | refine V_aloadN_n d_T_label_5 rfl rfl ?_
    refine V_iload_n d_T_label_6 rfl rfl ?_
    refine VcallV cb_E_find mv_T_148 rfl (ci := 0) rfl rfl d_T_label_7 (c_E_find hg k1 k2 c) ⟨by decide, by decide⟩ rfl (by repeat first | assumption | apply Ob_s | apply Ob_n) rfl (Nat.le_of_ble_eq_true rfl) (fun _ _ h => nomatch h.1) (fun v m2 hR => ?_)
    obtain ⟨hv9, e9⟩ := hR
    cases hv9
    subst m2
    cases hf : fndF (ed i).2.1 c (ed i).1 0 with
    | none =>
      refine ek_v (P := fun z => V g m_T_label 7 111 1 6 _ _ z _ _) (show _ = [Value.null] from rfl) ?_
      refine V_callS cb_T_known ms_T_151 rfl rfl d_T_label_10 (x_T_known hg) ⟨by decide, by decide⟩ rfl rfl (Nat.le_of_ble_eq_true rfl) (fun E9 m9 h9 => ?_) (fun _ _ h => nomatch h.1)
      obtain ⟨h9a, e9⟩ := h9
      cases h9a
      subst m9
      exact Po_same h eNE
    | some j =>
      obtain ⟨-, hj, -⟩ := fndF_some hf
      have ho := (k2.2.2 j (by omega)).2
      rw [labS]
      refine ek_v (P := fun z => V g m_T_label 7 111 1 6 _ _ z _ _) (show _ = [Value.ref (E i (5 + j))] from rfl) ?_
      refine V_callS cb_T_known ms_T_151 rfl rfl d_T_label_10 (c_T_known hg _) ⟨by decide, by decide⟩ rfl rfl (Nat.le_of_ble_eq_true rfl) (fun _ _ h => nomatch h.1) (fun v m2 hR => ?_)
      obtain ⟨hv9, e9⟩ := hR
      cases hv9
      subst m2
      first | refine V_astore d_T_label_13 rfl ?_ | refine V_astoreN d_T_label_13 rfl ?_
      refine V_iload_n d_T_label_15 rfl rfl ?_
      refine V_callS cb_T_isCode ms_T_157 rfl rfl d_T_label_16 (c_T_isCode hg _ code) ⟨by decide, by decide⟩ rfl rfl (Nat.le_of_ble_eq_true rfl) (fun _ _ h => nomatch h.1) (fun v m2 hR => ?_)
      obtain ⟨hv9, e9⟩ := hR
      cases hv9
      subst m2
      refine V_if_ne (tgt := 32) d_T_label_19 (by decide) (fun h_19 => ?_) (fun h_19 => ?_)
      · rw [bi_ne0] at h_19
        have hw : ¬ wi code 0 9999 = false := by rw [h_19]; decide
        rw [if_neg hw]
        first | refine V_aload_n d_T_label_32 rfl rfl ?_ | refine V_aloadN_n d_T_label_32 rfl rfl ?_
        refine V_iload_n d_T_label_33 rfl rfl ?_
        refine VcallV cb_E_zoneOf mv_T_162 rfl (ci := 0) rfl rfl d_T_label_34 (c_E_zoneOf hg k1 k3 (by omega) code) ⟨by decide, by decide⟩ rfl (by repeat first | assumption | apply Ob_s | apply Ob_n) rfl (Nat.le_of_ble_eq_true rfl) (fun _ _ h => nomatch h.1) (fun v m2 hR => ?_)
        obtain ⟨hv9, e9⟩ := hR
        cases hv9
        subst m2
        refine V_istore d_T_label_37 rfl ?_
        first | refine V_aload d_T_label_39 rfl ?_ | refine V_aloadN d_T_label_39 rfl ?_
        refine V_iload d_T_label_41 rfl ?_
        refine VcallV cb_S_serves mv_T_178 rfl (ci := 3) rfl rfl d_T_label_43 (c_S_serves hg ho _) ⟨by decide, by decide⟩ rfl (by repeat first | assumption | apply Ob_s | apply Ob_n) rfl (Nat.le_of_ble_eq_true rfl) (fun _ _ h => nomatch h.1) (fun v m2 hR => ?_)
        obtain ⟨hv9, e9⟩ := hR
        cases hv9
        subst m2
        refine V_if_ne (tgt := 51) d_T_label_46 (by decide) (fun h_46 => ?_) (fun h_46 => ?_)
        · have e : ¬ hasD ((ed i).2.1 j 1) (zC (ed i) code) = false := by
            have q : hasD ((ed i).2.1 j 1) (zC (ed i) code) = true := bi_ne0.mp h_46
            rw [q]; decide
          rw [if_neg e]
          first | refine V_aload_n d_T_label_51 rfl rfl ?_ | refine V_aloadN_n d_T_label_51 rfl rfl ?_
          first | refine V_aload d_T_label_52 rfl ?_ | refine V_aloadN d_T_label_52 rfl ?_
          refine Vget fl_T_131 d_T_label_54 (by repeat first | assumption | apply Ob_s | apply Ob_n) rfl ?_
          refine V_iload d_T_label_57 rfl ?_
          refine V_iload_n d_T_label_59 rfl rfl ?_
          refine VcallV cb_T_printLabel mv_T_181 rfl (ci := 5) rfl rfl d_T_label_60 (c_T_printLabel hg h1 h.2.2.2.1 ((ed i).2.1 j 0) (zC (ed i) code) code) ⟨by decide, by decide⟩ rfl (by repeat first | assumption | apply Ob_s | apply Ob_n) rfl (Nat.le_of_ble_eq_true rfl) (fun _ _ h => nomatch h.1) (fun v m2 hR => ?_)
          obtain ⟨hv9, e9⟩ := hR
          cases hv9
          subst m2
          have hP := Po_pr h (oI (nI (plF pr ((ed i).2.1 j 0) (zC (ed i) code) code).2)) (s := plF pr ((ed i).2.1 j 0) (zC (ed i) code) code) plF_le
          have n0 : A 0 ≠ A 5 := Ob_neC h1 h.2.2.2.1.1 (by decide)
          have n1 : A 0 ≠ A 6 := Ob_neI h1 h.2.2.2.1.2.1
          have h5 : Ob (sgUp g mm (A 5) (A 6) 37 (plF pr ((ed i).2.1 j 0) (zC (ed i) code) code)) (A 0) 5 (ctL A n day) := Ob_n (Ob_n h1 n1) n0
          have h6 := (h.2.2.2.1.up (s' := plF pr ((ed i).2.1 j 0) (zC (ed i) code) code) plF_le).1
          first | refine V_aload_n d_T_label_63 rfl rfl ?_ | refine V_aloadN_n d_T_label_63 rfl rfl ?_
          refine Vget fl_T_21 d_T_label_64 (by repeat first | assumption | apply Ob_s | apply Ob_n) rfl ?_
          refine Vget fl_T_185 d_T_label_67 (by repeat first | assumption | apply Ob_s | apply Ob_n) rfl ?_
          exact V_iret d_T_label_70 rfl rfl hP
        · have e : hasD ((ed i).2.1 j 1) (zC (ed i) code) = false := bi_eq0.mp h_46
          rw [if_pos e]
          refine V_iconst (v := 0) d_T_label_49 (by decide) ?_
          exact V_iret d_T_label_50 rfl rfl (Po_same h _)
      · have e : wi code 0 9999 = false := bi_eq0.mp h_19
        rw [if_pos e]
        exact V_throw th_T_160 rfl d_T_label_22 d_T_label_25 d_T_label_26 d_T_label_28 d_T_label_31 ⟨by decide, by decide⟩ (Nat.le_of_ble_eq_true rfl) (Po_same h eIA)
theorem c_T_print (hg : GO g) (h : CR g mm A E col tx lb pr n day len ft ed) (x c : Int32) : CT g m_T_print 7 112 1 6 [.ref (A 0), .int x, .int c] mm (Po g mm A col (prtO pr ed c (edO n x)).1 tx lb (prtO pr ed c (edO n x)).2 n day len ft ed) := by
  have h1 := h.1.1
  have h2 := h.2.2.2.1.1
  refine CT_go (lo := [(0, .ref (A 0)), (1, .int x), (2, .int c)]) rfl rfl rfl rfl hg ?_
  first | refine V_aload_n d_T_print_0 rfl rfl ?_ | refine V_aloadN_n d_T_print_0 rfl rfl ?_
  refine V_iload_n d_T_print_1 rfl rfl ?_
  cases ha : edO n x with
  | none =>
    refine VcallV cb_T_knownEdition mv_T_186 rfl (ci := 5) rfl rfl d_T_print_2 (x_T_knownEdition hg h.1 ha) ⟨by decide, by decide⟩ rfl (by repeat first | assumption | apply Ob_s | apply Ob_n) rfl (Nat.le_of_ble_eq_true rfl) (fun E9 m9 h9 => ?_) (fun _ _ h => nomatch h.1)
    obtain ⟨h9a, e9⟩ := h9
    cases h9a
    subst m9
    exact Po_same h eNE
  | some i =>
    obtain ⟨k1, ⟨rf, k2⟩, k3, k4, k5⟩ := h.1.2.2.2 i (edO_lt ha)
    rw [prtO]
    refine VcallV cb_T_knownEdition mv_T_186 rfl (ci := 5) rfl rfl d_T_print_2 (c_T_knownEdition hg h.1 ha) ⟨by decide, by decide⟩ rfl (by repeat first | assumption | apply Ob_s | apply Ob_n) rfl (Nat.le_of_ble_eq_true rfl) (fun _ _ h => nomatch h.1) (fun v m2 hR => ?_)
    obtain ⟨hv9, e9⟩ := hR
    cases hv9
    subst m2
    refine V_iload_n d_T_print_5 rfl rfl ?_
    refine VcallV cb_E_find mv_T_148 rfl (ci := 0) rfl rfl d_T_print_6 (c_E_find hg k1 k2 c) ⟨by decide, by decide⟩ rfl (by repeat first | assumption | apply Ob_s | apply Ob_n) rfl (Nat.le_of_ble_eq_true rfl) (fun _ _ h => nomatch h.1) (fun v m2 hR => ?_)
    obtain ⟨hv9, e9⟩ := hR
    cases hv9
    subst m2
    cases hf : fndF (ed i).2.1 c (ed i).1 0 with
    | none =>
      refine ek_v (P := fun z => V g m_T_print 7 112 1 6 _ _ z _ _) (show _ = [Value.null] from rfl) ?_
      refine V_callS cb_T_known ms_T_151 rfl rfl d_T_print_9 (x_T_known hg) ⟨by decide, by decide⟩ rfl rfl (Nat.le_of_ble_eq_true rfl) (fun E9 m9 h9 => ?_) (fun _ _ h => nomatch h.1)
      obtain ⟨h9a, e9⟩ := h9
      cases h9a
      subst m9
      exact Po_same h eNE
    | some j =>
      obtain ⟨-, hj, -⟩ := fndF_some hf
      have ho := (k2.2.2 j (by omega)).2
      rw [prtS]
      refine ek_v (P := fun z => V g m_T_print 7 112 1 6 _ _ z _ _) (show _ = [Value.ref (E i (5 + j))] from rfl) ?_
      refine V_callS cb_T_known ms_T_151 rfl rfl d_T_print_9 (c_T_known hg _) ⟨by decide, by decide⟩ rfl rfl (Nat.le_of_ble_eq_true rfl) (fun _ _ h => nomatch h.1) (fun v m2 hR => ?_)
      obtain ⟨hv9, e9⟩ := hR
      cases hv9
      subst m2
      first | refine V_astore_n d_T_print_12 rfl rfl ?_ | refine V_astoreN_n d_T_print_12 rfl rfl ?_
      first | refine V_aload_n d_T_print_13 rfl rfl ?_ | refine V_aloadN_n d_T_print_13 rfl rfl ?_
      refine Vget fl_T_21 d_T_print_14 (by repeat first | assumption | apply Ob_s | apply Ob_n) rfl ?_
      refine VcallV cb_G_clear mv_T_75 rfl (ci := 4) rfl rfl d_T_print_17 (c_G_clear hg h.2.2.2.1) ⟨by decide, by decide⟩ rfl (by repeat first | assumption | apply Ob_s | apply Ob_n) rfl (Nat.le_of_ble_eq_true rfl) (fun _ _ h => nomatch h.1) (fun v m2 hR => ?_)
      obtain ⟨hv9, e9⟩ := hR
      cases hv9
      subst m2
      have n0 : A 0 ≠ A 5 := Ob_neC h1 h2 (by decide)
      have n1 : A 0 ≠ A 6 := Ob_neI h1 h.2.2.2.1.2.1
      have h3 : Ob (sgUp g mm (A 5) (A 6) 37 (pr.1, 0)) (A 0) 5 (ctL A n day) := Ob_n (Ob_n h1 n1) n0
      have h3b : Ob (sgUp g mm (A 5) (A 6) 37 (pr.1, 0)) (E i (5 + j)) 3 (svL ((ed i).2.1 j)) := Ob_n (Ob_n ho (Ob_neI ho h.2.2.2.1.2.1)) (Ob_neC ho h2 (by decide))
      first | refine V_aload_n d_T_print_20 rfl rfl ?_ | refine V_aloadN_n d_T_print_20 rfl rfl ?_
      first | refine V_aload_n d_T_print_21 rfl rfl ?_ | refine V_aloadN_n d_T_print_21 rfl rfl ?_
      refine Vget fl_T_21 d_T_print_22 (by repeat first | assumption | apply Ob_s | apply Ob_n) rfl ?_
      refine VcallV cb_S_writeLine mv_T_190 rfl (ci := 3) rfl rfl d_T_print_25 (c_S_writeLine hg ho h.2.2.2.1 (pr.1, 0) (Nat.zero_le _)) ⟨by decide, by decide⟩ rfl (by repeat first | assumption | apply Ob_s | apply Ob_n) rfl (Nat.le_of_ble_eq_true rfl) (fun _ _ h => nomatch h.1) (fun v m2 hR => ?_)
      obtain ⟨hv9, e9⟩ := hR
      cases hv9
      subst m2
      have hP := Po_pr h (oI (nI (wLine 37 ((ed i).2.1 j) (pr.1, 0)).2)) (s := wLine 37 ((ed i).2.1 j) (pr.1, 0)) (wLine_le (Nat.zero_le _))
      have h5 : Ob (sgUp g mm (A 5) (A 6) 37 (wLine 37 ((ed i).2.1 j) (pr.1, 0))) (A 0) 5 (ctL A n day) := Ob_n (Ob_n h1 n1) n0
      have h6 := (h.2.2.2.1.up (s' := wLine 37 ((ed i).2.1 j) (pr.1, 0)) (wLine_le (Nat.zero_le _))).1
      first | refine V_aload_n d_T_print_28 rfl rfl ?_ | refine V_aloadN_n d_T_print_28 rfl rfl ?_
      refine Vget fl_T_21 d_T_print_29 (by repeat first | assumption | apply Ob_s | apply Ob_n) rfl ?_
      refine Vget fl_T_185 d_T_print_32 (by repeat first | assumption | apply Ob_s | apply Ob_n) rfl ?_
      exact V_iret d_T_print_35 rfl rfl hP
theorem c_T_track (hg : GO g) (h : CR g mm A E col tx lb pr n day len ft ed) : CT g m_T_track 7 111 1 6 [.ref (A 0)] mm (Po g mm A col (trkO lb ed (acA ed n day)).1 tx (trkO lb ed (acA ed n day)).2 pr n day len ft ed) := by
  have h1 := h.1.1
  have h2 := h.2.2.1.1
  refine CT_go (lo := [(0, .ref (A 0))]) rfl rfl rfl rfl hg ?_
  first | refine V_aload_n d_T_track_0 rfl rfl ?_ | refine V_aloadN_n d_T_track_0 rfl rfl ?_
  first | refine V_aload_n d_T_track_1 rfl rfl ?_ | refine V_aloadN_n d_T_track_1 rfl rfl ?_
  cases ha : acA ed n day with
  | none =>
    refine VcallV cb_T_actingEdition mv_T_115 rfl (ci := 5) rfl rfl d_T_track_2 (x_T_actingEdition hg h.1 ha) ⟨by decide, by decide⟩ rfl (by repeat first | assumption | apply Ob_s | apply Ob_n) rfl (Nat.le_of_ble_eq_true rfl) (fun E9 m9 h9 => ?_) (fun _ _ h => nomatch h.1)
    obtain ⟨h9a, e9⟩ := h9
    cases h9a
    subst m9
    exact Po_same h eIS
  | some i =>
    rw [trkO]
    refine VcallV cb_T_actingEdition mv_T_115 rfl (ci := 5) rfl rfl d_T_track_2 (c_T_actingEdition hg h.1 ha) ⟨by decide, by decide⟩ rfl (by repeat first | assumption | apply Ob_s | apply Ob_n) rfl (Nat.le_of_ble_eq_true rfl) (fun _ _ h => nomatch h.1) (fun v m2 hR => ?_)
    obtain ⟨hv9, e9⟩ := hR
    cases hv9
    subst m2
    refine VcallV cb_T_labelVerdict mv_T_202 rfl (ci := 5) rfl rfl d_T_track_5 (c_T_labelVerdict hg h.1 (acA_lt ha) h.2.2.1) ⟨by decide, by decide⟩ rfl (by repeat first | assumption | apply Ob_s | apply Ob_n) rfl (Nat.le_of_ble_eq_true rfl) (fun _ _ h => nomatch h.1) (fun v m2 hR => ?_)
    obtain ⟨hv9, e9⟩ := hR
    cases hv9
    subst m2
    refine V_istore_n d_T_track_8 rfl rfl ?_
    first | refine V_aload_n d_T_track_9 rfl rfl ?_ | refine V_aloadN_n d_T_track_9 rfl rfl ?_
    refine Vget fl_T_18 d_T_track_10 (by repeat first | assumption | apply Ob_s | apply Ob_n) rfl ?_
    refine VcallV cb_G_clear mv_T_75 rfl (ci := 4) rfl rfl d_T_track_13 (c_G_clear hg h.2.2.1) ⟨by decide, by decide⟩ rfl (by repeat first | assumption | apply Ob_s | apply Ob_n) rfl (Nat.le_of_ble_eq_true rfl) (fun _ _ h => nomatch h.1) (fun v m2 hR => ?_)
    obtain ⟨hv9, e9⟩ := hR
    cases hv9
    subst m2
    refine V_iload_n d_T_track_16 rfl rfl ?_
    exact V_iret d_T_track_17 rfl rfl (Po_lb h _ (Nat.zero_le _))
theorem c_T_told (hg : GO g) (h : CR g mm A E col tx lb pr n day len ft ed) (x w : Int32) : CT g m_T_told 7 112 1 6 [.ref (A 0), .int x, .int w] mm (Po g mm A col (tolO ed w (edO n x)) tx lb pr n day len ft ed) := by
  have h1 := h.1.1
  refine CT_go (lo := [(0, .ref (A 0)), (1, .int x), (2, .int w)]) rfl rfl rfl rfl hg ?_
  first | refine V_aload_n d_T_told_0 rfl rfl ?_ | refine V_aloadN_n d_T_told_0 rfl rfl ?_
  refine V_iload_n d_T_told_1 rfl rfl ?_
  cases ha : edO n x with
  | none =>
    refine VcallV cb_T_knownEdition mv_T_186 rfl (ci := 5) rfl rfl d_T_told_2 (x_T_knownEdition hg h.1 ha) ⟨by decide, by decide⟩ rfl (by repeat first | assumption | apply Ob_s | apply Ob_n) rfl (Nat.le_of_ble_eq_true rfl) (fun E9 m9 h9 => ?_) (fun _ _ h => nomatch h.1)
    obtain ⟨h9a, e9⟩ := h9
    cases h9a
    subst m9
    exact Po_same h eNE
  | some i =>
    obtain ⟨k1, ⟨rf, k2⟩, k3, k4, k5⟩ := h.1.2.2.2 i (edO_lt ha)
    rw [tolO]
    refine VcallV cb_T_knownEdition mv_T_186 rfl (ci := 5) rfl rfl d_T_told_2 (c_T_knownEdition hg h.1 ha) ⟨by decide, by decide⟩ rfl (by repeat first | assumption | apply Ob_s | apply Ob_n) rfl (Nat.le_of_ble_eq_true rfl) (fun _ _ h => nomatch h.1) (fun v m2 hR => ?_)
    obtain ⟨hv9, e9⟩ := hR
    cases hv9
    subst m2
    first | refine V_astore_n d_T_told_5 rfl rfl ?_ | refine V_astoreN_n d_T_told_5 rfl rfl ?_
    refine V_iload_n d_T_told_6 rfl rfl ?_
    rcases tabC w 3 with ⟨j, hj, rfl⟩ | hw
    · have hjj : j = 0 ∨ j = 1 ∨ j = 2 ∨ j = 3 := by omega
      rcases hjj with rfl | rfl | rfl | rfl
      · refine V_tabIn (x := nI 0) (off := 29) (tgt := 36) d_T_told_7 (by decide) (by decide) (by decide +kernel) (by decide) ?_
        first | refine V_aload_n d_T_told_36 rfl rfl ?_ | refine V_aloadN_n d_T_told_36 rfl rfl ?_
        refine Vget fl_T_206 d_T_told_37 (by repeat first | assumption | apply Ob_s | apply Ob_n) rfl ?_
        rw [if_pos (show nI 0 = 0 from rfl)]
        exact V_iret d_T_told_40 rfl rfl (Po_same h _)
      · refine V_tabIn (x := nI 1) (off := 34) (tgt := 41) d_T_told_7 (by decide) (by decide) (by decide +kernel) (by decide) ?_
        first | refine V_aload_n d_T_told_41 rfl rfl ?_ | refine V_aloadN_n d_T_told_41 rfl rfl ?_
        refine Vget fl_T_118 d_T_told_42 (by repeat first | assumption | apply Ob_s | apply Ob_n) rfl ?_
        rw [if_neg (by decide), if_pos (show nI 1 = 1 from rfl)]
        exact V_iret d_T_told_45 rfl rfl (Po_same h _)
      · refine V_tabIn (x := nI 2) (off := 39) (tgt := 46) d_T_told_7 (by decide) (by decide) (by decide +kernel) (by decide) ?_
        first | refine V_aload_n d_T_told_46 rfl rfl ?_ | refine V_aloadN_n d_T_told_46 rfl rfl ?_
        refine Vget fl_T_209 d_T_told_47 (by repeat first | assumption | apply Ob_s | apply Ob_n) rfl ?_
        rw [if_neg (by decide), if_neg (by decide), if_pos (show nI 2 = 2 from rfl)]
        exact V_iret d_T_told_50 rfl rfl (Po_same h _)
      · refine V_tabIn (x := nI 3) (off := 44) (tgt := 51) d_T_told_7 (by decide) (by decide) (by decide +kernel) (by decide) ?_
        first | refine V_aload_n d_T_told_51 rfl rfl ?_ | refine V_aloadN_n d_T_told_51 rfl rfl ?_
        refine VcallV cb_E_servicesWithHours mv_T_212 rfl (ci := 0) rfl rfl d_T_told_52 (c_E_servicesWithHours hg k1 k2) ⟨by decide, by decide⟩ rfl (by repeat first | assumption | apply Ob_s | apply Ob_n) rfl (Nat.le_of_ble_eq_true rfl) (fun _ _ h => nomatch h.1) (fun v m2 hR => ?_)
        obtain ⟨hv9, e9⟩ := hR
        cases hv9
        subst m2
        rw [if_neg (by decide), if_neg (by decide), if_neg (by decide), if_pos (show nI 3 = 3 from rfl)]
        exact V_iret d_T_told_55 rfl rfl (Po_same h _)
    · have m0 : ∀ j : Nat, j ≤ 3 → w ≠ nI j := fun j hj z => by
        have q := congrArg Int32.toInt z
        rw [nI_toInt (by omega)] at q
        omega
      refine V_tabOut (tgt := 56) d_T_told_7 hw (by decide) ?_
      rw [if_neg (show ¬ w = 0 from m0 0 (by omega)), if_neg (show ¬ w = 1 from m0 1 (by omega)), if_neg (show ¬ w = 2 from m0 2 (by omega)), if_neg (show ¬ w = 3 from m0 3 (by omega))]
      exact V_throw th_T_215 rfl d_T_told_56 d_T_told_59 d_T_told_60 d_T_told_62 d_T_told_65 ⟨by decide, by decide⟩ (Nat.le_of_ble_eq_true rfl) (Po_same h eIA)
theorem c_T_count (hg : GO g) (h : CR g mm A E col tx lb pr n day len ft ed) (x : Int32) : CT g m_T_count 3 67 0 0 [.ref (A 0), .int x] mm (Po g mm A col (oI (cntO tx lb pr n day ed x)) tx lb pr n day len ft ed) := by
  have h1 := h.1.1
  have h2 := h.2.1.1
  have h3 := h.2.2.1.1
  have h4 := h.2.2.2.1.1
  unfold cntO
  refine CT_go (lo := [(0, .ref (A 0)), (1, .int x)]) rfl rfl rfl rfl hg ?_
  refine V_iload_n d_T_count_0 rfl rfl ?_
  rcases tabC x 5 with ⟨j, hj, rfl⟩ | hw
  · have hjj : j = 0 ∨ j = 1 ∨ j = 2 ∨ j = 3 ∨ j = 4 ∨ j = 5 := by omega
    rcases hjj with rfl | rfl | rfl | rfl | rfl | rfl
    · refine V_tabIn (x := nI 0) (off := 39) (tgt := 40) d_T_count_1 (by decide) (by decide) (by decide +kernel) (by decide) ?_
      first | refine V_aload_n d_T_count_40 rfl rfl ?_ | refine V_aloadN_n d_T_count_40 rfl rfl ?_
      refine Vget fl_T_89 d_T_count_41 (by repeat first | assumption | apply Ob_s | apply Ob_n) rfl ?_
      rw [if_pos (show nI 0 = 0 from rfl)]
      exact V_iret d_T_count_44 rfl rfl (Po_same h _)
    · refine V_tabIn (x := nI 1) (off := 44) (tgt := 45) d_T_count_1 (by decide) (by decide) (by decide +kernel) (by decide) ?_
      first | refine V_aload_n d_T_count_45 rfl rfl ?_ | refine V_aloadN_n d_T_count_45 rfl rfl ?_
      refine Vget fl_T_14 d_T_count_46 (by repeat first | assumption | apply Ob_s | apply Ob_n) rfl ?_
      refine Vget fl_T_185 d_T_count_49 (by repeat first | assumption | apply Ob_s | apply Ob_n) rfl ?_
      rw [if_neg (by decide), if_pos (show nI 1 = 1 from rfl)]
      exact V_iret d_T_count_52 rfl rfl (Po_same h _)
    · refine V_tabIn (x := nI 2) (off := 52) (tgt := 53) d_T_count_1 (by decide) (by decide) (by decide +kernel) (by decide) ?_
      first | refine V_aload_n d_T_count_53 rfl rfl ?_ | refine V_aloadN_n d_T_count_53 rfl rfl ?_
      refine Vget fl_T_18 d_T_count_54 (by repeat first | assumption | apply Ob_s | apply Ob_n) rfl ?_
      refine Vget fl_T_185 d_T_count_57 (by repeat first | assumption | apply Ob_s | apply Ob_n) rfl ?_
      rw [if_neg (by decide), if_neg (by decide), if_pos (show nI 2 = 2 from rfl)]
      exact V_iret d_T_count_60 rfl rfl (Po_same h _)
    · refine V_tabIn (x := nI 3) (off := 60) (tgt := 61) d_T_count_1 (by decide) (by decide) (by decide +kernel) (by decide) ?_
      first | refine V_aload_n d_T_count_61 rfl rfl ?_ | refine V_aloadN_n d_T_count_61 rfl rfl ?_
      refine VcallV cb_T_actingNumber mv_T_106 rfl (ci := 5) rfl rfl d_T_count_62 (c_T_actingNumber hg h.1) ⟨by decide, by decide⟩ rfl (by repeat first | assumption | apply Ob_s | apply Ob_n) rfl (Nat.le_of_ble_eq_true rfl) (fun _ _ h => nomatch h.1) (fun v m2 hR => ?_)
      obtain ⟨hv9, e9⟩ := hR
      cases hv9
      subst m2
      rw [if_neg (by decide), if_neg (by decide), if_neg (by decide), if_pos (show nI 3 = 3 from rfl)]
      exact V_iret d_T_count_65 rfl rfl (Po_same h _)
    · refine V_tabIn (x := nI 4) (off := 65) (tgt := 66) d_T_count_1 (by decide) (by decide) (by decide +kernel) (by decide) ?_
      first | refine V_aload_n d_T_count_66 rfl rfl ?_ | refine V_aloadN_n d_T_count_66 rfl rfl ?_
      refine Vget fl_T_102 d_T_count_67 (by repeat first | assumption | apply Ob_s | apply Ob_n) rfl ?_
      rw [if_neg (by decide), if_neg (by decide), if_neg (by decide), if_neg (by decide), if_pos (show nI 4 = 4 from rfl)]
      exact V_iret d_T_count_70 rfl rfl (Po_same h _)
    · refine V_tabIn (x := nI 5) (off := 70) (tgt := 71) d_T_count_1 (by decide) (by decide) (by decide +kernel) (by decide) ?_
      first | refine V_aload_n d_T_count_71 rfl rfl ?_ | refine V_aloadN_n d_T_count_71 rfl rfl ?_
      refine Vget fl_T_21 d_T_count_72 (by repeat first | assumption | apply Ob_s | apply Ob_n) rfl ?_
      refine Vget fl_T_185 d_T_count_75 (by repeat first | assumption | apply Ob_s | apply Ob_n) rfl ?_
      rw [if_neg (by decide), if_neg (by decide), if_neg (by decide), if_neg (by decide), if_neg (by decide), if_pos (show nI 5 = 5 from rfl)]
      exact V_iret d_T_count_78 rfl rfl (Po_same h _)
  · have m0 : ∀ j : Nat, j ≤ 5 → x ≠ nI j := fun j hj z => by
      have q := congrArg Int32.toInt z
      rw [nI_toInt (by omega)] at q
      omega
    refine V_tabOut (tgt := 79) d_T_count_1 hw (by decide) ?_
    rw [if_neg (show ¬ x = 0 from m0 0 (by omega)), if_neg (show ¬ x = 1 from m0 1 (by omega)), if_neg (show ¬ x = 2 from m0 2 (by omega)), if_neg (show ¬ x = 3 from m0 3 (by omega)), if_neg (show ¬ x = 4 from m0 4 (by omega)), if_neg (show ¬ x = 5 from m0 5 (by omega))]
    refine V_iconst (v := -1) d_T_count_79 (by decide) ?_
    exact V_iret d_T_count_80 rfl rfl (Po_same h _)
/-! fits -/
abbrev Kst : Type := Nat × Fw × Fw
def fitF (v : Nat → Fw) (w s z c : Int32) : Nat → Nat → Kst → Kst
  | 0, _, st => st
  | m + 1, j, st => fitF v w s z c m (j + 1) (if tks (v j) w s z c = true then (st.1 + 1, insF (v j 0) (prc (v j) w) st.1 st.2) else st)
theorem fitF_le {v : Nat → Fw} {w s z c : Int32} : ∀ (m j : Nat) (st : Kst), st.1 ≤ j → (fitF v w s z c m j st).1 ≤ j + m
  | 0, j, st, h => h
  | m + 1, j, st, h => by
    have := fitF_le (v := v) (w := w) (s := s) (z := z) (c := c) m (j + 1) (if tks (v j) w s z c = true then (st.1 + 1, insF (v j 0) (prc (v j) w) st.1 st.2) else st) (by split <;> (try show st.1 + 1 ≤ j + 1) <;> omega)
    rw [fitF]
    omega
def c3 (x : Nat) : Prop := 8 ≤ x ∧ x ≤ 10
def kR (g : GG) (mm : Mm) (A : Nat → Nat) (st : Kst) : Mm := up (kM g mm (A 9) (A 10) st.2) (A 8) (.inr (1, [.ref (A 9), .ref (A 10), .int (nI st.1)]))
theorem kR_up {st : Kst} {s : Fw × Fw} {e : va_E} (h1 : A 8 ≠ A 9) (h2 : A 8 ≠ A 10) (h3 : A 10 ≠ A 9) : up (kM g (kR g mm A st) (A 9) (A 10) s) (A 8) e = up (kM g mm (A 9) (A 10) s) (A 8) e := by
  unfold kR kM
  rw [up_com (a := A 8) (b := A 9) h1, up_com (a := A 8) (b := A 10) h2, up_up, up_com (a := A 10) (b := A 9) h3, up_up, up_up]
theorem kR_k (h : CRk g mm A len ft) (hc : Cl A E col n ed) {st : Kst} (hst : st.1 ≤ 8) : Ob (kR g mm A st) (A 8) 1 [.ref (A 9), .ref (A 10), .int (nI st.1)] ∧ Ia g (kR g mm A st) (A 9) 8 st.2.1 ∧ Ia g (kR g mm A st) (A 10) 8 st.2.2 ∧ Fr (fun b => c3 (col b)) mm (kR g mm A st) := by
  obtain ⟨h1, h2, ⟨f, h3⟩, h4⟩ := h
  have n1 := Ob_neI h1 h2
  have n2 := Ob_neI h1 h3
  have n3 : A 9 ≠ A 10 := fun z => by
    have := congrArg col z
    rw [hc.1 9 (by omega), hc.1 10 (by omega)] at this
    omega
  refine ⟨Ob_s (Ob_n (Ob_n h1 n1) n2), Ia_n (Ia_n (Ia_s h2) n3) (Ne.symm n1), Ia_n (Ia_s (Ia_n h3 (Ne.symm n3))) (Ne.symm n2), ?_⟩
  exact Fr_up (Fr_up (Fr_up Fr_rf (by rw [hc.1 9 (by omega)]; unfold c3; omega)) (by rw [hc.1 10 (by omega)]; unfold c3; omega)) (by rw [hc.1 8 (by omega)]; unfold c3; omega)
theorem Po_k (h : CR g mm A E col tx lb pr n day len ft ed) (r : Ou) {st : Kst} (hst : st.1 ≤ 8) : Po g mm A col r tx lb pr n day st.1 st.2.1 ed r (kR g mm A st) := by
  obtain ⟨h1, h2, h3, h4, h5, h6, h7⟩ := h
  obtain ⟨q1, q2, q3, hF⟩ := kR_k h5 h7 hst
  exact Po_of ⟨CRo_f h1 h7 hF (by unfold c3; omega) (by unfold c3; omega) (by intro x hx; unfold c3; omega), SgC_f h2 (by omega) h7 hF (by unfold c3; omega) (by unfold c3; omega), SgC_f h3 (by omega) h7 hF (by unfold c3; omega) (by unfold c3; omega), SgC_f h4 (by omega) h7 hF (by unfold c3; omega) (by unfold c3; omega), ⟨q1, q2, ⟨_, q3⟩, hst⟩, CRd_f h6 h7 hF (by unfold c3; omega) (by intro x hx; unfold c3; omega), h7⟩ hF (by intro x hx; unfold c3 at hx; omega)
set_option maxRecDepth 20000 in
theorem l_T_fits (hg : GO g) (h : CR g mm A E col tx lb pr n day len ft ed) {i : Nat} (hi : i < n) (w s z c : Int32) {Fi : Ou → Mm → Prop} : ∀ (m j : Nat) (st : Kst) (x : List (Nat × Value)), j + m = (ed i).1 → st.1 ≤ j → chk [(0, .ref (A 0)), (1, .int w), (2, .int s), (3, .int z), (4, .int c), (5, .ref (E i 0)), (6, .int (nI j))] x → Fi (oI (nI (fitF (ed i).2.1 w s z c m j st).1)) (kR g mm A (fitF (ed i).2.1 w s z c m j st)) → V g m_T_fits 7 111 1 6 65 x [] (kR g mm A st) Fi := by
  have h7 := h.2.2.2.2.2.2
  have n9 : A 8 ≠ A 9 := Ob_neI h.2.2.2.2.1.1 h.2.2.2.2.1.2.1
  have n10 : A 8 ≠ A 10 := by
    obtain ⟨a1, a2, ⟨f, a3⟩, a4⟩ := h.2.2.2.2.1
    exact Ob_neI a1 a3
  have n11 : A 10 ≠ A 9 := fun z => by
    have := congrArg col z
    rw [h7.1 9 (by omega), h7.1 10 (by omega)] at this
    omega
  intro m
  induction m with
  | zero =>
    intro j st x hj hst hx hF
    have hk8 : (ed i).1 ≤ 8 := (h.1.2.2.2 i hi).2.2.2.2
    obtain ⟨q1, q2, q3, hFr⟩ := kR_k h.2.2.2.2.1 h7 (st := st) (by omega)
    have hO := CRo_f h.1 h7 hFr (by unfold c3; omega) (by unfold c3; omega) (by intro x hx; unfold c3; omega)
    have h1 := hO.1
    obtain ⟨k1, ⟨rf, k2⟩, -⟩ := hO.2.2.2 i hi
    refine V_lo _ hx ?_
    refine V_iload d_T_fits_65 rfl ?_
    first | refine V_aload d_T_fits_67 rfl ?_ | refine V_aloadN d_T_fits_67 rfl ?_
    refine Vget fl_T_118 d_T_fits_69 (by repeat first | assumption | apply Ob_s | apply Ob_n) rfl ?_
    refine V_icmp_ge (tgt := 126) d_T_fits_72 (by decide) (fun h_72 => ?_) (fun h_72 => ?_)
    · first | refine V_aload_n d_T_fits_126 rfl rfl ?_ | refine V_aloadN_n d_T_fits_126 rfl rfl ?_
      refine Vget fl_T_36 d_T_fits_127 (by repeat first | assumption | apply Ob_s | apply Ob_n) rfl ?_
      refine Vget fl_T_142 d_T_fits_130 (by repeat first | assumption | apply Ob_s | apply Ob_n) rfl ?_
      exact V_iret d_T_fits_133 rfl rfl hF
    · exact absurd (nI_le (by omega) (by omega)) h_72
  | succ m ih =>
    intro j st x hj hst hx hF
    have hk8 : (ed i).1 ≤ 8 := (h.1.2.2.2 i hi).2.2.2.2
    obtain ⟨q1, q2, q3, hFr⟩ := kR_k h.2.2.2.2.1 h7 (st := st) (by omega)
    have hO := CRo_f h.1 h7 hFr (by unfold c3; omega) (by unfold c3; omega) (by intro x hx; unfold c3; omega)
    have h1 := hO.1
    obtain ⟨k1, ⟨rf, k2⟩, -⟩ := hO.2.2.2 i hi
    have ho := (k2.2.2 j (by omega)).2
    refine V_lo _ hx ?_
    refine V_iload d_T_fits_65 rfl ?_
    first | refine V_aload d_T_fits_67 rfl ?_ | refine V_aloadN d_T_fits_67 rfl ?_
    refine Vget fl_T_118 d_T_fits_69 (by repeat first | assumption | apply Ob_s | apply Ob_n) rfl ?_
    refine V_icmp_ge (tgt := 126) d_T_fits_72 (by decide) (fun h_72 => ?_) (fun h_72 => ?_)
    · exact absurd h_72 (nI_ge (by omega) (by omega))
    · first | refine V_aload d_T_fits_75 rfl ?_ | refine V_aloadN d_T_fits_75 rfl ?_
      refine V_iload d_T_fits_77 rfl ?_
      refine VcallV cb_E_serviceAt mv_T_121 rfl (ci := 0) rfl rfl d_T_fits_79 (c_E_serviceAt hg k1 k2 (j := j) (by omega)) ⟨by decide, by decide⟩ rfl (by repeat first | assumption | apply Ob_s | apply Ob_n) rfl (Nat.le_of_ble_eq_true rfl) (fun _ _ h => nomatch h.1) (fun v m2 hR => ?_)
      obtain ⟨hv9, e9⟩ := hR
      cases hv9
      subst m2
      refine V_astore (x := E i (5 + j)) d_T_fits_82 rfl ?_
      first | refine V_aload d_T_fits_84 rfl ?_ | refine V_aloadN d_T_fits_84 rfl ?_
      first | refine V_ifnullR d_T_fits_86 ?_ | refine V_ifnullN (tgt := 120) d_T_fits_86 (by decide) ?_
      first | refine V_aload d_T_fits_89 rfl ?_ | refine V_aloadN d_T_fits_89 rfl ?_
      refine V_iload_n d_T_fits_91 rfl rfl ?_
      refine V_iload_n d_T_fits_92 rfl rfl ?_
      refine V_iload_n d_T_fits_93 rfl rfl ?_
      refine V_iload d_T_fits_94 rfl ?_
      refine VcallV cb_S_takes mv_T_125 rfl (ci := 3) rfl rfl d_T_fits_96 (c_S_takes hg ho w s z c) ⟨by decide, by decide⟩ rfl (by repeat first | assumption | apply Ob_s | apply Ob_n) rfl (Nat.le_of_ble_eq_true rfl) (fun _ _ h => nomatch h.1) (fun v m2 hR => ?_)
      obtain ⟨hv9, e9⟩ := hR
      cases hv9
      subst m2
      rw [fitF] at hF
      refine V_if_eq (tgt := 120) d_T_fits_99 (by decide) (fun h_99 => ?_) (fun h_99 => ?_)
      · have e : ¬ tks ((ed i).2.1 j) w s z c = true := by rw [bi_eq0.mp h_99]; decide
        rw [if_neg e] at hF
        refine V_iinc d_T_fits_120 rfl (nI_inc _) rfl ?_
        refine V_goto (tgt := 65) d_T_fits_123 (by decide) ?_
        exact ih (j + 1) st _ (by omega) (by omega) ⟨rfl, rfl, rfl, rfl, rfl, rfl, rfl, trivial⟩ hF
      · rw [if_pos (bi_ne0.mp h_99)] at hF
        first | refine V_aload_n d_T_fits_102 rfl rfl ?_ | refine V_aloadN_n d_T_fits_102 rfl rfl ?_
        refine Vget fl_T_36 d_T_fits_103 (by repeat first | assumption | apply Ob_s | apply Ob_n) rfl ?_
        first | refine V_aload d_T_fits_106 rfl ?_ | refine V_aloadN d_T_fits_106 rfl ?_
        refine Vget fl_T_131 d_T_fits_108 (by repeat first | assumption | apply Ob_s | apply Ob_n) rfl ?_
        first | refine V_aload d_T_fits_111 rfl ?_ | refine V_aloadN d_T_fits_111 rfl ?_
        refine V_iload_n d_T_fits_113 rfl rfl ?_
        refine VcallV cb_S_priceFor mv_T_134 rfl (ci := 3) rfl rfl d_T_fits_114 (c_S_priceFor hg ho w) ⟨by decide, by decide⟩ rfl (by repeat first | assumption | apply Ob_s | apply Ob_n) rfl (Nat.le_of_ble_eq_true rfl) (fun _ _ h => nomatch h.1) (fun v m2 hR => ?_)
        obtain ⟨hv9, e9⟩ := hR
        cases hv9
        subst m2
        refine VcallV cb_K_insert mv_T_138 rfl (ci := 1) rfl rfl d_T_fits_117 (c_K_insert hg q1 q2 q3 (Ne.symm n11) (by omega) _ _) ⟨by decide, by decide⟩ rfl (by repeat first | assumption | apply Ob_s | apply Ob_n) rfl (Nat.le_of_ble_eq_true rfl) (fun _ _ h => nomatch h.1) (fun v m2 hR => ?_)
        obtain ⟨hv9, e9⟩ := hR
        cases hv9
        subst m2
        refine ek_v (P := fun z => V g m_T_fits 7 111 1 6 _ _ _ z _) (show _ = kR g mm A (st.1 + 1, insF ((ed i).2.1 j 0) (prc ((ed i).2.1 j) w) st.1 st.2) from kR_up n9 n10 n11) ?_
        refine V_iinc d_T_fits_120 rfl (nI_inc _) rfl ?_
        refine V_goto (tgt := 65) d_T_fits_123 (by decide) ?_
        exact ih (j + 1) _ _ (by omega) (by show st.1 + 1 ≤ j + 1; omega) ⟨rfl, rfl, rfl, rfl, rfl, rfl, rfl, trivial⟩ hF
def fitO (ft pc : Fw) (ed : Nat → Edd) (w s z c : Int32) (len : Nat) : Option Nat → Ou × Nat × Fw
  | none => (eIS, len, ft)
  | some i => (oI (nI (fitF (ed i).2.1 w s z c (ed i).1 0 (0, ft, pc)).1), (fitF (ed i).2.1 w s z c (ed i).1 0 (0, ft, pc)).1, (fitF (ed i).2.1 w s z c (ed i).1 0 (0, ft, pc)).2.1)
def fitQ (w s z c : Int32) : Bool := wi w 1 2000 && (wi s 1 1000 && (wi z 1 9 && wi c 0 9))
def fitP (ft pc : Fw) (ed : Nat → Edd) (w s z c : Int32) (len : Nat) (a : Option Nat) : Ou × Nat × Fw := if fitQ w s z c = false then (eIA, len, ft) else fitO ft pc ed w s z c len a
set_option maxRecDepth 20000 in
theorem c_T_fits (hg : GO g) (h : CR g mm A E col tx lb pr n day len ft ed) (w s z c : Int32) : CT g m_T_fits 7 111 1 6 [.ref (A 0), .int w, .int s, .int z, .int c] mm (fun o m' => ∃ pc, Po g mm A col (fitP ft pc ed w s z c len (acA ed n day)).1 tx lb pr n day (fitP ft pc ed w s z c len (acA ed n day)).2.1 (fitP ft pc ed w s z c len (acA ed n day)).2.2 ed o m') := by
  have h1 := h.1.1
  have h2 := h.2.2.2.2.1.1
  obtain ⟨pc, hpc⟩ := h.2.2.2.2.1.2.2.1
  -- the wrong pack
  have bad : fitQ w s z c = false → ∀ lo, V g m_T_fits 7 111 1 6 39 lo [] mm (fun o m' => ∃ pc, Po g mm A col (fitP ft pc ed w s z c len (acA ed n day)).1 tx lb pr n day (fitP ft pc ed w s z c len (acA ed n day)).2.1 (fitP ft pc ed w s z c len (acA ed n day)).2.2 ed o m') := by
    intro hq lo
    simp only [fitP, if_pos hq]
    exact V_throw th_T_113 rfl d_T_fits_39 d_T_fits_42 d_T_fits_43 d_T_fits_45 d_T_fits_48 ⟨by decide, by decide⟩ (Nat.le_of_ble_eq_true rfl) (⟨pc, Po_same h eIA⟩)
  refine CT_go (lo := [(0, .ref (A 0)), (1, .int w), (2, .int s), (3, .int z), (4, .int c)]) rfl rfl rfl rfl hg ?_
  refine V_iload_n d_T_fits_0 rfl rfl ?_
  refine V_callS cb_T_isWeight ms_T_110 rfl rfl d_T_fits_1 (c_T_isWeight hg _ w) ⟨by decide, by decide⟩ rfl rfl (Nat.le_of_ble_eq_true rfl) (fun _ _ h => nomatch h.1) (fun v m2 hR => ?_)
  obtain ⟨hv9, e9⟩ := hR
  cases hv9
  subst m2
  refine V_if_eq (tgt := 39) d_T_fits_4 (by decide) (fun h_4 => ?_) (fun h_4 => ?_)
  · exact bad (by unfold fitQ; rw [bi_eq0.mp h_4]; rfl) _
  · refine V_iload_n d_T_fits_7 rfl rfl ?_
    refine V_iconst (v := 1) d_T_fits_8 (by decide) ?_
    refine V_sipush (v := 1000) d_T_fits_9 (by decide) ?_
    refine V_callS cb_T_isWithin ms_T_65 rfl rfl d_T_fits_12 (c_T_isWithin hg _ s 1 1000) ⟨by decide, by decide⟩ rfl rfl (Nat.le_of_ble_eq_true rfl) (fun _ _ h => nomatch h.1) (fun v m2 hR => ?_)
    obtain ⟨hv9, e9⟩ := hR
    cases hv9
    subst m2
    refine V_if_eq (tgt := 39) d_T_fits_15 (by decide) (fun h_15 => ?_) (fun h_15 => ?_)
    · exact bad (by unfold fitQ; rw [bi_eq0.mp h_15, Bool.false_and, Bool.and_false]) _
    · refine V_iload_n d_T_fits_18 rfl rfl ?_
      refine V_iconst (v := 1) d_T_fits_19 (by decide) ?_
      refine V_bipush (v := 9) d_T_fits_20 (by decide) ?_
      refine V_callS cb_T_isWithin ms_T_65 rfl rfl d_T_fits_22 (c_T_isWithin hg _ z 1 9) ⟨by decide, by decide⟩ rfl rfl (Nat.le_of_ble_eq_true rfl) (fun _ _ h => nomatch h.1) (fun v m2 hR => ?_)
      obtain ⟨hv9, e9⟩ := hR
      cases hv9
      subst m2
      refine V_if_eq (tgt := 39) d_T_fits_25 (by decide) (fun h_25 => ?_) (fun h_25 => ?_)
      · exact bad (by unfold fitQ; rw [bi_eq0.mp h_25, Bool.false_and, Bool.and_false, Bool.and_false]) _
      · refine V_iload d_T_fits_28 rfl ?_
        refine V_iconst (v := 0) d_T_fits_30 (by decide) ?_
        refine V_bipush (v := 9) d_T_fits_31 (by decide) ?_
        refine V_callS cb_T_isWithin ms_T_65 rfl rfl d_T_fits_33 (c_T_isWithin hg _ c 0 9) ⟨by decide, by decide⟩ rfl rfl (Nat.le_of_ble_eq_true rfl) (fun _ _ h => nomatch h.1) (fun v m2 hR => ?_)
        obtain ⟨hv9, e9⟩ := hR
        cases hv9
        subst m2
        refine V_if_ne (tgt := 49) d_T_fits_36 (by decide) (fun h_36 => ?_) (fun h_36 => ?_)
        · have hq : ¬ fitQ w s z c = false := by unfold fitQ; rw [bi_ne0.mp h_4, bi_ne0.mp h_15, bi_ne0.mp h_25, bi_ne0.mp h_36]; decide
          simp only [fitP, if_neg hq]
          first | refine V_aload_n d_T_fits_49 rfl rfl ?_ | refine V_aloadN_n d_T_fits_49 rfl rfl ?_
          cases ha : acA ed n day with
          | none =>
            refine VcallV cb_T_actingEdition mv_T_115 rfl (ci := 5) rfl rfl d_T_fits_50 (x_T_actingEdition hg h.1 ha) ⟨by decide, by decide⟩ rfl (by repeat first | assumption | apply Ob_s | apply Ob_n) rfl (Nat.le_of_ble_eq_true rfl) (fun E9 m9 h9 => ?_) (fun _ _ h => nomatch h.1)
            obtain ⟨h9a, e9⟩ := h9
            cases h9a
            subst m9
            exact ⟨pc, Po_same h eIS⟩
          | some i =>
            refine VcallV cb_T_actingEdition mv_T_115 rfl (ci := 5) rfl rfl d_T_fits_50 (c_T_actingEdition hg h.1 ha) ⟨by decide, by decide⟩ rfl (by repeat first | assumption | apply Ob_s | apply Ob_n) rfl (Nat.le_of_ble_eq_true rfl) (fun _ _ h => nomatch h.1) (fun v m2 hR => ?_)
            obtain ⟨hv9, e9⟩ := hR
            cases hv9
            subst m2
            first | refine V_astore d_T_fits_53 rfl ?_ | refine V_astoreN d_T_fits_53 rfl ?_
            first | refine V_aload_n d_T_fits_55 rfl rfl ?_ | refine V_aloadN_n d_T_fits_55 rfl rfl ?_
            refine Vget fl_T_36 d_T_fits_56 (by repeat first | assumption | apply Ob_s | apply Ob_n) rfl ?_
            refine VcallV cb_K_clear mv_T_105 rfl (ci := 1) rfl rfl d_T_fits_59 (c_K_clear hg h2) ⟨by decide, by decide⟩ rfl (by repeat first | assumption | apply Ob_s | apply Ob_n) rfl (Nat.le_of_ble_eq_true rfl) (fun _ _ h => nomatch h.1) (fun v m2 hR => ?_)
            obtain ⟨hv9, e9⟩ := hR
            cases hv9
            subst m2
            refine ek_v (P := fun z => V g m_T_fits 7 111 1 6 _ _ _ z _) (show _ = kR g mm A (0, ft, pc) by unfold kR; rw [kM_id h.2.2.2.2.1.2.1 hpc]; rfl) ?_
            refine V_iconst (v := 0) d_T_fits_62 (by decide) ?_
            refine V_istore d_T_fits_63 rfl ?_
            refine l_T_fits hg h (acA_lt ha) w s z c (ed i).1 0 (0, ft, pc) _ (by omega) (Nat.le_refl _) ⟨rfl, rfl, rfl, rfl, rfl, rfl, rfl, trivial⟩ ⟨pc, ?_⟩
            have hle := fitF_le (v := (ed i).2.1) (w := w) (s := s) (z := z) (c := c) (ed i).1 0 (0, ft, pc) (Nat.le_refl _)
            have hk8 : (ed i).1 ≤ 8 := (h.1.2.2.2 i (acA_lt ha)).2.2.2.2
            exact Po_k h _ (by omega)
        · exact bad (by unfold fitQ; rw [bi_eq0.mp h_36, Bool.and_false, Bool.and_false, Bool.and_false]) _
end C14
