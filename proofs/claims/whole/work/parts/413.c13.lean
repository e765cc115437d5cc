/-! the whole class: every cell has a colour of its own -/
def Cl (A : Nat → Nat) (E : Nat → Nat → Nat) (col : Nat → Nat) (n : Nat) (ed : Nat → Edd) : Prop := (∀ r, r < 12 → col (A r) = r) ∧ (∀ i r, i ≤ n → r < 5 → col (E i r) = 100 * (i + 1) + r) ∧ ∀ i j, i < n → j < (ed i).1 → col (E i (5 + j)) = 100 * (i + 1) + 5 + j
def CRk (g : GG) (mm : Mm) (A : Nat → Nat) (len : Nat) (ft : Fw) : Prop := Ob mm (A 8) 1 [.ref (A 9), .ref (A 10), .int (nI len)] ∧ Ia g mm (A 9) 8 ft ∧ (∃ f, Ia g mm (A 10) 8 f) ∧ len ≤ 8
def CRd (g : GG) (mm : Mm) (A : Nat → Nat) (e : Nat → Nat) : Prop := (∃ p lk, Ob mm (A 7) 2 (rdL (A 1) (e 0) p lk)) ∧ (∃ k q d, Ob mm (e 0) 0 (edL (e 1) (e 2) (e 3) (e 4) k q d)) ∧ (∃ rf, Qa g mm 2 (e 1) 26 rf) ∧ ∃ f1 f2 f3, Rgs g mm (e 2) (e 3) (e 4) f1 f2 f3
def CR (g : GG) (mm : Mm) (A : Nat → Nat) (E : Nat → Nat → Nat) (col : Nat → Nat) (tx lb pr : Sq) (n : Nat) (day : Int32) (len : Nat) (ft : Fw) (ed : Nat → Edd) : Prop :=
  CRo g mm A E n day ed ∧ Sgm g mm (A 1) (A 2) 500 tx ∧ Sgm g mm (A 3) (A 4) 20 lb ∧ Sgm g mm (A 5) (A 6) 37 pr ∧ CRk g mm A len ft ∧ CRd g mm A (E n) ∧ Cl A E col n ed
def c2 (a b x : Nat) : Prop := x = a ∨ x = b
/-- how a call ends: its outcome, the class behind it; what isn't the class's stays -/
def Po (g : GG) (mm : Mm) (A : Nat → Nat) (col : Nat → Nat) (r : Ou) (tx lb pr : Sq) (n : Nat) (day : Int32) (len : Nat) (ft : Fw) (ed : Nat → Edd) : Ou → Mm → Prop := fun o m' => o = r ∧ ∃ E' col', CR g m' A E' col' tx lb pr n day len ft ed ∧ Fr (fun b => col b < 900) mm m' ∧ ∀ b, b ∈ mm.2 → col' b = col b
section C13
variable {g : GG} {mm m' : Mm} {A : Nat → Nat} {E : Nat → Nat → Nat} {col : Nat → Nat} {tx lb pr : Sq} {n : Nat} {day : Int32} {len : Nat} {ft : Fw} {ed : Nat → Edd} {P : Nat → Prop}
theorem EdK_f {i : Nat} (h : EdK g mm (E i) (ed i)) (hi : i < n) (hc : Cl A E col n ed) (hF : Fr (fun b => P (col b)) mm m') (hE : ∀ x, 100 ≤ x → ¬ P x) : EdK g m' (E i) (ed i) := by
  obtain ⟨h1, ⟨rf, h2a, h2b, h2c⟩, h3, h4⟩ := h
  have e : ∀ r, r < 5 → ¬ P (col (E i r)) := fun r hr => by
    rw [hc.2.1 i r (by omega) hr]
    exact hE _ (by omega)
  refine ⟨Ob_f h1 hF (e 0 (by omega)), ⟨rf, Qa_f h2a hF (e 1 (by omega)), h2b, fun j hj => ⟨(h2c j hj).1, Ob_f (h2c j hj).2 hF ?_⟩⟩, ⟨Ia_f h3.1 hF (e 2 (by omega)), Ia_f h3.2.1 hF (e 3 (by omega)), Ia_f h3.2.2 hF (e 4 (by omega))⟩, h4⟩
  show ¬ P (col (E i (5 + j)))
  rw [hc.2.2 i j hi hj]
  exact hE _ (by omega)
theorem CRo_f (h : CRo g mm A E n day ed) (hc : Cl A E col n ed) (hF : Fr (fun b => P (col b)) mm m') (h0 : ¬ P 0) (h11 : ¬ P 11) (hE : ∀ x, 100 ≤ x → ¬ P x) : CRo g m' A E n day ed := by
  obtain ⟨h1, h2, h3, h4⟩ := h
  exact ⟨Ob_f h1 hF (by rw [hc.1 0 (by omega)]; exact h0), h2, Qa_f h3 hF (by rw [hc.1 11 (by omega)]; exact h11), fun i hi => EdK_f (h4 i hi) hi hc hF hE⟩
theorem CRk_f (h : CRk g mm A len ft) (hc : Cl A E col n ed) (hF : Fr (fun b => P (col b)) mm m') (h8 : ¬ P 8) (h9 : ¬ P 9) (h10 : ¬ P 10) : CRk g m' A len ft := by
  obtain ⟨h1, h2, ⟨f, h3⟩, h4⟩ := h
  exact ⟨Ob_f h1 hF (by rw [hc.1 8 (by omega)]; exact h8), Ia_f h2 hF (by rw [hc.1 9 (by omega)]; exact h9), ⟨f, Ia_f h3 hF (by rw [hc.1 10 (by omega)]; exact h10)⟩, h4⟩
theorem CRd_f (h : CRd g mm A (E n)) (hc : Cl A E col n ed) (hF : Fr (fun b => P (col b)) mm m') (h7 : ¬ P 7) (hE : ∀ x, 100 ≤ x → ¬ P x) : CRd g m' A (E n) := by
  obtain ⟨⟨p, lk, h1⟩, ⟨k, q, d, h2⟩, ⟨rf, h3⟩, f1, f2, f3, h4⟩ := h
  have e : ∀ r, r < 5 → ¬ P (col (E n r)) := fun r hr => by
    rw [hc.2.1 n r (Nat.le_refl _) hr]
    exact hE _ (by omega)
  exact ⟨⟨p, lk, Ob_f h1 hF (by rw [hc.1 7 (by omega)]; exact h7)⟩, ⟨k, q, d, Ob_f h2 hF (e 0 (by omega))⟩, ⟨rf, Qa_f h3 hF (e 1 (by omega))⟩, f1, f2, f3, Ia_f h4.1 hF (e 2 (by omega)), Ia_f h4.2.1 hF (e 3 (by omega)), Ia_f h4.2.2 hF (e 4 (by omega))⟩
theorem SgC_f {r : Nat} {k : Nat} {s : Sq} (h : Sgm g mm (A r) (A (r + 1)) k s) (hr : r + 1 < 12) (hc : Cl A E col n ed) (hF : Fr (fun b => P (col b)) mm m') (h1 : ¬ P r) (h2 : ¬ P (r + 1)) : Sgm g m' (A r) (A (r + 1)) k s := Sgm_f h hF (by rw [hc.1 r (by omega)]; exact h1) (by rw [hc.1 (r + 1) hr]; exact h2)
theorem Po_same (h : CR g mm A E col tx lb pr n day len ft ed) (r : Ou) : Po g mm A col r tx lb pr n day len ft ed r mm := ⟨rfl, E, col, h, Fr_rf, fun _ _ => rfl⟩
theorem Fr_sg {a r k : Nat} {s : Sq} {S : Nat → Prop} (h1 : S a) (h2 : S r) : Fr S mm (sgUp g mm a r k s) := Fr_up (Fr_up Fr_rf h2) h1
theorem Po_of {r : Ou} {tx' lb' pr' : Sq} {n' : Nat} {day' : Int32} {len' : Nat} {ft' : Fw} (h : CR g m' A E col tx' lb' pr' n' day' len' ft' ed) (hF : Fr (fun b => P (col b)) mm m') (hP : ∀ x, P x → x < 900) : Po g mm A col r tx' lb' pr' n' day' len' ft' ed r m' := ⟨rfl, E, col, h, Fr_mono hF (fun b z => hP _ z), fun _ _ => rfl⟩
/-- one of the three rows of signs changes -/
theorem Po_tx (h : CR g mm A E col tx lb pr n day len ft ed) (r : Ou) {s : Sq} (hs : s.2 ≤ 500) : Po g mm A col r s lb pr n day len ft ed r (sgUp g mm (A 1) (A 2) 500 s) := by
  obtain ⟨h1, h2, h3, h4, h5, h6, h7⟩ := h
  have hF : Fr (fun b => c2 1 2 (col b)) mm (sgUp g mm (A 1) (A 2) 500 s) := Fr_sg (Or.inl (h7.1 1 (by omega))) (Or.inr (h7.1 2 (by omega)))
  exact Po_of ⟨CRo_f h1 h7 hF (by first | (unfold c2; omega) | (intro x hx; unfold c2; omega) | (intro x hx; unfold c2 at hx; omega) | omega) (by first | (unfold c2; omega) | (intro x hx; unfold c2; omega) | (intro x hx; unfold c2 at hx; omega) | omega) (by first | (unfold c2; omega) | (intro x hx; unfold c2; omega) | (intro x hx; unfold c2 at hx; omega) | omega), h2.up hs, SgC_f h3 (by first | (unfold c2; omega) | (intro x hx; unfold c2; omega) | (intro x hx; unfold c2 at hx; omega) | omega) h7 hF (by first | (unfold c2; omega) | (intro x hx; unfold c2; omega) | (intro x hx; unfold c2 at hx; omega) | omega) (by first | (unfold c2; omega) | (intro x hx; unfold c2; omega) | (intro x hx; unfold c2 at hx; omega) | omega), SgC_f h4 (by first | (unfold c2; omega) | (intro x hx; unfold c2; omega) | (intro x hx; unfold c2 at hx; omega) | omega) h7 hF (by first | (unfold c2; omega) | (intro x hx; unfold c2; omega) | (intro x hx; unfold c2 at hx; omega) | omega) (by first | (unfold c2; omega) | (intro x hx; unfold c2; omega) | (intro x hx; unfold c2 at hx; omega) | omega), CRk_f h5 h7 hF (by first | (unfold c2; omega) | (intro x hx; unfold c2; omega) | (intro x hx; unfold c2 at hx; omega) | omega) (by first | (unfold c2; omega) | (intro x hx; unfold c2; omega) | (intro x hx; unfold c2 at hx; omega) | omega) (by first | (unfold c2; omega) | (intro x hx; unfold c2; omega) | (intro x hx; unfold c2 at hx; omega) | omega), CRd_f h6 h7 hF (by first | (unfold c2; omega) | (intro x hx; unfold c2; omega) | (intro x hx; unfold c2 at hx; omega) | omega) (by first | (unfold c2; omega) | (intro x hx; unfold c2; omega) | (intro x hx; unfold c2 at hx; omega) | omega), h7⟩ hF (by first | (unfold c2; omega) | (intro x hx; unfold c2; omega) | (intro x hx; unfold c2 at hx; omega) | omega)
theorem Po_lb (h : CR g mm A E col tx lb pr n day len ft ed) (r : Ou) {s : Sq} (hs : s.2 ≤ 20) : Po g mm A col r tx s pr n day len ft ed r (sgUp g mm (A 3) (A 4) 20 s) := by
  obtain ⟨h1, h2, h3, h4, h5, h6, h7⟩ := h
  have hF : Fr (fun b => c2 3 4 (col b)) mm (sgUp g mm (A 3) (A 4) 20 s) := Fr_sg (Or.inl (h7.1 3 (by omega))) (Or.inr (h7.1 4 (by omega)))
  exact Po_of ⟨CRo_f h1 h7 hF (by first | (unfold c2; omega) | (intro x hx; unfold c2; omega) | (intro x hx; unfold c2 at hx; omega) | omega) (by first | (unfold c2; omega) | (intro x hx; unfold c2; omega) | (intro x hx; unfold c2 at hx; omega) | omega) (by first | (unfold c2; omega) | (intro x hx; unfold c2; omega) | (intro x hx; unfold c2 at hx; omega) | omega), SgC_f h2 (by first | (unfold c2; omega) | (intro x hx; unfold c2; omega) | (intro x hx; unfold c2 at hx; omega) | omega) h7 hF (by first | (unfold c2; omega) | (intro x hx; unfold c2; omega) | (intro x hx; unfold c2 at hx; omega) | omega) (by first | (unfold c2; omega) | (intro x hx; unfold c2; omega) | (intro x hx; unfold c2 at hx; omega) | omega), h3.up hs, SgC_f h4 (by first | (unfold c2; omega) | (intro x hx; unfold c2; omega) | (intro x hx; unfold c2 at hx; omega) | omega) h7 hF (by first | (unfold c2; omega) | (intro x hx; unfold c2; omega) | (intro x hx; unfold c2 at hx; omega) | omega) (by first | (unfold c2; omega) | (intro x hx; unfold c2; omega) | (intro x hx; unfold c2 at hx; omega) | omega), CRk_f h5 h7 hF (by first | (unfold c2; omega) | (intro x hx; unfold c2; omega) | (intro x hx; unfold c2 at hx; omega) | omega) (by first | (unfold c2; omega) | (intro x hx; unfold c2; omega) | (intro x hx; unfold c2 at hx; omega) | omega) (by first | (unfold c2; omega) | (intro x hx; unfold c2; omega) | (intro x hx; unfold c2 at hx; omega) | omega), CRd_f h6 h7 hF (by first | (unfold c2; omega) | (intro x hx; unfold c2; omega) | (intro x hx; unfold c2 at hx; omega) | omega) (by first | (unfold c2; omega) | (intro x hx; unfold c2; omega) | (intro x hx; unfold c2 at hx; omega) | omega), h7⟩ hF (by first | (unfold c2; omega) | (intro x hx; unfold c2; omega) | (intro x hx; unfold c2 at hx; omega) | omega)
theorem Po_pr (h : CR g mm A E col tx lb pr n day len ft ed) (r : Ou) {s : Sq} (hs : s.2 ≤ 37) : Po g mm A col r tx lb s n day len ft ed r (sgUp g mm (A 5) (A 6) 37 s) := by
  obtain ⟨h1, h2, h3, h4, h5, h6, h7⟩ := h
  have hF : Fr (fun b => c2 5 6 (col b)) mm (sgUp g mm (A 5) (A 6) 37 s) := Fr_sg (Or.inl (h7.1 5 (by omega))) (Or.inr (h7.1 6 (by omega)))
  exact Po_of ⟨CRo_f h1 h7 hF (by first | (unfold c2; omega) | (intro x hx; unfold c2; omega) | (intro x hx; unfold c2 at hx; omega) | omega) (by first | (unfold c2; omega) | (intro x hx; unfold c2; omega) | (intro x hx; unfold c2 at hx; omega) | omega) (by first | (unfold c2; omega) | (intro x hx; unfold c2; omega) | (intro x hx; unfold c2 at hx; omega) | omega), SgC_f h2 (by first | (unfold c2; omega) | (intro x hx; unfold c2; omega) | (intro x hx; unfold c2 at hx; omega) | omega) h7 hF (by first | (unfold c2; omega) | (intro x hx; unfold c2; omega) | (intro x hx; unfold c2 at hx; omega) | omega) (by first | (unfold c2; omega) | (intro x hx; unfold c2; omega) | (intro x hx; unfold c2 at hx; omega) | omega), SgC_f h3 (by first | (unfold c2; omega) | (intro x hx; unfold c2; omega) | (intro x hx; unfold c2 at hx; omega) | omega) h7 hF (by first | (unfold c2; omega) | (intro x hx; unfold c2; omega) | (intro x hx; unfold c2 at hx; omega) | omega) (by first | (unfold c2; omega) | (intro x hx; unfold c2; omega) | (intro x hx; unfold c2 at hx; omega) | omega), h4.up hs, CRk_f h5 h7 hF (by first | (unfold c2; omega) | (intro x hx; unfold c2; omega) | (intro x hx; unfold c2 at hx; omega) | omega) (by first | (unfold c2; omega) | (intro x hx; unfold c2; omega) | (intro x hx; unfold c2 at hx; omega) | omega) (by first | (unfold c2; omega) | (intro x hx; unfold c2; omega) | (intro x hx; unfold c2 at hx; omega) | omega), CRd_f h6 h7 hF (by first | (unfold c2; omega) | (intro x hx; unfold c2; omega) | (intro x hx; unfold c2 at hx; omega) | omega) (by first | (unfold c2; omega) | (intro x hx; unfold c2; omega) | (intro x hx; unfold c2 at hx; omega) | omega), h7⟩ hF (by first | (unfold c2; omega) | (intro x hx; unfold c2; omega) | (intro x hx; unfold c2 at hx; omega) | omega)
/-- outcomes -/
def signO (tx : Sq) (c : Int32) : Ou := if ¬ c = 10 ∧ wi c 32 126 = false then eIA else if tx.2 < 500 then .inl none else eUO
theorem c_T_sign (hg : GO g) (h : CR g mm A E col tx lb pr n day len ft ed) (c : Int32) : CT g m_T_sign 6 90 1 6 [.ref (A 0), .int c] mm (Po g mm A col (signO tx c) (if ¬ c = 10 ∧ wi c 32 126 = false then tx else apN 500 tx c) lb pr n day len ft ed) := by
  have h1 := h.1.1
  have h2 := h.2.1.1
  have k : (¬ c = 10 ∧ wi c 32 126 = false) ∨ ¬ (¬ c = 10 ∧ wi c 32 126 = false) := Classical.em _
  -- behind the first test
  have key : ¬ (¬ c = 10 ∧ wi c 32 126 = false) → V g m_T_sign 6 90 1 6 23 [(0, .ref (A 0)), (1, .int c)] [] mm (Po g mm A col (signO tx c) (if ¬ c = 10 ∧ wi c 32 126 = false then tx else apN 500 tx c) lb pr n day len ft ed) := by
    intro hc
    unfold signO
    rw [if_neg hc, if_neg hc]
    first | refine V_aload_n d_T_sign_23 rfl rfl ?_ | refine V_aloadN_n d_T_sign_23 rfl rfl ?_
    refine Vget fl_T_14 d_T_sign_24 (by repeat first | assumption | apply Ob_s | apply Ob_n) rfl ?_
    refine V_iload_n d_T_sign_27 rfl rfl ?_
    refine VcallV cb_G_append mv_T_57 rfl (ci := 4) rfl rfl d_T_sign_28 (c_G_append hg h.2.1 c) ⟨by decide, by decide⟩ rfl (by repeat first | assumption | apply Ob_s | apply Ob_n) rfl (Nat.le_of_ble_eq_true rfl) (fun _ _ h => nomatch h.1) (fun v m2 hR => ?_)
    obtain ⟨hv9, e9⟩ := hR
    cases hv9
    subst m2
    refine V_if_ne (tgt := 44) d_T_sign_31 (by decide) (fun h_31 => ?_) (fun h_31 => ?_)
    · have e : tx.2 < 500 := of_decide_eq_true (bi_ne0.mp h_31)
      rw [if_pos e]
      exact V_vret d_T_sign_44 rfl (Po_tx h _ (apN_le h.2.1.2.2.1))
    · have e : ¬ tx.2 < 500 := of_decide_eq_false (bi_eq0.mp h_31)
      rw [if_neg e]
      exact V_throw th_T_62 rfl d_T_sign_34 d_T_sign_37 d_T_sign_38 d_T_sign_40 d_T_sign_43 ⟨by decide, by decide⟩ (Nat.le_of_ble_eq_true rfl) (Po_tx h eUO (apN_le h.2.1.2.2.1))
  refine CT_go (lo := [(0, .ref (A 0)), (1, .int c)]) rfl rfl rfl rfl hg ?_
  refine V_iload_n d_T_sign_0 rfl rfl ?_
  refine V_bipush (v := 10) d_T_sign_1 (by decide) ?_
  refine V_icmp_eq (tgt := 23) d_T_sign_3 (by decide) (fun h_3 => ?_) (fun h_3 => ?_)
  · exact key (fun z => z.1 h_3)
  · refine V_iload_n d_T_sign_6 rfl rfl ?_
    refine V_callS cb_T_isPlain ms_T_46 rfl rfl d_T_sign_7 (c_T_isPlain hg _ c) ⟨by decide, by decide⟩ rfl rfl (Nat.le_of_ble_eq_true rfl) (fun _ _ h => nomatch h.1) (fun v m2 hR => ?_)
    obtain ⟨hv9, e9⟩ := hR
    cases hv9
    subst m2
    refine V_if_ne (tgt := 23) d_T_sign_10 (by decide) (fun h_10 => ?_) (fun h_10 => ?_)
    · rw [bi_ne0] at h_10
      exact key (fun z => by rw [h_10] at z; exact absurd z.2 (by decide))
    · have e : wi c 32 126 = false := bi_eq0.mp h_10
      unfold signO
      rw [if_pos ⟨h_3, e⟩, if_pos ⟨h_3, e⟩]
      exact V_throw th_T_52 rfl d_T_sign_13 d_T_sign_16 d_T_sign_17 d_T_sign_19 d_T_sign_22 ⟨by decide, by decide⟩ (Nat.le_of_ble_eq_true rfl) (Po_same h eIA)
def numO (lb : Sq) (c : Int32) : Ou := if wi c 32 126 = false then eIA else if lb.2 < 20 then .inl none else eUO
theorem c_T_number (hg : GO g) (h : CR g mm A E col tx lb pr n day len ft ed) (c : Int32) : CT g m_T_number 6 90 1 6 [.ref (A 0), .int c] mm (Po g mm A col (numO lb c) tx (if wi c 32 126 = false then lb else apN 20 lb c) pr n day len ft ed) := by
  have h1 := h.1.1
  have h2 := h.2.2.1.1
  unfold numO
  refine CT_go (lo := [(0, .ref (A 0)), (1, .int c)]) rfl rfl rfl rfl hg ?_
  refine V_iload_n d_T_number_0 rfl rfl ?_
  refine V_callS cb_T_isPlain ms_T_46 rfl rfl d_T_number_1 (c_T_isPlain hg _ c) ⟨by decide, by decide⟩ rfl rfl (Nat.le_of_ble_eq_true rfl) (fun _ _ h => nomatch h.1) (fun v m2 hR => ?_)
  obtain ⟨hv9, e9⟩ := hR
  cases hv9
  subst m2
  refine V_if_ne (tgt := 17) d_T_number_4 (by decide) (fun h_4 => ?_) (fun h_4 => ?_)
  · rw [bi_ne0] at h_4
    have hw : ¬ wi c 32 126 = false := by rw [h_4]; decide
    rw [if_neg hw, if_neg hw]
    first | refine V_aload_n d_T_number_17 rfl rfl ?_ | refine V_aloadN_n d_T_number_17 rfl rfl ?_
    refine Vget fl_T_18 d_T_number_18 (by repeat first | assumption | apply Ob_s | apply Ob_n) rfl ?_
    refine V_iload_n d_T_number_21 rfl rfl ?_
    refine VcallV cb_G_append mv_T_57 rfl (ci := 4) rfl rfl d_T_number_22 (c_G_append hg h.2.2.1 c) ⟨by decide, by decide⟩ rfl (by repeat first | assumption | apply Ob_s | apply Ob_n) rfl (Nat.le_of_ble_eq_true rfl) (fun _ _ h => nomatch h.1) (fun v m2 hR => ?_)
    obtain ⟨hv9, e9⟩ := hR
    cases hv9
    subst m2
    refine V_if_ne (tgt := 38) d_T_number_25 (by decide) (fun h_25 => ?_) (fun h_25 => ?_)
    · have e : lb.2 < 20 := of_decide_eq_true (bi_ne0.mp h_25)
      rw [if_pos e]
      exact V_vret d_T_number_38 rfl (Po_lb h _ (apN_le h.2.2.1.2.2.1))
    · have e : ¬ lb.2 < 20 := of_decide_eq_false (bi_eq0.mp h_25)
      rw [if_neg e]
      exact V_throw th_T_200 rfl d_T_number_28 d_T_number_31 d_T_number_32 d_T_number_34 d_T_number_37 ⟨by decide, by decide⟩ (Nat.le_of_ble_eq_true rfl) (Po_lb h eUO (apN_le h.2.2.1.2.2.1))
  · have e : wi c 32 126 = false := bi_eq0.mp h_4
    rw [if_pos e, if_pos e]
    exact V_throw th_T_198 rfl d_T_number_7 d_T_number_10 d_T_number_11 d_T_number_13 d_T_number_16 ⟨by decide, by decide⟩ (Nat.le_of_ble_eq_true rfl) (Po_same h eIA)
def outO (pr : Sq) (i : Int32) : Ou := if sAt pr i < 0 then eIA else oI (sAt pr i)
theorem c_T_out (hg : GO g) (h : CR g mm A E col tx lb pr n day len ft ed) (i : Int32) : CT g m_T_out 6 90 1 6 [.ref (A 0), .int i] mm (Po g mm A col (outO pr i) tx lb pr n day len ft ed) := by
  have h1 := h.1.1
  have h2 := h.2.2.2.1.1
  unfold outO
  refine CT_go (lo := [(0, .ref (A 0)), (1, .int i)]) rfl rfl rfl rfl hg ?_
  first | refine V_aload_n d_T_out_0 rfl rfl ?_ | refine V_aloadN_n d_T_out_0 rfl rfl ?_
  refine Vget fl_T_21 d_T_out_1 (by repeat first | assumption | apply Ob_s | apply Ob_n) rfl ?_
  refine V_iload_n d_T_out_4 rfl rfl ?_
  refine VcallV cb_G_signAt mv_T_193 rfl (ci := 4) rfl rfl d_T_out_5 (c_G_signAt hg h.2.2.2.1 i) ⟨by decide, by decide⟩ rfl (by repeat first | assumption | apply Ob_s | apply Ob_n) rfl (Nat.le_of_ble_eq_true rfl) (fun _ _ h => nomatch h.1) (fun v m2 hR => ?_)
  obtain ⟨hv9, e9⟩ := hR
  cases hv9
  subst m2
  refine V_istore_n d_T_out_8 rfl rfl ?_
  refine V_iload_n d_T_out_9 rfl rfl ?_
  refine V_if_ge (tgt := 23) d_T_out_10 (by decide) (fun h_10 => ?_) (fun h_10 => ?_)
  · refine V_iload_n d_T_out_23 rfl rfl ?_
    rw [if_neg (i_le_lt h_10)]
    exact V_iret d_T_out_24 rfl rfl (Po_same h _)
  · rw [if_pos (i_nle h_10)]
    exact V_throw th_T_196 rfl d_T_out_13 d_T_out_16 d_T_out_17 d_T_out_19 d_T_out_22 ⟨by decide, by decide⟩ (Nat.le_of_ble_eq_true rfl) (Po_same h eIA)
theorem c_T_at (hg : GO g) (h : CR g mm A E col tx lb pr n day len ft ed) (i : Int32) : CT g m_T_at 1 21 0 0 [.ref (A 0), .int i] mm (Po g mm A col (oI (sAt (ft, len) i)) tx lb pr n day len ft ed) := by
  have h1 := h.1.1
  obtain ⟨h2, h3, h4, h5⟩ := h.2.2.2.2.1
  refine CT_go (lo := [(0, .ref (A 0)), (1, .int i)]) rfl rfl rfl rfl hg ?_
  first | refine V_aload_n d_T_at_0 rfl rfl ?_ | refine V_aloadN_n d_T_at_0 rfl rfl ?_
  refine Vget fl_T_36 d_T_at_1 (by repeat first | assumption | apply Ob_s | apply Ob_n) rfl ?_
  refine V_iload_n d_T_at_4 rfl rfl ?_
  refine VcallV cb_K_letterAt mv_T_145 rfl (ci := 1) rfl rfl d_T_at_5 (c_K_letterAt hg h2 h3 h5 i) ⟨by decide, by decide⟩ rfl (by repeat first | assumption | apply Ob_s | apply Ob_n) rfl (Nat.le_of_ble_eq_true rfl) (fun _ _ h => nomatch h.1) (fun v m2 hR => ?_)
  obtain ⟨hv9, e9⟩ := hR
  cases hv9
  subst m2
  exact V_iret d_T_at_8 rfl rfl (Po_same h _)
/-- the ranking is empty; the day may be another -/
theorem Po_dk (h : CR g mm A E col tx lb pr n day len ft ed) (r : Ou) (day' : Int32) : Po g mm A col r tx lb pr n day' 0 ft ed r (up (up mm (A 0) (.inr (5, ctL A n day'))) (A 8) (.inr (1, [.ref (A 9), .ref (A 10), .int 0]))) := by
  obtain ⟨h1, h2, h3, h4, h5, h6, h7⟩ := h
  have hF0 : Fr (fun b => c2 0 0 (col b)) mm (up mm (A 0) (.inr (5, ctL A n day'))) := Fr_up Fr_rf (Or.inl (h7.1 0 (by omega)))
  have q1 : CRo g (up mm (A 0) (.inr (5, ctL A n day'))) A E n day' ed := ⟨Ob_s h1.1, h1.2.1, Qa_n h1.2.2.1 (Ne.symm (Ob_neQ h1.1 h1.2.2.1)), fun i hi => EdK_f (h1.2.2.2 i hi) hi h7 hF0 (by first | (unfold c2; omega) | (intro x hx; unfold c2; omega) | (intro x hx; unfold c2 at hx; omega) | omega)⟩
  have hF1 : Fr (fun b => c2 8 8 (col b)) (up mm (A 0) (.inr (5, ctL A n day'))) (up (up mm (A 0) (.inr (5, ctL A n day'))) (A 8) (.inr (1, [.ref (A 9), .ref (A 10), .int 0]))) := Fr_up Fr_rf (Or.inl (h7.1 8 (by omega)))
  have hF : Fr (fun b => c2 0 8 (col b)) mm (up (up mm (A 0) (.inr (5, ctL A n day'))) (A 8) (.inr (1, [.ref (A 9), .ref (A 10), .int 0]))) := Fr_up (Fr_up Fr_rf (Or.inl (h7.1 0 (by omega)))) (Or.inr (h7.1 8 (by omega)))
  obtain ⟨r1, r2, ⟨f, r3⟩, r4⟩ := h5
  have n8 : A 8 ≠ A 0 := Ob_neC r1 h1.1 (by decide)
  exact Po_of ⟨CRo_f q1 h7 hF1 (by first | (unfold c2; omega) | (intro x hx; unfold c2; omega) | (intro x hx; unfold c2 at hx; omega) | omega) (by first | (unfold c2; omega) | (intro x hx; unfold c2; omega) | (intro x hx; unfold c2 at hx; omega) | omega) (by first | (unfold c2; omega) | (intro x hx; unfold c2; omega) | (intro x hx; unfold c2 at hx; omega) | omega), SgC_f h2 (by first | (unfold c2; omega) | (intro x hx; unfold c2; omega) | (intro x hx; unfold c2 at hx; omega) | omega) h7 hF (by first | (unfold c2; omega) | (intro x hx; unfold c2; omega) | (intro x hx; unfold c2 at hx; omega) | omega) (by first | (unfold c2; omega) | (intro x hx; unfold c2; omega) | (intro x hx; unfold c2 at hx; omega) | omega), SgC_f h3 (by first | (unfold c2; omega) | (intro x hx; unfold c2; omega) | (intro x hx; unfold c2 at hx; omega) | omega) h7 hF (by first | (unfold c2; omega) | (intro x hx; unfold c2; omega) | (intro x hx; unfold c2 at hx; omega) | omega) (by first | (unfold c2; omega) | (intro x hx; unfold c2; omega) | (intro x hx; unfold c2 at hx; omega) | omega), SgC_f h4 (by first | (unfold c2; omega) | (intro x hx; unfold c2; omega) | (intro x hx; unfold c2 at hx; omega) | omega) h7 hF (by first | (unfold c2; omega) | (intro x hx; unfold c2; omega) | (intro x hx; unfold c2 at hx; omega) | omega) (by first | (unfold c2; omega) | (intro x hx; unfold c2; omega) | (intro x hx; unfold c2 at hx; omega) | omega), ⟨Ob_s (Ob_n r1 n8), Ia_f r2 hF (by rw [h7.1 9 (by omega)]; unfold c2; omega), ⟨f, Ia_f r3 hF (by rw [h7.1 10 (by omega)]; unfold c2; omega)⟩, Nat.zero_le _⟩, CRd_f h6 h7 hF (by first | (unfold c2; omega) | (intro x hx; unfold c2; omega) | (intro x hx; unfold c2 at hx; omega) | omega) (by first | (unfold c2; omega) | (intro x hx; unfold c2; omega) | (intro x hx; unfold c2 at hx; omega) | omega), h7⟩ hF (by first | (unfold c2; omega) | (intro x hx; unfold c2; omega) | (intro x hx; unfold c2 at hx; omega) | omega)
def todO (ed : Nat → Edd) (n : Nat) (d : Int32) : Ou := if wi d 0 1000 = false then eIA else oI (nO (acA ed n d))
theorem c_T_today (hg : GO g) (h : CR g mm A E col tx lb pr n day len ft ed) (d : Int32) : CT g m_T_today 6 90 1 6 [.ref (A 0), .int d] mm (Po g mm A col (todO ed n d) tx lb pr n (if wi d 0 1000 = false then day else d) (if wi d 0 1000 = false then len else 0) ft ed) := by
  have h1 := h.1.1
  have h2 := h.2.2.2.2.1.1
  unfold todO
  refine CT_go (lo := [(0, .ref (A 0)), (1, .int d)]) rfl rfl rfl rfl hg ?_
  refine V_iload_n d_T_today_0 rfl rfl ?_
  refine V_iconst (v := 0) d_T_today_1 (by decide) ?_
  refine V_sipush (v := 1000) d_T_today_2 (by decide) ?_
  refine V_callS cb_T_isWithin ms_T_65 rfl rfl d_T_today_5 (c_T_isWithin hg _ d 0 1000) ⟨by decide, by decide⟩ rfl rfl (Nat.le_of_ble_eq_true rfl) (fun _ _ h => nomatch h.1) (fun v m2 hR => ?_)
  obtain ⟨hv9, e9⟩ := hR
  cases hv9
  subst m2
  refine V_if_ne (tgt := 21) d_T_today_8 (by decide) (fun h_8 => ?_) (fun h_8 => ?_)
  · rw [bi_ne0] at h_8
    rw [if_neg (by rw [h_8]; decide), if_neg (by rw [h_8]; decide), if_neg (by rw [h_8]; decide)]
    first | refine V_aload_n d_T_today_21 rfl rfl ?_ | refine V_aloadN_n d_T_today_21 rfl rfl ?_
    refine V_iload_n d_T_today_22 rfl rfl ?_
    refine Vput pl_T_102 d_T_today_23 (by repeat first | assumption | apply Ob_s | apply Ob_n) rfl rfl (Nat.le_of_ble_eq_true rfl) ?_
    refine ek_v (P := fun z => V g m_T_today 6 90 _ _ _ _ _ z _) (show _ = up mm (A 0) (.inr (5, ctL A n d)) from rfl) ?_
    have h3 := Ob_s (ci := 5) (fs := ctL A n d) h1
    have n8 : A 8 ≠ A 0 := Ob_neC h2 h1 (by decide)
    have h4 := Ob_n (e := .inr (5, ctL A n d)) h2 n8
    first | refine V_aload_n d_T_today_26 rfl rfl ?_ | refine V_aloadN_n d_T_today_26 rfl rfl ?_
    refine Vget fl_T_36 d_T_today_27 (by repeat first | assumption | apply Ob_s | apply Ob_n) rfl ?_
    refine VcallV cb_K_clear mv_T_105 rfl (ci := 1) rfl rfl d_T_today_30 (c_K_clear hg h4) ⟨by decide, by decide⟩ rfl (by repeat first | assumption | apply Ob_s | apply Ob_n) rfl (Nat.le_of_ble_eq_true rfl) (fun _ _ h => nomatch h.1) (fun v m2 hR => ?_)
    obtain ⟨hv9, e9⟩ := hR
    cases hv9
    subst m2
    have hP := Po_dk h (oI (nO (acA ed n d))) d
    obtain ⟨-, E', col', hC, -⟩ := hP
    have hO : CRo g (up (up mm (A 0) (.inr (5, ctL A n d))) (A 8) (.inr (1, [.ref (A 9), .ref (A 10), .int 0]))) A E n d ed := by
      have h7 := h.2.2.2.2.2.2
      have hF0 : Fr (fun b => c2 0 0 (col b)) mm (up mm (A 0) (.inr (5, ctL A n d))) := Fr_up Fr_rf (Or.inl (h7.1 0 (by omega)))
      have hF1 : Fr (fun b => c2 8 8 (col b)) (up mm (A 0) (.inr (5, ctL A n d))) (up (up mm (A 0) (.inr (5, ctL A n d))) (A 8) (.inr (1, [.ref (A 9), .ref (A 10), .int 0]))) := Fr_up Fr_rf (Or.inl (h7.1 8 (by omega)))
      exact CRo_f ⟨Ob_s h1, h.1.2.1, Qa_n h.1.2.2.1 (Ne.symm (Ob_neQ h1 h.1.2.2.1)), fun i hi => EdK_f (h.1.2.2.2 i hi) hi h7 hF0 (by first | (unfold c2; omega) | (intro x hx; unfold c2; omega) | (intro x hx; unfold c2 at hx; omega) | omega)⟩ h7 hF1 (by first | (unfold c2; omega) | (intro x hx; unfold c2; omega) | (intro x hx; unfold c2 at hx; omega) | omega) (by first | (unfold c2; omega) | (intro x hx; unfold c2; omega) | (intro x hx; unfold c2 at hx; omega) | omega) (by first | (unfold c2; omega) | (intro x hx; unfold c2; omega) | (intro x hx; unfold c2 at hx; omega) | omega)
    have h5 := hO.1
    first | refine V_aload_n d_T_today_33 rfl rfl ?_ | refine V_aloadN_n d_T_today_33 rfl rfl ?_
    refine VcallV cb_T_actingNumber mv_T_106 rfl (ci := 5) rfl rfl d_T_today_34 (c_T_actingNumber hg hO) ⟨by decide, by decide⟩ rfl (by repeat first | assumption | apply Ob_s | apply Ob_n) rfl (Nat.le_of_ble_eq_true rfl) (fun _ _ h => nomatch h.1) (fun v m2 hR => ?_)
    obtain ⟨hv9, e9⟩ := hR
    cases hv9
    subst m2
    exact V_iret d_T_today_37 rfl rfl (Po_dk h _ d)
  · have e : wi d 0 1000 = false := bi_eq0.mp h_8
    rw [if_pos e, if_pos e, if_pos e]
    exact V_throw th_T_69 rfl d_T_today_11 d_T_today_14 d_T_today_15 d_T_today_17 d_T_today_20 ⟨by decide, by decide⟩ (Nat.le_of_ble_eq_true rfl) (Po_same h eIA)
def priS (d : Edd) (w : Int32) : Option Nat → Ou
  | none => eNE
  | some j => if wi w 1 2000 = false then eIA else oI (prc (d.2.1 j) w)
def priO (ed : Nat → Edd) (c w : Int32) : Option Nat → Ou
  | none => eIS
  | some i => priS (ed i) w (fndF (ed i).2.1 c (ed i).1 0)
theorem c_T_price (hg : GO g) (h : CR g mm A E col tx lb pr n day len ft ed) (c w : Int32) : CT g m_T_price 7 111 1 6 [.ref (A 0), .int c, .int w] mm (Po g mm A col (priO ed c w (acA ed n day)) tx lb pr n day len ft ed) := by
  have h1 := h.1.1
  refine CT_go (lo := [(0, .ref (A 0)), (1, .int c), (2, .int w)]) rfl rfl rfl rfl hg ?_
  first | refine V_aload_n d_T_price_0 rfl rfl ?_ | refine V_aloadN_n d_T_price_0 rfl rfl ?_
  cases ha : acA ed n day with
  | none =>
    refine VcallV cb_T_actingEdition mv_T_115 rfl (ci := 5) rfl rfl d_T_price_1 (x_T_actingEdition hg h.1 ha) ⟨by decide, by decide⟩ rfl (by repeat first | assumption | apply Ob_s | apply Ob_n) rfl (Nat.le_of_ble_eq_true rfl) (fun E9 m9 h9 => ?_) (fun _ _ h => nomatch h.1)
    obtain ⟨h9a, e9⟩ := h9
    cases h9a
    subst m9
    exact Po_same h eIS
  | some i =>
    obtain ⟨k1, ⟨rf, k2⟩, k3, k4, k5⟩ := h.1.2.2.2 i (acA_lt ha)
    rw [priO]
    refine VcallV cb_T_actingEdition mv_T_115 rfl (ci := 5) rfl rfl d_T_price_1 (c_T_actingEdition hg h.1 ha) ⟨by decide, by decide⟩ rfl (by repeat first | assumption | apply Ob_s | apply Ob_n) rfl (Nat.le_of_ble_eq_true rfl) (fun _ _ h => nomatch h.1) (fun v m2 hR => ?_)
    obtain ⟨hv9, e9⟩ := hR
    cases hv9
    subst m2
    refine V_iload_n d_T_price_4 rfl rfl ?_
    refine VcallV cb_E_find mv_T_148 rfl (ci := 0) rfl rfl d_T_price_5 (c_E_find hg k1 k2 c) ⟨by decide, by decide⟩ rfl (by repeat first | assumption | apply Ob_s | apply Ob_n) rfl (Nat.le_of_ble_eq_true rfl) (fun _ _ h => nomatch h.1) (fun v m2 hR => ?_)
    obtain ⟨hv9, e9⟩ := hR
    cases hv9
    subst m2
    cases hf : fndF (ed i).2.1 c (ed i).1 0 with
    | none =>
      refine ek_v (P := fun z => V g m_T_price 7 111 1 6 _ _ z _ _) (show _ = [Value.null] from rfl) ?_
      refine V_callS cb_T_known ms_T_151 rfl rfl d_T_price_8 (x_T_known hg) ⟨by decide, by decide⟩ rfl rfl (Nat.le_of_ble_eq_true rfl) (fun E9 m9 h9 => ?_) (fun _ _ h => nomatch h.1)
      obtain ⟨h9a, e9⟩ := h9
      cases h9a
      subst m9
      exact Po_same h eNE
    | some j =>
      obtain ⟨-, hj, -⟩ := fndF_some hf
      have ho := (k2.2.2 j (by omega)).2
      rw [priS]
      refine ek_v (P := fun z => V g m_T_price 7 111 1 6 _ _ z _ _) (show _ = [Value.ref (E i (5 + j))] from rfl) ?_
      refine V_callS cb_T_known ms_T_151 rfl rfl d_T_price_8 (c_T_known hg _) ⟨by decide, by decide⟩ rfl rfl (Nat.le_of_ble_eq_true rfl) (fun _ _ h => nomatch h.1) (fun v m2 hR => ?_)
      obtain ⟨hv9, e9⟩ := hR
      cases hv9
      subst m2
      first | refine V_astore_n d_T_price_11 rfl rfl ?_ | refine V_astoreN_n d_T_price_11 rfl rfl ?_
      refine V_iload_n d_T_price_12 rfl rfl ?_
      refine V_callS cb_T_isWeight ms_T_110 rfl rfl d_T_price_13 (c_T_isWeight hg _ w) ⟨by decide, by decide⟩ rfl rfl (Nat.le_of_ble_eq_true rfl) (fun _ _ h => nomatch h.1) (fun v m2 hR => ?_)
      obtain ⟨hv9, e9⟩ := hR
      cases hv9
      subst m2
      refine V_if_ne (tgt := 29) d_T_price_16 (by decide) (fun h_16 => ?_) (fun h_16 => ?_)
      · rw [bi_ne0] at h_16
        rw [if_neg (by rw [h_16]; decide)]
        first | refine V_aload_n d_T_price_29 rfl rfl ?_ | refine V_aloadN_n d_T_price_29 rfl rfl ?_
        refine V_iload_n d_T_price_30 rfl rfl ?_
        refine VcallV cb_S_priceFor mv_T_134 rfl (ci := 3) rfl rfl d_T_price_31 (c_S_priceFor hg ho w) ⟨by decide, by decide⟩ rfl (by repeat first | assumption | apply Ob_s | apply Ob_n) rfl (Nat.le_of_ble_eq_true rfl) (fun _ _ h => nomatch h.1) (fun v m2 hR => ?_)
        obtain ⟨hv9, e9⟩ := hR
        cases hv9
        subst m2
        exact V_iret d_T_price_34 rfl rfl (Po_same h _)
      · have e : wi w 1 2000 = false := bi_eq0.mp h_16
        rw [if_pos e]
        exact V_throw th_T_155 rfl d_T_price_19 d_T_price_22 d_T_price_23 d_T_price_25 d_T_price_28 ⟨by decide, by decide⟩ (Nat.le_of_ble_eq_true rfl) (Po_same h eIA)
def zonO (ed : Nat → Edd) (c : Int32) : Option Nat → Ou
  | none => eIS
  | some i => oI (znF (ed i).2.2.2.1 (ed i).2.2.2.2.1 (ed i).2.2.2.2.2.1 c (min (ed i).2.2.1 8) 0)
theorem c_T_zone (hg : GO g) (h : CR g mm A E col tx lb pr n day len ft ed) (c : Int32) : CT g m_T_zone 7 111 1 6 [.ref (A 0), .int c] mm (Po g mm A col (if wi c 0 9999 = false then eIA else zonO ed c (acA ed n day)) tx lb pr n day len ft ed) := by
  have h1 := h.1.1
  refine CT_go (lo := [(0, .ref (A 0)), (1, .int c)]) rfl rfl rfl rfl hg ?_
  refine V_iload_n d_T_zone_0 rfl rfl ?_
  refine V_callS cb_T_isCode ms_T_157 rfl rfl d_T_zone_1 (c_T_isCode hg _ c) ⟨by decide, by decide⟩ rfl rfl (Nat.le_of_ble_eq_true rfl) (fun _ _ h => nomatch h.1) (fun v m2 hR => ?_)
  obtain ⟨hv9, e9⟩ := hR
  cases hv9
  subst m2
  refine V_if_ne (tgt := 17) d_T_zone_4 (by decide) (fun h_4 => ?_) (fun h_4 => ?_)
  · rw [bi_ne0] at h_4
    rw [if_neg (by rw [h_4]; decide)]
    first | refine V_aload_n d_T_zone_17 rfl rfl ?_ | refine V_aloadN_n d_T_zone_17 rfl rfl ?_
    cases ha : acA ed n day with
    | none =>
      refine VcallV cb_T_actingEdition mv_T_115 rfl (ci := 5) rfl rfl d_T_zone_18 (x_T_actingEdition hg h.1 ha) ⟨by decide, by decide⟩ rfl (by repeat first | assumption | apply Ob_s | apply Ob_n) rfl (Nat.le_of_ble_eq_true rfl) (fun E9 m9 h9 => ?_) (fun _ _ h => nomatch h.1)
      obtain ⟨h9a, e9⟩ := h9
      cases h9a
      subst m9
      exact Po_same h eIS
    | some i =>
      obtain ⟨k1, -, k3, k4, k5⟩ := h.1.2.2.2 i (acA_lt ha)
      refine VcallV cb_T_actingEdition mv_T_115 rfl (ci := 5) rfl rfl d_T_zone_18 (c_T_actingEdition hg h.1 ha) ⟨by decide, by decide⟩ rfl (by repeat first | assumption | apply Ob_s | apply Ob_n) rfl (Nat.le_of_ble_eq_true rfl) (fun _ _ h => nomatch h.1) (fun v m2 hR => ?_)
      obtain ⟨hv9, e9⟩ := hR
      cases hv9
      subst m2
      refine V_iload_n d_T_zone_21 rfl rfl ?_
      refine VcallV cb_E_zoneOf mv_T_162 rfl (ci := 0) rfl rfl d_T_zone_22 (c_E_zoneOf hg k1 k3 (by omega) c) ⟨by decide, by decide⟩ rfl (by repeat first | assumption | apply Ob_s | apply Ob_n) rfl (Nat.le_of_ble_eq_true rfl) (fun _ _ h => nomatch h.1) (fun v m2 hR => ?_)
      obtain ⟨hv9, e9⟩ := hR
      cases hv9
      subst m2
      exact V_iret d_T_zone_25 rfl rfl (Po_same h _)
  · have e : wi c 0 9999 = false := bi_eq0.mp h_4
    rw [if_pos e]
    exact V_throw th_T_160 rfl d_T_zone_7 d_T_zone_10 d_T_zone_11 d_T_zone_13 d_T_zone_16 ⟨by decide, by decide⟩ (Nat.le_of_ble_eq_true rfl) (Po_same h eIA)
def houS (d : Edd) (x : Int32) : Option Nat → Ou
  | none => eNE
  | some j => if wi x 0 23 = false then eIA else if ¬ 0 < d.2.1 j 8 then eIS else oI (bi (!decide (x < d.2.1 j 7) && !decide (d.2.1 j 8 ≤ x)))
def houO (ed : Nat → Edd) (c x : Int32) : Option Nat → Ou
  | none => eIS
  | some i => houS (ed i) x (fndF (ed i).2.1 c (ed i).1 0)
theorem c_T_hours (hg : GO g) (h : CR g mm A E col tx lb pr n day len ft ed) (c w : Int32) : CT g m_T_hours 7 111 1 6 [.ref (A 0), .int c, .int w] mm (Po g mm A col (houO ed c w (acA ed n day)) tx lb pr n day len ft ed) := by
  have h1 := h.1.1
  refine CT_go (lo := [(0, .ref (A 0)), (1, .int c), (2, .int w)]) rfl rfl rfl rfl hg ?_
  first | refine V_aload_n d_T_hours_0 rfl rfl ?_ | refine V_aloadN_n d_T_hours_0 rfl rfl ?_
  cases ha : acA ed n day with
  | none =>
    refine VcallV cb_T_actingEdition mv_T_115 rfl (ci := 5) rfl rfl d_T_hours_1 (x_T_actingEdition hg h.1 ha) ⟨by decide, by decide⟩ rfl (by repeat first | assumption | apply Ob_s | apply Ob_n) rfl (Nat.le_of_ble_eq_true rfl) (fun E9 m9 h9 => ?_) (fun _ _ h => nomatch h.1)
    obtain ⟨h9a, e9⟩ := h9
    cases h9a
    subst m9
    exact Po_same h eIS
  | some i =>
    obtain ⟨k1, ⟨rf, k2⟩, k3, k4, k5⟩ := h.1.2.2.2 i (acA_lt ha)
    rw [houO]
    refine VcallV cb_T_actingEdition mv_T_115 rfl (ci := 5) rfl rfl d_T_hours_1 (c_T_actingEdition hg h.1 ha) ⟨by decide, by decide⟩ rfl (by repeat first | assumption | apply Ob_s | apply Ob_n) rfl (Nat.le_of_ble_eq_true rfl) (fun _ _ h => nomatch h.1) (fun v m2 hR => ?_)
    obtain ⟨hv9, e9⟩ := hR
    cases hv9
    subst m2
    refine V_iload_n d_T_hours_4 rfl rfl ?_
    refine VcallV cb_E_find mv_T_148 rfl (ci := 0) rfl rfl d_T_hours_5 (c_E_find hg k1 k2 c) ⟨by decide, by decide⟩ rfl (by repeat first | assumption | apply Ob_s | apply Ob_n) rfl (Nat.le_of_ble_eq_true rfl) (fun _ _ h => nomatch h.1) (fun v m2 hR => ?_)
    obtain ⟨hv9, e9⟩ := hR
    cases hv9
    subst m2
    cases hf : fndF (ed i).2.1 c (ed i).1 0 with
    | none =>
      refine ek_v (P := fun z => V g m_T_hours 7 111 1 6 _ _ z _ _) (show _ = [Value.null] from rfl) ?_
      refine V_callS cb_T_known ms_T_151 rfl rfl d_T_hours_8 (x_T_known hg) ⟨by decide, by decide⟩ rfl rfl (Nat.le_of_ble_eq_true rfl) (fun E9 m9 h9 => ?_) (fun _ _ h => nomatch h.1)
      obtain ⟨h9a, e9⟩ := h9
      cases h9a
      subst m9
      exact Po_same h eNE
    | some j =>
      obtain ⟨-, hj, -⟩ := fndF_some hf
      have ho := (k2.2.2 j (by omega)).2
      rw [houS]
      refine ek_v (P := fun z => V g m_T_hours 7 111 1 6 _ _ z _ _) (show _ = [Value.ref (E i (5 + j))] from rfl) ?_
      refine V_callS cb_T_known ms_T_151 rfl rfl d_T_hours_8 (c_T_known hg _) ⟨by decide, by decide⟩ rfl rfl (Nat.le_of_ble_eq_true rfl) (fun _ _ h => nomatch h.1) (fun v m2 hR => ?_)
      obtain ⟨hv9, e9⟩ := hR
      cases hv9
      subst m2
      first | refine V_astore_n d_T_hours_11 rfl rfl ?_ | refine V_astoreN_n d_T_hours_11 rfl rfl ?_
      refine V_iload_n d_T_hours_12 rfl rfl ?_
      refine V_iconst (v := 0) d_T_hours_13 (by decide) ?_
      refine V_bipush (v := 23) d_T_hours_14 (by decide) ?_
      refine V_callS cb_T_isWithin ms_T_65 rfl rfl d_T_hours_16 (c_T_isWithin hg _ w 0 23) ⟨by decide, by decide⟩ rfl rfl (Nat.le_of_ble_eq_true rfl) (fun _ _ h => nomatch h.1) (fun v m2 hR => ?_)
      obtain ⟨hv9, e9⟩ := hR
      cases hv9
      subst m2
      refine V_if_ne (tgt := 32) d_T_hours_19 (by decide) (fun h_19 => ?_) (fun h_19 => ?_)
      · rw [bi_ne0] at h_19
        rw [if_neg (by rw [h_19]; decide)]
        first | refine V_aload_n d_T_hours_32 rfl rfl ?_ | refine V_aloadN_n d_T_hours_32 rfl rfl ?_
        refine VcallV cb_S_hasHours mv_T_167 rfl (ci := 3) rfl rfl d_T_hours_33 (c_S_hasHours hg ho) ⟨by decide, by decide⟩ rfl (by repeat first | assumption | apply Ob_s | apply Ob_n) rfl (Nat.le_of_ble_eq_true rfl) (fun _ _ h => nomatch h.1) (fun v m2 hR => ?_)
        obtain ⟨hv9, e9⟩ := hR
        cases hv9
        subst m2
        refine V_if_ne (tgt := 49) d_T_hours_36 (by decide) (fun h_36 => ?_) (fun h_36 => ?_)
        · have e : 0 < (ed i).2.1 j 8 := of_decide_eq_true (bi_ne0.mp h_36)
          rw [if_neg (fun z => z e)]
          first | refine V_aload_n d_T_hours_49 rfl rfl ?_ | refine V_aloadN_n d_T_hours_49 rfl rfl ?_
          refine V_iload_n d_T_hours_50 rfl rfl ?_
          refine VcallV cb_S_picksUpIn mv_T_175 rfl (ci := 3) rfl rfl d_T_hours_51 (c_S_picksUpIn hg ho w) ⟨by decide, by decide⟩ rfl (by repeat first | assumption | apply Ob_s | apply Ob_n) rfl (Nat.le_of_ble_eq_true rfl) (fun _ _ h => nomatch h.1) (fun v m2 hR => ?_)
          obtain ⟨hv9, e9⟩ := hR
          cases hv9
          subst m2
          exact V_iret d_T_hours_54 rfl (bi_nz _) (Po_same h _)
        · have e : ¬ 0 < (ed i).2.1 j 8 := of_decide_eq_false (bi_eq0.mp h_36)
          rw [if_pos e]
          exact V_throw th_T_172 rfl d_T_hours_39 d_T_hours_42 d_T_hours_43 d_T_hours_45 d_T_hours_48 ⟨by decide, by decide⟩ (Nat.le_of_ble_eq_true rfl) (Po_same h eIS)
      · have e : wi w 0 23 = false := bi_eq0.mp h_19
        rw [if_pos e]
        exact V_throw th_T_165 rfl d_T_hours_22 d_T_hours_25 d_T_hours_26 d_T_hours_28 d_T_hours_31 ⟨by decide, by decide⟩ (Nat.le_of_ble_eq_true rfl) (Po_same h eIA)
end C13
