/-! read -/
def ixF (sv : Nat → Nat) : Nat → Nat → Nat
  | 0, _ => 0
  | k + 1, b => if sv k = b then k else ixF sv k b
theorem ixF_at {sv : Nat → Nat} : ∀ {k j : Nat}, (∀ i j, i < k → j < k → sv i = sv j → i = j) → j < k → ixF sv k (sv j) = j
  | 0, j, _, hj => absurd hj (Nat.not_lt_zero j)
  | k + 1, j, h, hj => by
    unfold ixF
    by_cases e : sv k = sv j
    · rw [if_pos e]
      exact h k j (by omega) hj e
    · rw [if_neg e]
      exact ixF_at (fun a b ha hb => h a b (by omega) (by omega)) (by
        rcases Nat.lt_or_ge j k with q | q
        · exact q
        · exact absurd (by rw [show j = k by omega]) e)
/-- what a kept draft is -/
def edN (D : Dst) (dy : Int32) : Edd := (D.1, D.2.1, D.2.2.1, D.2.2.2.1, D.2.2.2.2.1, D.2.2.2.2.2.1, dy)
def edU (ed : Nat → Edd) (n : Nat) (d : Edd) : Nat → Edd := fun i => if i = n then d else ed i
def rdZ (tx : Sq) (f1 f2 f3 : Fw) : Pd := whF tx 501 (0, fun _ _ => 0, 0, f1, f2, f3, -1) 0
def kpM (g : GG) (mm : Mm) (A : Nat → Nat) (e sa fa la za k q n : Nat) (dy day : Int32) (rf : Nat → Option Nat) : Mm := up (up (up (up mm e (.inr (0, edL sa fa la za k q dy))) (A 11) (.inl (g.2.2.2.2 3, 4, .inr (.inr (.inr (.inr (va_up rf n (some e)))))))) (A 0) (.inr (5, ctL A (n + 1) day))) (A 8) (.inr (1, [.ref (A 9), .ref (A 10), .int 0]))
/-- how reading ends -/
def PoR (g : GG) (mm : Mm) (A : Nat → Nat) (col : Nat → Nat) (tx lb pr : Sq) (n : Nat) (day : Int32) (len : Nat) (ft : Fw) (ed : Nat → Edd) (dy : Int32) (o : Ou) (m' : Mm) : Prop :=
  (wi dy 0 1000 = false ∧ Po g mm A col eIA tx lb pr n day len ft ed o m') ∨ wi dy 0 1000 = true ∧ ∃ f1 f2 f3, ((rdZ tx f1 f2 f3).1 = false ∧ Po g mm A col (oI (-1 - nI (rdZ tx f1 f2 f3).2.2)) (tx.1, 0) lb pr n day len ft ed o m') ∨ (rdZ tx f1 f2 f3).1 = true ∧ ((((8 < (rdZ tx f1 f2 f3).2.1.1 ∨ 8 < (rdZ tx f1 f2 f3).2.1.2.2.1) ∨ 4 ≤ n) ∧ Po g mm A col eUO (tx.1, 0) lb pr n day len ft ed o m') ∨ ¬ ((8 < (rdZ tx f1 f2 f3).2.1.1 ∨ 8 < (rdZ tx f1 f2 f3).2.1.2.2.1) ∨ 4 ≤ n) ∧ Po g mm A col (oI (nI (n + 1))) (tx.1, 0) lb pr (n + 1) day 0 ft (edU ed n (edN (rdZ tx f1 f2 f3).2.1 dy)) o m')
section C15
variable {g : GG} {mm m' : Mm} {A : Nat → Nat} {E : Nat → Nat → Nat} {col : Nat → Nat} {tx lb pr : Sq} {n : Nat} {day : Int32} {len : Nat} {ft : Fw} {ed : Nat → Edd}
theorem c_T_keepEdition (hg : GO g) {e sa fa la za k q ln : Nat} {dy d0 : Int32} {rf : Nat → Option Nat} (hO : Ob mm (A 0) 5 (ctL A n day)) (hQ : Qa g mm 3 (A 11) 4 rf) (hn : n < 4) (hE : Ob mm e 0 (edL sa fa la za k q d0)) (hK : Ob mm (A 8) 1 [.ref (A 9), .ref (A 10), .int (nI ln)]) : CT g m_T_keepEdition 1 20 0 0 [.ref (A 0), .ref e, .int dy] mm (Re none (kpM g mm A e sa fa la za k q n dy day rf)) := by
  have n1 : A 0 ≠ e := Ob_neC hO hE (by decide)
  have n2 : A 0 ≠ A 11 := Ob_neQ hO hQ
  have n3 : e ≠ A 11 := Ob_neQ hE hQ
  have n4 : A 8 ≠ A 0 := Ob_neC hK hO (by decide)
  have n5 : A 8 ≠ e := Ob_neC hK hE (by decide)
  have n6 : A 8 ≠ A 11 := Ob_neQ hK hQ
  have n3' := Ne.symm n3
  have hin : vp_in (nI n) 4 := vp_nI hn (by omega)
  refine CT_go (lo := [(0, .ref (A 0)), (1, .ref e), (2, .int dy)]) rfl rfl rfl rfl hg ?_
  first | refine V_aload_n d_T_keepEdition_0 rfl rfl ?_ | refine V_aloadN_n d_T_keepEdition_0 rfl rfl ?_
  refine Vget fl_T_89 d_T_keepEdition_1 (by repeat first | assumption | apply Ob_s | apply Ob_n) rfl ?_
  refine V_if_lt (tgt := 19) d_T_keepEdition_4 (by decide) (fun h_4 => ?_) (fun h_4 => ?_)
  · exact absurd h_4 (nI_pos (by omega))
  · first | refine V_aload_n d_T_keepEdition_7 rfl rfl ?_ | refine V_aloadN_n d_T_keepEdition_7 rfl rfl ?_
    refine Vget fl_T_89 d_T_keepEdition_8 (by repeat first | assumption | apply Ob_s | apply Ob_n) rfl ?_
    first | refine V_aload_n d_T_keepEdition_11 rfl rfl ?_ | refine V_aloadN_n d_T_keepEdition_11 rfl rfl ?_
    refine Vget fl_T_42 d_T_keepEdition_12 (by repeat first | assumption | apply Ob_s | apply Ob_n) rfl ?_
    refine ValenQ (j := 3) d_T_keepEdition_15 (fun _ => rfl) (by repeat first | assumption | apply Qa_s | apply Qa_n) ?_
    refine V_icmp_lt (tgt := 20) d_T_keepEdition_16 (by decide) (fun h_16 => ?_) (fun h_16 => ?_)
    · first | refine V_aload_n d_T_keepEdition_20 rfl rfl ?_ | refine V_aloadN_n d_T_keepEdition_20 rfl rfl ?_
      refine V_iload_n d_T_keepEdition_21 rfl rfl ?_
      refine Vput pl_T_206 d_T_keepEdition_22 (by repeat first | assumption | apply Ob_s | apply Ob_n) rfl rfl (Nat.le_of_ble_eq_true rfl) ?_
      have hE2 : Ob (up mm e (.inr (0, edL sa fa la za k q dy))) e 0 (edL sa fa la za k q dy) := Ob_s hE
      refine ek_v (P := fun z => V g m_T_keepEdition 1 20 0 0 _ _ _ z _) (show _ = up mm e (.inr (0, edL sa fa la za k q dy)) from rfl) ?_
      first | refine V_aload_n d_T_keepEdition_25 rfl rfl ?_ | refine V_aloadN_n d_T_keepEdition_25 rfl rfl ?_
      refine Vget fl_T_42 d_T_keepEdition_26 (by repeat first | assumption | apply Ob_s | apply Ob_n) rfl ?_
      first | refine V_aload_n d_T_keepEdition_29 rfl rfl ?_ | refine V_aloadN_n d_T_keepEdition_29 rfl rfl ?_
      refine Vget fl_T_89 d_T_keepEdition_30 (by repeat first | assumption | apply Ob_s | apply Ob_n) rfl ?_
      first | refine V_aload_n d_T_keepEdition_33 rfl rfl ?_ | refine V_aloadN_n d_T_keepEdition_33 rfl rfl ?_
      refine Vaast (j := 3) (ci := 0) d_T_keepEdition_34 (fun _ => rfl) rfl (Qa_n hQ n3') hE2 hin ?_
      rw [nI_clamp (by omega)]
      first | refine V_aload_n d_T_keepEdition_35 rfl rfl ?_ | refine V_aloadN_n d_T_keepEdition_35 rfl rfl ?_
      refine V_dup d_T_keepEdition_36 rfl ?_
      refine Vget fl_T_89 d_T_keepEdition_37 (by repeat first | assumption | apply Ob_s | apply Ob_n) rfl ?_
      refine V_iconst (v := 1) d_T_keepEdition_40 (by decide) ?_
      refine V_iadd d_T_keepEdition_41 ?_
      refine Vput pl_T_89 d_T_keepEdition_42 (by repeat first | assumption | apply Ob_s | apply Ob_n) rfl rfl (Nat.le_of_ble_eq_true rfl) ?_
      refine ek_v (P := fun z => V g m_T_keepEdition 1 20 0 0 _ _ _ z _) (show _ = up (up (up mm e (.inr (0, edL sa fa la za k q dy))) (A 11) (.inl (g.2.2.2.2 3, 4, .inr (.inr (.inr (.inr (va_up rf n (some e)))))))) (A 0) (.inr (5, ctL A (n + 1) day)) by unfold ctL; rw [nI_succ]; rfl) ?_
      have h0 : Ob (up (up mm e (.inr (0, edL sa fa la za k q dy))) (A 11) (.inl (g.2.2.2.2 3, 4, .inr (.inr (.inr (.inr (va_up rf n (some e)))))))) (A 0) 5 (ctL A n day) := Ob_n (Ob_n hO n1) n2
      have h5 := Ob_s (ci := 5) (fs := ctL A (n + 1) day) h0
      have h6 := Ob_n (e := .inr (5, ctL A (n + 1) day)) (Ob_n (e := .inl (g.2.2.2.2 3, 4, .inr (.inr (.inr (.inr (va_up rf n (some e)))))) ) (Ob_n (e := .inr (0, edL sa fa la za k q dy)) hK n5) n6) n4
      first | refine V_aload_n d_T_keepEdition_45 rfl rfl ?_ | refine V_aloadN_n d_T_keepEdition_45 rfl rfl ?_
      refine Vget fl_T_36 d_T_keepEdition_46 (by repeat first | assumption | apply Ob_s | apply Ob_n) rfl ?_
      refine VcallV cb_K_clear mv_T_105 rfl (ci := 1) rfl rfl d_T_keepEdition_49 (c_K_clear hg h6) ⟨by decide, by decide⟩ rfl (by repeat first | assumption | apply Ob_s | apply Ob_n) rfl (Nat.le_of_ble_eq_true rfl) (fun _ _ h => nomatch h.1) (fun v m2 hR => ?_)
      obtain ⟨hv9, e9⟩ := hR
      cases hv9
      subst m2
      exact V_vret d_T_keepEdition_52 rfl ⟨rfl, rfl⟩
    · exact absurd ((nI_ltI (b := 4) (by omega) (by omega)).mpr hn) h_16
/-- behind the reader: the class with the text gone, the draft as it was read -/
theorem CR_read (h : CR g mm A E col tx lb pr n day len ft ed) {m1 : Mm} {sv : Nat → Nat} {d0 : Int32} {D : Dst} {p : Nat} (hD : DR g m1 (A 7) (A 1) (A 2) (E n 0) (E n 1) (E n 2) (E n 3) (E n 4) sv d0 tx D p) (hF : Fr (ftp (A 7) (E n 0) (E n 1) (E n 2) (E n 3) (E n 4)) mm m1) : CR g (sgUp g m1 (A 1) (A 2) 500 (tx.1, 0)) A E col (tx.1, 0) lb pr n day len ft ed ∧ Fr (fun b => col b < 900) mm (sgUp g m1 (A 1) (A 2) 500 (tx.1, 0)) := by
  obtain ⟨h1, h2, h3, h4, h5, h6, h7⟩ := h
  have hn4 := h1.2.1
  -- which colours the reader touches
  have hF1 : Fr (fun b => (fun x => x = 7 ∨ 100 * (n + 1) ≤ x ∧ x < 100 * (n + 1) + 5) (col b)) mm m1 := Fr_mono hF (fun b hb => by
    have e : ∀ r, r < 5 → col (E n r) = 100 * (n + 1) + r := fun r hr => h7.2.1 n r (Nat.le_refl _) hr
    rcases hb with rfl | rfl | rfl | rfl | rfl | rfl
    · exact Or.inl (h7.1 7 (by omega))
    · exact Or.inr (by rw [e 0 (by omega)]; omega)
    · exact Or.inr (by rw [e 1 (by omega)]; omega)
    · exact Or.inr (by rw [e 2 (by omega)]; omega)
    · exact Or.inr (by rw [e 3 (by omega)]; omega)
    · exact Or.inr (by rw [e 4 (by omega)]; omega))
  have a12 : ∀ r, r < 12 → r ≠ 7 → ¬ (fun x => x = 7 ∨ 100 * (n + 1) ≤ x ∧ x < 100 * (n + 1) + 5) (col (A r)) := fun r hr h7' z => by
    have z' : col (A r) = 7 ∨ 100 * (n + 1) ≤ col (A r) ∧ col (A r) < 100 * (n + 1) + 5 := z
    rw [h7.1 r hr] at z'
    omega
  have eI : ∀ i r, i < n → r < 5 → ¬ (fun x => x = 7 ∨ 100 * (n + 1) ≤ x ∧ x < 100 * (n + 1) + 5) (col (E i r)) := fun i r hi hr z => by
    have z' : col (E i r) = 7 ∨ 100 * (n + 1) ≤ col (E i r) ∧ col (E i r) < 100 * (n + 1) + 5 := z
    rw [h7.2.1 i r (by omega) hr] at z'
    omega
  have q1 : CRo g m1 A E n day ed := by
    obtain ⟨a1, a2, a3, a4⟩ := h1
    refine ⟨Ob_f a1 hF1 (a12 0 (by omega) (by omega)), a2, Qa_f a3 hF1 (a12 11 (by omega) (by omega)), fun i hi => ?_⟩
    obtain ⟨b1, ⟨rf, b2, b3, b4⟩, b5, b6, b7⟩ := a4 i hi
    refine ⟨Ob_f b1 hF1 (eI i 0 hi (by omega)), ⟨rf, Qa_f b2 hF1 (eI i 1 hi (by omega)), b3, fun j hj => ⟨(b4 j hj).1, Ob_f (b4 j hj).2 hF1 (fun z => ?_)⟩⟩, ⟨Ia_f b5.1 hF1 (eI i 2 hi (by omega)), Ia_f b5.2.1 hF1 (eI i 3 hi (by omega)), Ia_f b5.2.2 hF1 (eI i 4 hi (by omega))⟩, b6, b7⟩
    have z' : col (E i (5 + j)) = 7 ∨ 100 * (n + 1) ≤ col (E i (5 + j)) ∧ col (E i (5 + j)) < 100 * (n + 1) + 5 := z
    rw [h7.2.2 i j hi hj] at z'
    omega
  have q3 : Sgm g m1 (A 3) (A 4) 20 lb := Sgm_f h3 hF1 (a12 3 (by omega) (by omega)) (a12 4 (by omega) (by omega))
  have q4 : Sgm g m1 (A 5) (A 6) 37 pr := Sgm_f h4 hF1 (a12 5 (by omega) (by omega)) (a12 6 (by omega) (by omega))
  have q5 : CRk g m1 A len ft := by
    obtain ⟨b1, b2, ⟨f, b3⟩, b4⟩ := h5
    exact ⟨Ob_f b1 hF1 (a12 8 (by omega) (by omega)), Ia_f b2 hF1 (a12 9 (by omega) (by omega)), ⟨f, Ia_f b3 hF1 (a12 10 (by omega) (by omega))⟩, b4⟩
  obtain ⟨d1, d2, d3, ⟨rf, d4, -⟩, d5, -⟩ := hD
  have hC : CR g m1 A E col tx lb pr n day len ft ed := ⟨q1, d2, q3, q4, q5, ⟨⟨_, _, d1⟩, ⟨_, _, _, d3⟩, ⟨rf, d4⟩, _, _, _, d5⟩, h7⟩
  have hFm : Fr (fun b => col b < 900) mm m1 := Fr_mono hF1 (fun b z => by
    have z' : col b = 7 ∨ 100 * (n + 1) ≤ col b ∧ col b < 100 * (n + 1) + 5 := z
    show col b < 900
    omega)
  have hF2 : Fr (fun b => c2 1 2 (col b)) m1 (sgUp g m1 (A 1) (A 2) 500 (tx.1, 0)) := Fr_sg (Or.inl (h7.1 1 (by omega))) (Or.inr (h7.1 2 (by omega)))
  obtain ⟨c1, c3', c4, c5, c6, c7, c8⟩ := hC
  refine ⟨⟨CRo_f c1 h7 hF2 (by unfold c2; omega) (by unfold c2; omega) (by intro x hx; unfold c2; omega), c3'.up (Nat.zero_le _), SgC_f c4 (by omega) h7 hF2 (by unfold c2; omega) (by unfold c2; omega), SgC_f c5 (by omega) h7 hF2 (by unfold c2; omega) (by unfold c2; omega), CRk_f c6 h7 hF2 (by unfold c2; omega) (by unfold c2; omega) (by unfold c2; omega), CRd_f c7 h7 hF2 (by unfold c2; omega) (by intro x hx; unfold c2; omega), h7⟩, ?_⟩
  exact Fr_tr hFm hF2 (fun b _ z => by
    have z' : col b = 1 ∨ col b = 2 := z
    show col b < 900
    omega)
end C15
