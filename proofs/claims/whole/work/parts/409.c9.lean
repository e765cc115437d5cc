/-! a service's line -/
theorem ad_up {mm : Mm} {q : Nat} {e e' : va_E} : up (ad mm q e) q e' = ad mm q e' := by
  unfold up ad
  refine Prod.ext (funext fun b => ?_) rfl
  show va_up (va_up mm.1 q e) q e' b = va_up mm.1 q e' b
  by_cases hb : b = q
  · subst hb; rw [va_up_self, va_up_self]
  · rw [va_up_ne _ _ hb, va_up_ne _ _ hb, va_up_ne _ _ hb]
theorem ad_com {mm : Mm} {a q : Nat} {e e' : va_E} (h : a ≠ q) : ad (up mm a e) q e' = up (ad mm q e') a e := by
  unfold up ad
  refine Prod.ext (funext fun c => ?_) rfl
  show va_up (va_up mm.1 a e) q e' c = va_up (va_up mm.1 q e') a e c
  by_cases hb : c = q
  · subst hb; rw [va_up_self, va_up_ne _ _ (Ne.symm h), va_up_self]
  · by_cases ha : c = a
    · subst ha; rw [va_up_ne _ _ hb, va_up_self, va_up_self]
    · rw [va_up_ne _ _ hb, va_up_ne _ _ ha, va_up_ne _ _ ha, va_up_ne _ _ hb]
theorem Sgm_a {g : GG} {mm : Mm} {a r n b : Nat} {s : Sq} {e : va_E} (h : Sgm g mm a r n s) (hb : b ∉ mm.2) : Sgm g (ad mm b e) a r n s := ⟨Ob_a h.1 hb, Ia_a h.2.1 hb, h.2.2.1, h.2.2.2⟩
theorem udF_ge {tx : Sq} : ∀ (n : Nat) (s b : Int32) (p : Nat), p ≤ (udF tx n s b p).2
  | 0, _, _, _ => Nat.le_refl _
  | n + 1, s, b, p => by
    unfold udF
    split
    · exact Nat.le_trans (Nat.le_succ p) (udF_ge n _ _ _)
    · exact Nat.le_refl _
theorem fnL_ge {tx : Sq} (most : Int32) : ∀ (n : Nat) (v : Int32) (p : Nat), p ≤ (fnL tx most n v p).2
  | 0, _, _ => Nat.le_refl _
  | n + 1, v, p => by
    unfold fnL
    split
    · exact Nat.le_trans (Nat.le_succ p) (fnL_ge most n _ _)
    · exact Nat.le_refl _
theorem freeN_ge {tx : Sq} {least most : Int32} {p : Nat} : p ≤ (freeN tx least most p).2 := by
  unfold freeN
  split
  · exact Nat.le_succ p
  · split
    · exact Nat.le_refl _
    · exact nir_ge (fnL_ge _ _ _ _)
/-- how far capacity and price go, and that they leave the letter -/
def Pok (r : Ps) (p : Nat) (c : Int32) : Prop := r.2.2 ≤ 500 ∧ p ≤ r.2.2 ∧ r.2.1 0 = c
theorem cap4_ok {tx : Sq} {v : Fw} {p : Nat} (ht : tx.2 ≤ 500) (h : p ≤ 500) : Pok (cap4 tx v p) p (v 0) := by
  unfold cap4
  have a := upD_le ht h
  have b : p ≤ (upD tx p).2 := udF_ge _ _ _ _
  split
  · rename_i hc
    exact ⟨ps_le ht hc (by decide), Nat.le_trans b (Nat.le_succ _), rfl⟩
  · exact ⟨a, b, rfl⟩
theorem Pok.up {r : Ps} {p p' : Nat} {c : Int32} (h : Pok r p' c) (hp : p ≤ p') : Pok r p c := ⟨h.1, Nat.le_trans hp h.2.1, h.2.2⟩
theorem cap3_ok {tx : Sq} {v : Fw} {p : Nat} (ht : tx.2 ≤ 500) (h : p ≤ 500) : Pok (cap3 tx v p) p (v 0) := by
  unfold cap3
  have a := freeN_le (least := 1) (most := 500) ht h
  have b := freeN_ge (tx := tx) (least := 1) (most := 500) (p := p)
  split
  · exact ⟨a, b, rfl⟩
  · rename_i hc
    have hc' := Classical.not_not.mp (fun z => hc (Or.inr z))
    exact (cap4_ok (v := upd v 3 _) ht (ps_le ht hc' (by decide))).up (Nat.le_trans b (Nat.le_succ _))
theorem cap2_ok {tx : Sq} {v : Fw} {p : Nat} (ht : tx.2 ≤ 500) (h : p ≤ 500) : Pok (cap2 tx v p) p (v 0) := by
  unfold cap2
  have a := freeN_le (least := 1) (most := 1000) ht h
  have b := freeN_ge (tx := tx) (least := 1) (most := 1000) (p := p)
  split
  · exact ⟨a, b, rfl⟩
  · rename_i hc
    have hc' := Classical.not_not.mp (fun z => hc (Or.inr z))
    exact (cap3_ok (v := upd v 2 _) ht (ps_le ht hc' (by decide))).up (Nat.le_trans b (Nat.le_succ _))
theorem cap1_ok {tx : Sq} {v : Fw} {p : Nat} (ht : tx.2 ≤ 500) (h : p ≤ 500) : Pok (cap1 tx v p) p (v 0) := by
  unfold cap1
  have a := upD_le ht h
  have b : p ≤ (upD tx p).2 := udF_ge _ _ _ _
  split
  · exact ⟨a, b, rfl⟩
  · rename_i hc
    have hc' := Classical.not_not.mp (fun z => hc (Or.inr z))
    exact (cap2_ok (v := upd v 1 _) ht (ps_le ht hc' (by decide))).up (Nat.le_trans b (Nat.le_succ _))
theorem pr1_ok {tx : Sq} {v : Fw} {p : Nat} (ht : tx.2 ≤ 500) (h : p ≤ 500) : Pok (pr1 tx v p) p (v 0) := by
  unfold pr1
  have a := freeN_le (least := 0) (most := 999) ht h
  have b := freeN_ge (tx := tx) (least := 0) (most := 999) (p := p)
  split
  · exact ⟨a, b, rfl⟩
  · rename_i hc
    have hc' := Classical.not_not.mp (fun z => hc (Or.inr z))
    have hp := ps_le ht hc' (by decide)
    exact ⟨freeN_le ht hp, Nat.le_trans b (Nat.le_trans (Nat.le_succ _) freeN_ge), rfl⟩
/-- different letters: no more than their kinds -/
theorem pig : ∀ (m n : Nat) (f : Nat → Nat), (∀ i, i < n → f i < m) → (∀ i j, i < n → j < n → f i = f j → i = j) → n ≤ m
  | 0, n, f, h, _ => by
    rcases Nat.eq_zero_or_pos n with e | e
    · omega
    · exact absurd (h 0 e) (by omega)
  | m + 1, n, f, h, hi => by
    rcases Nat.eq_zero_or_pos n with e | e
    · omega
    · have key : n - 1 ≤ m := by
        refine pig m (n - 1) (fun i => if f i = m then f (n - 1) else f i) (fun i hn => ?_) (fun i j hn hn' z => ?_)
        · show (if f i = m then f (n - 1) else f i) < m
          have a := h i (by omega)
          have b := h (n - 1) (by omega)
          split
          · rename_i e1
            have c : f (n - 1) ≠ m := fun e2 => by
              have := hi i (n - 1) (by omega) (by omega) (e1.trans e2.symm)
              omega
            omega
          · omega
        · have z' : (if f i = m then f (n - 1) else f i) = (if f j = m then f (n - 1) else f j) := z
          split at z' <;> split at z'
          · rename_i e1 e2
            exact hi i j (by omega) (by omega) (e1.trans e2.symm)
          · have := hi (n - 1) j (by omega) (by omega) z'
            omega
          · have := hi i (n - 1) (by omega) (by omega) z'
            omega
          · exact hi i j (by omega) (by omega) z'
      omega
theorem wi_to {c a b : Int32} (h : wi c a b = true) : a.toInt ≤ c.toInt ∧ c.toInt ≤ b.toInt := by
  unfold wi at h
  simp only [Bool.and_eq_true, Bool.not_eq_true', decide_eq_false_iff_not, Int32.lt_iff_toInt_lt] at h
  omega
theorem pigL {n : Nat} {v : Nat → Nat → Int32} {c : Int32} (h : ∀ i, i < n → wi (v i 0) 65 90 = true) (hi : ∀ i j, i < n → j < n → v i 0 = v j 0 → i = j) (hc : wi c 65 90 = true) (hn : ∀ i, i < n → v i 0 ≠ c) : n < 26 := by
  have k65 : (65 : Int32).toInt = 65 := rfl
  have k90 : (90 : Int32).toInt = 90 := rfl
  have r : ∀ x : Int32, wi x 65 90 = true → 65 ≤ x.toInt ∧ x.toInt ≤ 90 := fun x hx => by
    have := wi_to hx
    rw [k65, k90] at this
    exact this
  have key := pig 26 (n + 1) (fun i => ((if i = n then c else v i 0).toInt - 65).toNat) (fun i hl => ?_) (fun i j hl hl' z => ?_)
  · omega
  · show ((if i = n then c else v i 0).toInt - 65).toNat < 26
    split
    · have := r _ hc; omega
    · have := r _ (h i (by omega)); omega
  · have z' : ((if i = n then c else v i 0).toInt - 65).toNat = ((if j = n then c else v j 0).toInt - 65).toNat := z
    have tt : ∀ x y : Int32, wi x 65 90 = true → wi y 65 90 = true → (x.toInt - 65).toNat = (y.toInt - 65).toNat → x = y := fun x y hx hy e => by
      have := r x hx
      have := r y hy
      exact Int32.toInt_inj.mp (by omega)
    split at z' <;> split at z'
    · omega
    · rename_i e1 e2
      exact absurd (tt _ _ hc (h j (by omega)) z').symm (hn j (by omega))
    · exact absurd (tt _ _ (h i (by omega)) hc z') (hn i (by omega))
    · exact hi i j (by omega) (by omega) (tt _ _ (h i (by omega)) (h j (by omega)) z')
def se3 (tx : Sq) (D : Dst) (r : Ps) : Pd := if r.1 = false ∨ ¬ hr tx r.2.2 = 10 then (false, D, r.2.2) else (true, (D.1 + 1, setR D.2.1 D.1 r.2.1, D.2.2), r.2.2 + 1)
def se2 (tx : Sq) (D : Dst) (c : Ps) : Pd := if c.1 = false then (false, D, c.2.2) else se3 tx D (pr1 tx c.2.1 c.2.2)
def rdS (tx : Sq) (D : Dst) (p : Nat) : Pd := if wi (hr tx p) 65 90 = false ∨ ¬ fndF D.2.1 (hr tx p) D.1 0 = none then (false, D, p) else if ¬ hr tx (p + 1) = 58 then (false, D, p + 1) else se2 tx D (cap1 tx (upd (fun _ => 0) 0 (hr tx p)) (p + 2))
section C9
variable {g : GG}
theorem DR_ad {mm : Mm} {rd ts tr ed sa fa la za : Nat} {sv : Nat → Nat} {day : Int32} {tx : Sq} {D : Dst} {p : Nat} (h : DR g mm rd ts tr ed sa fa la za sv day tx D p) {q : Nat} (hq : q ∉ mm.2) (e : va_E) : DR g (ad mm q e) rd ts tr ed sa fa la za sv day tx D p := by
  obtain ⟨h1, h2, h3, ⟨rf, h4a, h4b, h4c⟩, ⟨h5, h6, h7⟩, h8, h9, h10, h11, h12, h13⟩ := h
  exact ⟨Ob_a h1 hq, Sgm_a h2 hq, Ob_a h3 hq, ⟨rf, Qa_a h4a hq, h4b, fun j hj => ⟨(h4c j hj).1, Ob_a (h4c j hj).2 hq⟩⟩, ⟨Ia_a h5 hq, Ia_a h6 hq, Ia_a h7 hq⟩, h8, h9, h10, h11, h12, h13⟩
theorem DR_add {mm : Mm} {rd ts tr ed sa fa la za : Nat} {sv : Nat → Nat} {day : Int32} {tx : Sq} {D : Dst} {p : Nat} (h : DR g mm rd ts tr ed sa fa la za sv day tx D p) {rf : Nat → Option Nat} (hQ : Svs g mm sa D.1 rf sv D.2.1) {q : Nat} {w : Fw} (hq : Ob mm q 3 (svL w)) (hd : ∀ j, j < D.1 → sv j ≠ q) (hk : D.1 < 26) (hl : wi (w 0) 65 90 = true) (hn : ∀ j, j < D.1 → D.2.1 j 0 ≠ w 0) :
    DR g (up (up mm sa (.inl (g.2.2.2.2 2, 26, .inr (.inr (.inr (.inr (va_up rf D.1 (some q)))))))) ed (.inr (0, edL sa fa la za (D.1 + 1) D.2.2.1 day))) rd ts tr ed sa fa la za (fun i => if i = D.1 then q else sv i) day tx (D.1 + 1, setR D.2.1 D.1 w, D.2.2) p := by
  obtain ⟨h1, h2, h3, -, ⟨h5, h6, h7⟩, h8, h9, h10, h11, h12, h13⟩ := h
  obtain ⟨h4a, h4b, h4c⟩ := hQ
  have k1 := Ob_neC h1 h3 (by decide)
  have k2 := Ob_neC h2.1 h3 (by decide)
  have k3 := Ne.symm (Ob_neI h3 h2.2.1)
  have k4 := Ob_neQ h3 h4a
  have k5 := Ne.symm (Ob_neI h3 h5)
  have k6 := Ne.symm (Ob_neI h3 h6)
  have k7 := Ne.symm (Ob_neI h3 h7)
  refine ⟨Ob_n (Ob_n h1 (Ob_neQ h1 h4a)) k1, Sgm_n (Sgm_n h2 (Ob_neQ h2.1 h4a) (Ia_neQ h2.2.1 h4a)) k2 k3, Ob_s (Ob_n h3 k4), ⟨va_up rf D.1 (some q), Qa_n (Qa_s h4a) (Ne.symm k4), hk, fun j hj => ?_⟩, ⟨Ia_n (Ia_n h5 (Ia_neQ h5 h4a)) k5, Ia_n (Ia_n h6 (Ia_neQ h6 h4a)) k6, Ia_n (Ia_n h7 (Ia_neQ h7 h4a)) k7⟩, h8, fun i j hi hj e => ?_, h10, h11, fun i hi => ?_, fun i j hi hj e => ?_⟩
  · show va_up rf D.1 (some q) j = some (if j = D.1 then q else sv j) ∧ Ob _ (if j = D.1 then q else sv j) 3 (svL (setR D.2.1 D.1 w j))
    unfold setR
    by_cases e : j = D.1
    · subst e
      rw [if_pos rfl, if_pos rfl]
      exact ⟨va_up_self _ _ _, Ob_n (Ob_n hq (Ob_neQ hq h4a)) (Ob_neC hq h3 (by decide))⟩
    · have hj' : j < D.1 := by have : j < D.1 + 1 := hj; omega
      rw [if_neg e, if_neg e]
      have ho := (h4c j hj').2
      exact ⟨(va_up_ne _ _ e).trans (h4c j hj').1, Ob_n (Ob_n ho (Ob_neQ ho h4a)) (Ob_neC ho h3 (by decide))⟩
  · have hi' : i < D.1 + 1 := hi
    have hj' : j < D.1 + 1 := hj
    have e' : (if i = D.1 then q else sv i) = (if j = D.1 then q else sv j) := e
    split at e' <;> split at e'
    · omega
    · exact absurd e'.symm (hd j (by omega))
    · exact absurd e' (hd i (by omega))
    · exact h9 i j (by omega) (by omega) e'
  · show wi (setR D.2.1 D.1 w i 0) 65 90 = true
    have hi' : i < D.1 + 1 := hi
    unfold setR
    split
    · exact hl
    · exact h12 i (by omega)
  · have hi' : i < D.1 + 1 := hi
    have hj' : j < D.1 + 1 := hj
    have e' : setR D.2.1 D.1 w i 0 = setR D.2.1 D.1 w j 0 := e
    unfold setR at e'
    split at e' <;> split at e'
    · omega
    · exact absurd e'.symm (hn j (by omega))
    · exact absurd e' (hn i (by omega))
    · exact h13 i j (by omega) (by omega) e'
theorem sM_ad {mm : Mm} {q : Nat} {e : va_E} {v : Fw} : sM (ad mm q e) q v = ad mm q (.inr (3, svL v)) := ad_up
set_option maxRecDepth 20000 in
theorem c_R_readsService (hg : GO g) {mm : Mm} {rd ts tr ed sa fa la za : Nat} {sv : Nat → Nat} {day : Int32} {tx : Sq} {D : Dst} {p : Nat} (h : DR g mm rd ts tr ed sa fa la za sv day tx D p) : CT g m_R_readsService 4 92 1 9 [.ref rd] mm (Le g mm rd ts tr ed sa fa la za D.1 sv day tx (ftp rd ed sa fa la za) (rdS tx D p)) := by
  have hx := DR_rdr h
  have hT : tx.2 ≤ 500 := h.2.1.2.2.1
  have h1 := h.1
  have hp : p ≤ 500 := h.2.2.2.2.2.2.2.1
  have hq0 : D.2.2.1 ≤ p := h.2.2.2.2.2.2.2.2.1
  have hid := DR_id h
  have bad0 : ∀ b : Bool, bi b = 0 → Le g mm rd ts tr ed sa fa la za D.1 sv day tx (ftp rd ed sa fa la za) (false, D, p) (.inl (some (.int 0))) mm :=
    fun _ _ => ⟨rfl, sv, h, Fr_rf, fun j hj => Or.inr ⟨hj, rfl⟩⟩
  have bad : ∀ q, q ∉ mm.2 → ∀ (v : Fw) p', p' ≤ 500 → D.2.2.1 ≤ p' → Le g mm rd ts tr ed sa fa la za D.1 sv day tx (ftp rd ed sa fa la za) (false, D, p') (.inl (some (.int 0))) (rdM (sM (ad mm q (.inr (3, svL (fun _ => 0)))) q v) rd ts ed D.2.2.2.2.2.2 p') :=
    fun q hq v p' e1 e2 => by
      rw [sM_ad]
      exact ⟨rfl, sv, DR_p (DR_ad h hq _) e1 e2 _, Fr_up (Fr_ad Fr_rf hq) (Or.inl rfl), fun j hj => Or.inr ⟨hj, rfl⟩⟩
  obtain ⟨rf, hS⟩ := h.2.2.2.1
  have hE := h.2.2.1
  unfold rdS
  refine CT_go (lo := [(0, .ref rd)]) rfl rfl rfl rfl hg ?_
  first | refine V_aload_n d_R_readsService_0 rfl rfl ?_ | refine V_aloadN_n d_R_readsService_0 rfl rfl ?_
  have c1 := c_R_here hg hx (p := p) (by omega)
  rw [hid] at c1
  refine VcallV cb_R_here mv_R_37 rfl (ci := 2) rfl rfl d_R_readsService_1 c1 ⟨by decide, by decide⟩ rfl (by repeat first | assumption | apply Ob_s | apply Ob_n) rfl (Nat.le_of_ble_eq_true rfl) (fun _ _ h => nomatch h.1) (fun v m2 hR => ?_)
  obtain ⟨hv9, e9⟩ := hR
  cases hv9
  subst m2
  refine V_istore_n d_R_readsService_4 rfl rfl ?_
  refine V_iload_n d_R_readsService_5 rfl rfl ?_
  refine V_callS cb_T_isLetter ms_R_51 rfl rfl d_R_readsService_6 (c_T_isLetter hg _ _) ⟨by decide, by decide⟩ rfl rfl (Nat.le_of_ble_eq_true rfl) (fun _ _ h => nomatch h.1) (fun v m2 hR => ?_)
  obtain ⟨hv9, e9⟩ := hR
  cases hv9
  subst m2
  refine V_if_eq (tgt := 23) d_R_readsService_9 (by decide) (fun h_9 => ?_) (fun h_9 => ?_)
  · rw [bi_eq0] at h_9
    refine V_iconst (v := 0) d_R_readsService_23 (by decide) ?_
    rw [if_pos (Or.inl h_9)]
    exact V_iret d_R_readsService_24 rfl rfl (bad0 false rfl)
  · rw [bi_ne0] at h_9
    have hp1 : p + 1 ≤ 500 := by
      have : hr tx p ≠ -1 := fun z => by rw [z] at h_9; exact absurd h_9 (by decide)
      have := hr_lt this
      omega
    first | refine V_aload_n d_R_readsService_12 rfl rfl ?_ | refine V_aloadN_n d_R_readsService_12 rfl rfl ?_
    refine Vget fl_R_18 d_R_readsService_13 (by repeat first | assumption | apply Ob_s | apply Ob_n) rfl ?_
    refine V_iload_n d_R_readsService_16 rfl rfl ?_
    refine VcallV cb_E_find mv_R_55 rfl (ci := 0) rfl rfl d_R_readsService_17 (c_E_find hg hE hS _) ⟨by decide, by decide⟩ rfl (by repeat first | assumption | apply Ob_s | apply Ob_n) rfl (Nat.le_of_ble_eq_true rfl) (fun _ _ h => nomatch h.1) (fun v m2 hR => ?_)
    obtain ⟨hv9, e9⟩ := hR
    cases hv9
    subst m2
    cases hf : fndF D.2.1 (hr tx p) D.1 0 with
    | some j =>
      rw [if_pos (Or.inr (fun z => nomatch z))]
      refine V_ifnullR (x := sv j) d_R_readsService_20 ?_
      refine V_iconst (v := 0) d_R_readsService_23 (by decide) ?_
      exact V_iret d_R_readsService_24 rfl rfl (bad0 false rfl)
    | none =>
      rw [if_neg (fun z => z.elim (fun q => by rw [h_9] at q; cases q) (fun q => q rfl))]
      have hnew := fndF_none hf
      have hk : D.1 < 26 := pigL h.2.2.2.2.2.2.2.2.2.1 h.2.2.2.2.2.2.2.2.2.2 h_9 (fun i hi => hnew i (Nat.zero_le _) (by omega))
      refine V_ifnullN (tgt := 25) d_R_readsService_20 (by decide) ?_
      first | refine V_aload_n d_R_readsService_25 rfl rfl ?_ | refine V_aloadN_n d_R_readsService_25 rfl rfl ?_
      refine V_dup d_R_readsService_26 rfl ?_
      refine Vget fl_R_25 d_R_readsService_27 (by repeat first | assumption | apply Ob_s | apply Ob_n) rfl ?_
      refine V_iconst (v := 1) d_R_readsService_30 (by decide) ?_
      refine V_iadd d_R_readsService_31 ?_
      refine Vput pl_R_25 d_R_readsService_32 (by repeat first | assumption | apply Ob_s | apply Ob_n) rfl rfl (Nat.le_of_ble_eq_true rfl) ?_
      have e0 : up mm rd (.inr (2, [.ref ts, .ref ed, .int (nI p + 1), .int D.2.2.2.2.2.2])) = rdM mm rd ts ed D.2.2.2.2.2.2 (p + 1) := by
        rw [← nI_succ]
        rfl
      refine ek_v (P := fun z => V g m_R_readsService 4 92 (0 + 1) (0 + 9) _ _ _ z _) e0 ?_
      refine V_new nl_R_59 d_R_readsService_35 (fun q hq => ?_)
      have hq' : q ∉ mm.2 := hq
      have hrq : rd ≠ q := fun z => hq' (z ▸ h1.1)
      have hA := DR_ad h hq' (.inr (3, svL (fun _ => 0)))
      have hxA := DR_rdr hA
      have hoA : Ob (ad mm q (.inr (3, svL (fun _ => 0)))) q 3 (svL (fun _ => 0)) := Ob_z
      have e1 : ad (rdM mm rd ts ed D.2.2.2.2.2.2 (p + 1)) q (.inr (3, svL (fun _ => 0))) = rdM (sM (ad mm q (.inr (3, svL (fun _ => 0)))) q (fun _ => 0)) rd ts ed D.2.2.2.2.2.2 (p + 1) := by
        rw [sM_ad]
        exact ad_com hrq
      refine ek_v (P := fun z => V g m_R_readsService 4 92 0 0 _ _ _ z _) e1 ?_
      refine V_dup d_R_readsService_38 rfl ?_
      refine V_iload_n d_R_readsService_39 rfl rfl ?_
      refine V_callI cb_S_init mi_R_61 rfl rfl rfl d_R_readsService_40 (c_S_init hg (sM_ob hxA hoA (fun _ => 0) (p + 1)) (hr tx p)) ⟨by decide, by decide⟩ rfl rfl (Nat.le_of_ble_eq_true rfl) (fun _ _ h => nomatch h.1) (fun v m2 hR => ?_)
      obtain ⟨hv9, e9⟩ := hR
      cases hv9
      subst m2
      refine ek_v (P := fun z => V g m_R_readsService 4 92 0 0 _ _ _ z _) (sM_put (v' := upd (fun _ => 0) 0 (hr tx p)) (Ne.symm hrq)) ?_
      have hxq := Rdr_s (v := upd (fun _ => 0) 0 (hr tx p)) hxA hoA
      have h2 := hxq.ob (p + 1)
      first | refine V_astore_n d_R_readsService_43 rfl rfl ?_ | refine V_astoreN_n d_R_readsService_43 rfl rfl ?_
      first | refine V_aload_n d_R_readsService_44 rfl rfl ?_ | refine V_aloadN_n d_R_readsService_44 rfl rfl ?_
      refine V_bipush (v := 58) d_R_readsService_45 (by decide) ?_
      refine VcallV cb_R_passes mv_R_64 rfl (ci := 2) rfl rfl d_R_readsService_47 (c_R_passes hg hxq (p := p + 1) (by omega) 58) ⟨by decide, by decide⟩ rfl (by repeat first | assumption | apply Ob_s | apply Ob_n) rfl (Nat.le_of_ble_eq_true rfl) (fun _ _ h => nomatch h.1) (fun v m2 hR => ?_)
      obtain ⟨hv9, e9⟩ := hR
      cases hv9
      subst m2
      refine V_if_eq (tgt := 78) d_R_readsService_50 (by decide) (fun h_50 => ?_) (fun h_50 => ?_)
      · have hc : ¬ hr tx (p + 1) = 58 := of_decide_eq_false (bi_eq0.mp h_50)
        refine V_iconst (v := 0) d_R_readsService_78 (by decide) ?_
        rw [if_neg hc, if_pos hc]
        exact V_iret d_R_readsService_79 rfl rfl (bad q hq' _ _ hp1 (by omega))
      · rw [bi_ne0] at h_50
        have hc := of_decide_eq_true h_50
        have q2 : p + 2 ≤ 500 := ps_le hT hc (by decide)
        rw [if_pos hc, if_neg (fun z => z hc)]
        have h3 := hxq.ob (p + 2)
        have hok := cap1_ok (v := upd (fun _ => 0) 0 (hr tx p)) hT q2
        first | refine V_aload_n d_R_readsService_53 rfl rfl ?_ | refine V_aloadN_n d_R_readsService_53 rfl rfl ?_
        first | refine V_aload_n d_R_readsService_54 rfl rfl ?_ | refine V_aloadN_n d_R_readsService_54 rfl rfl ?_
        refine VcallV cb_R_readsCapacity mv_R_67 rfl (ci := 2) rfl rfl d_R_readsService_55 (c_R_readsCapacity hg hxA hoA (upd (fun _ => 0) 0 (hr tx p)) q2) ⟨by decide, by decide⟩ rfl (by repeat first | assumption | apply Ob_s | apply Ob_n) rfl (Nat.le_of_ble_eq_true rfl) (fun _ _ h => nomatch h.1) (fun v m2 hR => ?_)
        obtain ⟨hv9, e9⟩ := hR
        cases hv9
        subst m2
        unfold se2
        generalize cap1 tx (upd (fun _ => 0) 0 (hr tx p)) (p + 2) = r1 at hok ⊢
        refine V_if_eq (tgt := 78) d_R_readsService_58 (by decide) (fun h_58 => ?_) (fun h_58 => ?_)
        · rw [bi_eq0] at h_58
          refine V_iconst (v := 0) d_R_readsService_78 (by decide) ?_
          rw [if_pos h_58]
          exact V_iret d_R_readsService_79 rfl rfl (bad q hq' _ _ hok.1 (by have := hok.2.1; omega))
        · rw [bi_ne0] at h_58
          rw [if_neg (by rw [h_58]; decide)]
          have hxq2 := Rdr_s (v := r1.2.1) hxA hoA
          have h4 := hxq2.ob r1.2.2
          have hok2 := pr1_ok (v := r1.2.1) hT hok.1
          first | refine V_aload_n d_R_readsService_61 rfl rfl ?_ | refine V_aloadN_n d_R_readsService_61 rfl rfl ?_
          first | refine V_aload_n d_R_readsService_62 rfl rfl ?_ | refine V_aloadN_n d_R_readsService_62 rfl rfl ?_
          refine VcallV cb_R_readsPrice mv_R_71 rfl (ci := 2) rfl rfl d_R_readsService_63 (c_R_readsPrice hg hxA hoA r1.2.1 hok.1) ⟨by decide, by decide⟩ rfl (by repeat first | assumption | apply Ob_s | apply Ob_n) rfl (Nat.le_of_ble_eq_true rfl) (fun _ _ h => nomatch h.1) (fun v m2 hR => ?_)
          obtain ⟨hv9, e9⟩ := hR
          cases hv9
          subst m2
          unfold se3
          generalize pr1 tx r1.2.1 r1.2.2 = r2 at hok2 ⊢
          have q3 : D.2.2.1 ≤ r2.2.2 := by have := hok.2.1; have := hok2.2.1; omega
          refine V_if_eq (tgt := 78) d_R_readsService_66 (by decide) (fun h_66 => ?_) (fun h_66 => ?_)
          · rw [bi_eq0] at h_66
            refine V_iconst (v := 0) d_R_readsService_78 (by decide) ?_
            rw [if_pos (Or.inl h_66)]
            exact V_iret d_R_readsService_79 rfl rfl (bad q hq' _ _ hok2.1 q3)
          · rw [bi_ne0] at h_66
            have hxq3 := Rdr_s (v := r2.2.1) hxA hoA
            have h5 := hxq3.ob r2.2.2
            first | refine V_aload_n d_R_readsService_69 rfl rfl ?_ | refine V_aloadN_n d_R_readsService_69 rfl rfl ?_
            refine V_bipush (v := 10) d_R_readsService_70 (by decide) ?_
            refine VcallV cb_R_passes mv_R_64 rfl (ci := 2) rfl rfl d_R_readsService_72 (c_R_passes hg hxq3 (p := r2.2.2) (by have := hok2.1; omega) 10) ⟨by decide, by decide⟩ rfl (by repeat first | assumption | apply Ob_s | apply Ob_n) rfl (Nat.le_of_ble_eq_true rfl) (fun _ _ h => nomatch h.1) (fun v m2 hR => ?_)
            obtain ⟨hv9, e9⟩ := hR
            cases hv9
            subst m2
            refine V_if_ne (tgt := 80) d_R_readsService_75 (by decide) (fun h_75 => ?_) (fun h_75 => ?_)
            · rw [bi_ne0] at h_75
              have hc3 := of_decide_eq_true h_75
              have q6 := ps_le hT hc3 (by decide)
              rw [if_pos hc3, if_neg (fun z => z.elim (fun q => by rw [h_66] at q; cases q) (fun q => q hc3))]
              refine ek_v (P := fun z => V g m_R_readsService 4 92 0 0 _ _ _ z _) (show rdM (sM (ad mm q (.inr (3, svL (fun _ => 0)))) q r2.2.1) rd ts ed D.2.2.2.2.2.2 (r2.2.2 + 1) = rdM (ad mm q (.inr (3, svL r2.2.1))) rd ts ed D.2.2.2.2.2.2 (r2.2.2 + 1) by rw [sM_ad]) ?_
              have hD2 := DR_p (DR_ad h hq' (.inr (3, svL r2.2.1))) q6 (Nat.le_trans q3 (Nat.le_succ _)) D.2.2.2.2.2.2
              have h9 := hD2.1
              have h10 := hD2.2.2.1
              have hoq : Ob (rdM (ad mm q (.inr (3, svL r2.2.1))) rd ts ed D.2.2.2.2.2.2 (r2.2.2 + 1)) q 3 (svL r2.2.1) := Ob_n Ob_z (Ne.symm hrq)
              obtain ⟨rf2, hS2⟩ := hD2.2.2.2.1
              have hl : r2.2.1 0 = hr tx p := hok2.2.2.trans (hok.2.2.trans rfl)
              first | refine V_aload_n d_R_readsService_80 rfl rfl ?_ | refine V_aloadN_n d_R_readsService_80 rfl rfl ?_
              refine Vget fl_R_18 d_R_readsService_81 (by repeat first | assumption | apply Ob_s | apply Ob_n) rfl ?_
              first | refine V_aload_n d_R_readsService_84 rfl rfl ?_ | refine V_aloadN_n d_R_readsService_84 rfl rfl ?_
              refine VcallV cb_E_addService mv_R_74 rfl (ci := 0) rfl rfl d_R_readsService_85 (c_E_addService hg h10 hS2.1 hk hoq) ⟨by decide, by decide⟩ rfl (by repeat first | assumption | apply Ob_s | apply Ob_n) rfl (Nat.le_of_ble_eq_true rfl) (fun _ _ h => nomatch h.1) (fun v m2 hR => ?_)
              obtain ⟨hv9, e9⟩ := hR
              cases hv9
              subst m2
              refine V_iconst (v := 1) d_R_readsService_88 (by decide) ?_
              refine V_iret d_R_readsService_89 rfl rfl ⟨rfl, fun i => if i = D.1 then q else sv i, DR_add hD2 hS2 hoq (fun j hj z => hq' (z ▸ ((hS.2.2 j hj).2).1)) hk (by rw [hl]; exact h_9) (fun j hj => by rw [hl]; exact hnew j (Nat.zero_le _) (by have : j < D.1 := hj; omega)), ?_, fun j hj => ?_⟩
              · exact Fr_up (Fr_up (Fr_up (Fr_ad Fr_rf hq') (Or.inl rfl)) (Or.inr (Or.inr (Or.inl rfl)))) (Or.inr (Or.inl rfl))
              · show (if j = D.1 then q else sv j) ∉ mm.2 ∨ j < D.1 ∧ (if j = D.1 then q else sv j) = sv j
                have hj' : j < D.1 + 1 := hj
                split
                · exact Or.inl hq'
                · exact Or.inr ⟨by omega, rfl⟩
            · have hc3 : ¬ hr tx r2.2.2 = 10 := of_decide_eq_false (bi_eq0.mp (by simpa using h_75))
              refine V_iconst (v := 0) d_R_readsService_78 (by decide) ?_
              rw [if_neg hc3, if_pos (Or.inr hc3)]
              exact V_iret d_R_readsService_79 rfl rfl (bad q hq' _ _ hok2.1 q3)
end C9
