/-! the law's loop and its start -/
section L4
variable {g : GG} {b K x a ou : Nat} {xs : Nat → Int32}
theorem sc_go {t K : Nat} (hK : K ≤ 2560) (ht : 5 * t ≤ K) (h : ¬ nI K - 5 < nI (5 * t)) : 5 * t + 5 ≤ K := by
  by_cases q : 5 ≤ K
  · have e : nI K - 5 = nI (K - 5) := by
      have z := nI_subC (K - 5) 5
      rw [show K - 5 + 5 = K from by omega] at z
      exact z
    rw [e, Int32.lt_iff_toInt_lt, nI_toInt (by omega), nI_toInt (by omega)] at h
    omega
  · exfalso
    apply h
    have hk : K = 0 ∨ K = 1 ∨ K = 2 ∨ K = 3 ∨ K = 4 := by omega
    have h0 : t = 0 := by omega
    subst h0
    rcases hk with rfl | rfl | rfl | rfl | rfl <;> decide
theorem l_loop (hg : GO g) (hX : va_X b K xs g.1 g.1.heap) (hbl : b < g.1.heap.size) (hK : K ≤ 2560) : ∀ (N t : Nat) (m : Mm), 5 * t ≤ K → K < 5 * t + 5 * N + 5 → LI g m x a ou → V g m_L_law 9 182 (506 * N) (4566 * N) 23 (lwo b x a ou (nI (5 * t))) [] m (fun o _ => o = oI 1) := by
  intro N
  induction N with
  | zero =>
    intro t m ht hN hI
    refine V_iload d_L_law_23 rfl ?_
    first | refine V_aload_n d_L_law_25 rfl rfl ?_ | refine V_aloadN_n d_L_law_25 rfl rfl ?_
    refine V_slen d_L_law_26 hX hbl ?_
    refine V_iconst (v := 5) d_L_law_27 (by decide) ?_
    refine V_isub d_L_law_28 ?_
    refine V_icmp_gt (tgt := 947) d_L_law_29 (by decide) (fun h_29 => ?_) (fun h_29 => ?_)
    · refine V_iconst (v := 1) d_L_law_947 (by decide) ?_
      exact V_iret d_L_law_948 rfl rfl rfl
    · exact absurd (sc_go hK ht h_29) (by omega)
  | succ N ih =>
    intro t m ht hN hI
    refine V_iload d_L_law_23 rfl ?_
    first | refine V_aload_n d_L_law_25 rfl rfl ?_ | refine V_aloadN_n d_L_law_25 rfl rfl ?_
    refine V_slen d_L_law_26 hX hbl ?_
    refine V_iconst (v := 5) d_L_law_27 (by decide) ?_
    refine V_isub d_L_law_28 ?_
    refine V_icmp_gt (tgt := 947) d_L_law_29 (by decide) (fun h_29 => ?_) (fun h_29 => ?_)
    · refine V_iconst (v := 1) d_L_law_947 (by decide) ?_
      exact V_iret d_L_law_948 rfl rfl rfl
    · have hi := sc_go hK ht h_29
      have j0 : vp_in (nI (5 * t)) K := vp_nI (by omega) (by omega)
      have k : ∀ m', LI g m' x a ou → V g m_L_law 9 182 (506 * N) (4566 * N) 941 (lwo b x a ou (nI (5 * t))) [] m' (fun o _ => o = oI 1) := by
        intro m' hI'
        refine V_iinc (v := nI (5 * (t + 1))) d_L_law_941 rfl (nI_add (5 * t) 5) rfl ?_
        refine V_goto (tgt := 23) d_L_law_944 (by decide) ?_
        exact V_lo (lwo b x a ou (nI (5 * (t + 1)))) ⟨rfl, rfl, rfl, rfl, rfl, trivial⟩ (ih (t + 1) m' (by omega) (by omega) hI')
      refine V_bud (bc' := 506 * N + 506) (bs' := 4566 * N + 4566) (by omega) (by omega) ?_
      first | refine V_aload_n d_L_law_32 rfl rfl ?_ | refine V_aloadN_n d_L_law_32 rfl rfl ?_
      refine V_iload d_L_law_33 rfl ?_
      refine V_sld d_L_law_35 hX hbl (by assumption) ?_
      refine V_bipush (v := 15) d_L_law_36 (by decide) ?_
      refine V_iand d_L_law_38 ?_
      rcases tabC (xs (nI (5 * t)).toNatClampNeg &&& 15) 14 with ⟨j, hj, e⟩ | h
      · rw [e]
        have hj' : j = 0 ∨ j = 1 ∨ j = 2 ∨ j = 3 ∨ j = 4 ∨ j = 5 ∨ j = 6 ∨ j = 7 ∨ j = 8 ∨ j = 9 ∨ j = 10 ∨ j = 11 ∨ j = 12 ∨ j = 13 ∨ j = 14 := by omega
        rcases hj' with rfl | rfl | rfl | rfl | rfl | rfl | rfl | rfl | rfl | rfl | rfl | rfl | rfl | rfl | rfl
        · refine V_tabIn (x := nI 0) (off := 73) (tgt := 112) d_L_law_39 (by decide) (by decide) (by decide +kernel) (by decide) ?_
          exact l_sign hg hX hbl hK hi hI k
        · refine V_tabIn (x := nI 1) (off := 109) (tgt := 148) d_L_law_39 (by decide) (by decide) (by decide +kernel) (by decide) ?_
          exact l_read hg hX hbl hK hi hI k
        · refine V_tabIn (x := nI 2) (off := 165) (tgt := 204) d_L_law_39 (by decide) (by decide) (by decide +kernel) (by decide) ?_
          exact l_today hg hX hbl hK hi hI k
        · refine V_tabIn (x := nI 3) (off := 221) (tgt := 260) d_L_law_39 (by decide) (by decide) (by decide +kernel) (by decide) ?_
          exact l_fits hg hX hbl hK hi hI k
        · refine V_tabIn (x := nI 4) (off := 313) (tgt := 352) d_L_law_39 (by decide) (by decide) (by decide +kernel) (by decide) ?_
          exact l_at hg hX hbl hK hi hI k
        · refine V_tabIn (x := nI 5) (off := 338) (tgt := 377) d_L_law_39 (by decide) (by decide) (by decide +kernel) (by decide) ?_
          exact l_price hg hX hbl hK hi hI k
        · refine V_tabIn (x := nI 6) (off := 406) (tgt := 445) d_L_law_39 (by decide) (by decide) (by decide +kernel) (by decide) ?_
          exact l_zone hg hX hbl hK hi hI k
        · refine V_tabIn (x := nI 7) (off := 462) (tgt := 501) d_L_law_39 (by decide) (by decide) (by decide +kernel) (by decide) ?_
          exact l_hours hg hX hbl hK hi hI k
        · refine V_tabIn (x := nI 8) (off := 537) (tgt := 576) d_L_law_39 (by decide) (by decide) (by decide +kernel) (by decide) ?_
          exact l_label hg hX hbl hK hi hI k
        · refine V_tabIn (x := nI 9) (off := 605) (tgt := 644) d_L_law_39 (by decide) (by decide) (by decide +kernel) (by decide) ?_
          exact l_print hg hX hbl hK hi hI k
        · refine V_tabIn (x := nI 10) (off := 673) (tgt := 712) d_L_law_39 (by decide) (by decide) (by decide +kernel) (by decide) ?_
          exact l_out hg hX hbl hK hi hI k
        · refine V_tabIn (x := nI 11) (off := 729) (tgt := 768) d_L_law_39 (by decide) (by decide) (by decide +kernel) (by decide) ?_
          exact l_number hg hX hbl hK hi hI k
        · refine V_tabIn (x := nI 12) (off := 765) (tgt := 804) d_L_law_39 (by decide) (by decide) (by decide +kernel) (by decide) ?_
          exact l_track hg hX hbl hK hi hI k
        · refine V_tabIn (x := nI 13) (off := 809) (tgt := 848) d_L_law_39 (by decide) (by decide) (by decide +kernel) (by decide) ?_
          exact l_told hg hX hbl hK hi hI k
        · refine V_tabIn (x := nI 14) (off := 877) (tgt := 916) d_L_law_39 (by decide) (by decide) (by decide +kernel) (by decide) ?_
          exact l_count hg hX hbl hK hi hI k
      · refine V_tabOut (tgt := 941) d_L_law_39 h (by decide) ?_
        exact V_bud (by omega) (by omega) (k m hI)
theorem B_inv {B : Nat → Nat} (hj : ∀ k l, mdN k ≠ 0 → mdN l ≠ 0 → B k = B l → k = l) : ∃ c : Nat → Nat, ∀ k, mdN k ≠ 0 → c (B k) = k := by
  have h : ∀ b, ∃ j, ∀ k, mdN k ≠ 0 → B k = b → k = j := fun b => by
    by_cases q : ∃ k, mdN k ≠ 0 ∧ B k = b
    · obtain ⟨k, hk, e⟩ := q
      exact ⟨k, fun l hl e' => hj l k hl hk (e'.trans e.symm)⟩
    · exact ⟨0, fun k hk e => absurd ⟨k, hk, e⟩ q⟩
  exact ⟨fun b => Classical.choose (h b), fun k hk => (Classical.choose_spec (h (B k)) k hk rfl).symm⟩
theorem RM_in : RM sc00 (fun _ _ => 0) z0 z0 z0 0 0 0 (fun _ => 0) ed0 := by
  have q : ∀ k, RQ 0 (fun _ => 0) z0 k := fun k => ⟨rfl, Nat.zero_le _, fun j hj => absurd hj (Nat.not_lt_zero j)⟩
  exact ⟨q 500, q 20, ⟨q 37, fun j hj => absurd hj (Nat.not_lt_zero j)⟩, ⟨rfl, Nat.zero_le _⟩, rfl, q 8, fun i hi => absurd hi (Nat.not_lt_zero i)⟩
theorem LI_0 {mT mM : Mm} {A : Nat → Nat} {E : Nat → Nat → Nat} {col B : Nat → Nat} {e0 : va_E} (hC : CR g mT A E col z0 z0 z0 0 0 0 (fun _ => 0) ed0) (ha : a ∉ mT.2) (hM : Md g mM mM a B sc00 (fun _ _ => 0)) (hF : Fr (fun b => b = a) (ad mT a e0) mM) (hn : ∀ k, mdN k ≠ 0 → B k ∉ (ad mT a e0).2) (ho : ou ∉ mM.2) : LI g (ad mM ou (.inl (g.2.2.2.2 1, 1, .inr (.inl (fun _ => 0))))) (A 0) a ou := by
  obtain ⟨c, hc⟩ := B_inv hM.2.2.1
  have hT : Fr (fun b => b = a) mT mM := Fr_tr (Fr_ad Fr_rf ha) hF (fun b _ z => z)
  have o1 : ou ∉ mT.2 := fun z => ho (hT.1 _ z)
  have o2 : a ≠ ou := fun z => ho (z ▸ hM.1.1)
  refine ⟨A, E, fun b => if b ∈ mT.2 then col b else if b = ou then 900 else if b = a then 1000 else 1001 + c b, B, sc00, fun _ _ => 0, fun _ => 0, z0, z0, z0, 0, 0, 0, fun _ => 0, ed0, rfl, ⟨CR_hi (CR_co hC (fun b hb => if_pos hb)) (Fr_ad (Fr_mono hT (fun b z => ?_)) ho), Md_fr (S := fun _ => False) hM (Fr_ad Fr_rf ho) (fun z => z) (fun _ _ z => z), La_z, ?_, ?_, fun k hk => ?_⟩, RM_in⟩
  · have z' : b = a := z
    subst z'
    show 900 ≤ (if b ∈ mT.2 then col b else if b = ou then 900 else if b = b then 1000 else 1001 + c b)
    rw [if_neg ha, if_neg o2, if_pos rfl]
    omega
  · show (if ou ∈ mT.2 then col ou else if ou = ou then 900 else if ou = a then 1000 else 1001 + c ou) = 900
    rw [if_neg o1, if_pos rfl]
  · show (if a ∈ mT.2 then col a else if a = ou then 900 else if a = a then 1000 else 1001 + c a) = 1000
    rw [if_neg ha, if_neg o2, if_pos rfl]
  · have n1 : B k ∉ mT.2 := fun z => hn k hk (List.mem_append_left _ z)
    have n2 : ¬ B k = ou := fun z => ho (z ▸ (hM.2.1 k hk).1)
    have n3 : ¬ B k = a := fun z => hn k hk (List.mem_append_right _ (by rw [z]; exact List.mem_cons_self))
    show (if B k ∈ mT.2 then col (B k) else if B k = ou then 900 else if B k = a then 1000 else 1001 + c (B k)) = 1001 + k
    rw [if_neg n1, if_neg n2, if_neg n3, hc k hk]
theorem l_body (hg : GO g) (hX : va_X b K xs g.1 g.1.heap) (hbl : b < g.1.heap.size) (hK : K ≤ 2560) (m : Mm) : V g m_L_law 9 182 259114 2339703 0 [(0, .ref b)] [] m (fun o _ => o = oI 1) := by
  refine V_new (bc := 259113) (bs := 2339695) nl_L_8 d_L_law_0 (fun x hx => ?_)
  refine V_dup d_L_law_3 rfl ?_
  refine V_callI (bc := 259097) (bs := 2339048) (mc' := 16) (ms' := 647) cb_T_init mi_L_62 rfl rfl rfl d_L_law_4 (c_T_init hg (Ob_z (mm := m) (a := x))) ⟨by decide, by decide⟩ rfl rfl (Nat.le_of_ble_eq_true rfl) (fun _ _ h => nomatch h.1) (fun v mT hR => ?_)
  obtain ⟨hv9, A, E, col, hA, hC, hF1⟩ := hR
  cases hv9
  subst hA
  first | refine V_astore_n d_L_law_7 rfl rfl ?_ | refine V_astoreN_n d_L_law_7 rfl rfl ?_
  refine V_new (bc := 259096) (bs := 2339013) nl_L_63 d_L_law_8 (fun a ha => ?_)
  refine V_dup d_L_law_11 rfl ?_
  refine V_callI (bc := 259073) (bs := 2337793) (mc' := 23) (ms' := 1220) cb_M_init mi_L_65 rfl rfl rfl d_L_law_12 (c_M_init hg (Ob_z (mm := mT) (a := a))) ⟨by decide, by decide⟩ rfl rfl (Nat.le_of_ble_eq_true rfl) (fun _ _ h => nomatch h.1) (fun v mM hR => ?_)
  obtain ⟨hv9, B, hM, hF2, hnB⟩ := hR
  cases hv9
  first | refine V_astore_n d_L_law_15 rfl rfl ?_ | refine V_astoreN_n d_L_law_15 rfl rfl ?_
  refine V_iconst (v := 1) d_L_law_16 (by decide) ?_
  refine V_newJ (bc := 259072) (bs := 2337792) (N := 1) ac_J d_L_law_17 (by decide) (by decide) (by decide) (fun ou ho => ?_)
  first | refine V_astore_n d_L_law_19 rfl rfl ?_ | refine V_astoreN_n d_L_law_19 rfl rfl ?_
  refine V_iconst (v := 0) d_L_law_20 (by decide) ?_
  refine V_istore d_L_law_21 rfl ?_
  exact V_lo (lwo b (A 0) a ou (nI (5 * 0))) ⟨rfl, rfl, rfl, rfl, rfl, trivial⟩ (l_loop hg hX hbl hK 512 0 _ (by omega) (by omega) (LI_0 hC ha hM hF2 hnB ho))
end L4
