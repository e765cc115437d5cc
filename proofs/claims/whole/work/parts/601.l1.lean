/-! the law's helpers: what is thrown becomes a number -/
def Hq (g : GG) (L : List String) (Fi' : Ou → Mm → Prop) (ou : Nat) (f : Nat → Int64) : Ou → Mm → Prop := fun o m' => ∃ r m1, Fi' r m1 ∧ ((∃ w, r = oI w ∧ o = oI 0 ∧ m' = up m1 ou (.inl (g.2.2.2.2 1, 1, .inr (.inl (vp_updL f 0 w.toInt64))))) ∨ ∃ E, r = .inr E ∧ E ∈ L ∧ o = oI (kX L E) ∧ m' = m1)
def Hv (L : List String) (Fi' : Ou → Mm → Prop) : Ou → Mm → Prop := fun o m' => ∃ r m1, Fi' r m1 ∧ ((r = .inl none ∧ o = oI 0 ∧ m' = m1) ∨ ∃ E, r = .inr E ∧ E ∈ L ∧ o = oI (kX L E) ∧ m' = m1)
section L1
variable {g : GG} {mm : Mm} {x ou : Nat} {fs : List Value} {f : Nat → Int64}
theorem c_L_sign (hg : GO g) {Fi' : Ou → Mm → Prop} {p0 : Int32} (hC : CT g m_T_sign 6 90 1 6 [.ref x, .int p0] mm Fi') (hO : Ob mm x 5 fs) (hI : ∀ v m1, Fi' (.inl v) m1 → v = none) (hE : ∀ E m1, Fi' (.inr E) m1 → E ∈ ([xIA, xUO] : List String)) : CT g m_L_sign 7 111 1 6 [.ref x, .int p0] mm (Hv [xIA, xUO] Fi') := by
  refine CT_go (lo := [(0, .ref x), (1, .int p0)]) rfl rfl rfl rfl hg ?_
  first | refine V_aload_n d_L_sign_0 rfl rfl ?_ | refine V_aloadN_n d_L_sign_0 rfl rfl ?_
  refine V_iload_n d_L_sign_1 rfl rfl ?_
  refine V_callX (bc := 0) (bs := 0) (mc' := 1) (ms' := 6) cb_T_sign mv_L_7 rfl (ci := 5) rfl d_L_sign_2 hC ⟨by decide, by decide⟩ rfl hO.1 hO.2 rfl (Nat.le_of_ble_eq_true rfl) (by decide) (fun E m1 hF => ?_) (fun v m1 hF => ?_)
  · have hE' := hE E m1 hF
    simp only [List.mem_cons, List.not_mem_nil, or_false] at hE'
    rcases hE' with rfl | rfl
    · refine ⟨[], ⟨0, 5, 8, 13⟩, [⟨0, 5, 11, 15⟩], rfl, (fun z hz => nomatch hz), cl_L_13, ca_java_lang_IllegalArgumentException, fun q => ?_⟩
      first | refine V_astore_n d_L_sign_8 rfl rfl ?_ | refine V_astoreN_n d_L_sign_8 rfl rfl ?_
      refine V_iconst (v := 1) d_L_sign_9 (by decide) ?_
      exact V_iret d_L_sign_10 rfl rfl ⟨_, m1, hF, Or.inr ⟨_, rfl, by simp, congrArg oI (by decide), rfl⟩⟩
    · refine ⟨[⟨0, 5, 8, 13⟩], ⟨0, 5, 11, 15⟩, [], rfl, (fun z hz => by rcases List.mem_singleton.mp hz with rfl; exact ⟨_, cl_L_13, by decide⟩), cl_L_15, ca_java_lang_UnsupportedOperationException, fun q => ?_⟩
      first | refine V_astore_n d_L_sign_11 rfl rfl ?_ | refine V_astoreN_n d_L_sign_11 rfl rfl ?_
      refine V_iconst (v := 2) d_L_sign_12 (by decide) ?_
      exact V_iret d_L_sign_13 rfl rfl ⟨_, m1, hF, Or.inr ⟨_, rfl, by simp, congrArg oI (by decide), rfl⟩⟩
  · have hv := hI v m1 hF
    subst hv
    refine V_goto (tgt := 14) d_L_sign_5 (by decide) ?_
    refine V_iconst (v := 0) d_L_sign_14 (by decide) ?_
    exact V_iret d_L_sign_15 rfl rfl ⟨_, m1, hF, Or.inl ⟨rfl, rfl, rfl⟩⟩
theorem c_L_read (hg : GO g) {Fi' : Ou → Mm → Prop} {p0 : Int32} (hC : CT g m_T_read 6 137 506 4566 [.ref x, .int p0] mm Fi') (hO : Ob mm x 5 fs) (hI : ∀ v m1, Fi' (.inl v) m1 → (∃ w, v = some (.int w)) ∧ La g m1 ou 1 f) (hE : ∀ E m1, Fi' (.inr E) m1 → E ∈ ([xIA, xUO] : List String)) : CT g m_L_read 7 159 506 4566 [.ref x, .int p0, .ref ou] mm (Hq g [xIA, xUO] Fi' ou f) := by
  refine CT_go (lo := [(0, .ref x), (1, .int p0), (2, .ref ou)]) rfl rfl rfl rfl hg ?_
  first | refine V_aload_n d_L_read_0 rfl rfl ?_ | refine V_aloadN_n d_L_read_0 rfl rfl ?_
  refine V_iconst (v := 0) d_L_read_1 (by decide) ?_
  first | refine V_aload_n d_L_read_2 rfl rfl ?_ | refine V_aloadN_n d_L_read_2 rfl rfl ?_
  refine V_iload_n d_L_read_3 rfl rfl ?_
  refine V_callX (bc := 0) (bs := 0) (mc' := 506) (ms' := 4566) cb_T_read mv_L_17 rfl (ci := 5) rfl d_L_read_4 hC ⟨by decide, by decide⟩ rfl hO.1 hO.2 rfl (Nat.le_of_ble_eq_true rfl) (by decide) (fun E m1 hF => ?_) (fun v m1 hF => ?_)
  · have hE' := hE E m1 hF
    simp only [List.mem_cons, List.not_mem_nil, or_false] at hE'
    rcases hE' with rfl | rfl
    · refine ⟨[], ⟨0, 9, 12, 13⟩, [⟨0, 9, 15, 15⟩], rfl, (fun z hz => nomatch hz), cl_L_13, ca_java_lang_IllegalArgumentException, fun q => ?_⟩
      first | refine V_astore_n d_L_read_12 rfl rfl ?_ | refine V_astoreN_n d_L_read_12 rfl rfl ?_
      refine V_iconst (v := 1) d_L_read_13 (by decide) ?_
      exact V_iret d_L_read_14 rfl rfl ⟨_, m1, hF, Or.inr ⟨_, rfl, by simp, congrArg oI (by decide), rfl⟩⟩
    · refine ⟨[⟨0, 9, 12, 13⟩], ⟨0, 9, 15, 15⟩, [], rfl, (fun z hz => by rcases List.mem_singleton.mp hz with rfl; exact ⟨_, cl_L_13, by decide⟩), cl_L_15, ca_java_lang_UnsupportedOperationException, fun q => ?_⟩
      first | refine V_astore_n d_L_read_15 rfl rfl ?_ | refine V_astoreN_n d_L_read_15 rfl rfl ?_
      refine V_iconst (v := 2) d_L_read_16 (by decide) ?_
      exact V_iret d_L_read_17 rfl rfl ⟨_, m1, hF, Or.inr ⟨_, rfl, by simp, congrArg oI (by decide), rfl⟩⟩
  · obtain ⟨⟨w, rfl⟩, hL⟩ := hI v m1 hF
    have hin : vp_in (0 : Int32) 1 := vp_nI (j := 0) (by omega) (by omega)
    refine V_i2l d_L_read_7 ?_
    refine Vlast d_L_read_8 (by repeat first | assumption | apply La_s | apply La_n) (by assumption) ?_
    refine V_goto (tgt := 18) d_L_read_9 (by decide) ?_
    refine V_iconst (v := 0) d_L_read_18 (by decide) ?_
    exact V_iret d_L_read_19 rfl rfl ⟨_, m1, hF, Or.inl ⟨w, rfl, rfl, rfl⟩⟩
theorem c_L_today (hg : GO g) {Fi' : Ou → Mm → Prop} {p0 : Int32} (hC : CT g m_T_today 6 90 1 6 [.ref x, .int p0] mm Fi') (hO : Ob mm x 5 fs) (hI : ∀ v m1, Fi' (.inl v) m1 → (∃ w, v = some (.int w)) ∧ La g m1 ou 1 f) (hE : ∀ E m1, Fi' (.inr E) m1 → E ∈ ([xIA] : List String)) : CT g m_L_today 7 111 1 6 [.ref x, .int p0, .ref ou] mm (Hq g [xIA] Fi' ou f) := by
  refine CT_go (lo := [(0, .ref x), (1, .int p0), (2, .ref ou)]) rfl rfl rfl rfl hg ?_
  first | refine V_aload_n d_L_today_0 rfl rfl ?_ | refine V_aloadN_n d_L_today_0 rfl rfl ?_
  refine V_iconst (v := 0) d_L_today_1 (by decide) ?_
  first | refine V_aload_n d_L_today_2 rfl rfl ?_ | refine V_aloadN_n d_L_today_2 rfl rfl ?_
  refine V_iload_n d_L_today_3 rfl rfl ?_
  refine V_callX (bc := 0) (bs := 0) (mc' := 1) (ms' := 6) cb_T_today mv_L_21 rfl (ci := 5) rfl d_L_today_4 hC ⟨by decide, by decide⟩ rfl hO.1 hO.2 rfl (Nat.le_of_ble_eq_true rfl) (by decide) (fun E m1 hF => ?_) (fun v m1 hF => ?_)
  · have hE' := hE E m1 hF
    simp only [List.mem_cons, List.not_mem_nil, or_false] at hE'
    subst hE'
    refine ⟨[], ⟨0, 9, 12, 13⟩, [], rfl, (fun z hz => nomatch hz), cl_L_13, ca_java_lang_IllegalArgumentException, fun q => ?_⟩
    first | refine V_astore_n d_L_today_12 rfl rfl ?_ | refine V_astoreN_n d_L_today_12 rfl rfl ?_
    refine V_iconst (v := 1) d_L_today_13 (by decide) ?_
    exact V_iret d_L_today_14 rfl rfl ⟨_, m1, hF, Or.inr ⟨_, rfl, by simp, congrArg oI (by decide), rfl⟩⟩
  · obtain ⟨⟨w, rfl⟩, hL⟩ := hI v m1 hF
    have hin : vp_in (0 : Int32) 1 := vp_nI (j := 0) (by omega) (by omega)
    refine V_i2l d_L_today_7 ?_
    refine Vlast d_L_today_8 (by repeat first | assumption | apply La_s | apply La_n) (by assumption) ?_
    refine V_goto (tgt := 15) d_L_today_9 (by decide) ?_
    refine V_iconst (v := 0) d_L_today_15 (by decide) ?_
    exact V_iret d_L_today_16 rfl rfl ⟨_, m1, hF, Or.inl ⟨w, rfl, rfl, rfl⟩⟩
theorem c_L_fits (hg : GO g) {Fi' : Ou → Mm → Prop} {p0 p1 p2 p3 : Int32} (hC : CT g m_T_fits 7 111 1 6 [.ref x, .int p0, .int p1, .int p2, .int p3] mm Fi') (hO : Ob mm x 5 fs) (hI : ∀ v m1, Fi' (.inl v) m1 → (∃ w, v = some (.int w)) ∧ La g m1 ou 1 f) (hE : ∀ E m1, Fi' (.inr E) m1 → E ∈ ([xIA, xIS] : List String)) : CT g m_L_fits 8 138 1 6 [.ref x, .int p0, .int p1, .int p2, .int p3, .ref ou] mm (Hq g [xIA, xIS] Fi' ou f) := by
  refine CT_go (lo := [(0, .ref x), (1, .int p0), (2, .int p1), (3, .int p2), (4, .int p3), (5, .ref ou)]) rfl rfl rfl rfl hg ?_
  first | refine V_aload d_L_fits_0 rfl ?_ | refine V_aloadN d_L_fits_0 rfl ?_
  refine V_iconst (v := 0) d_L_fits_2 (by decide) ?_
  first | refine V_aload_n d_L_fits_3 rfl rfl ?_ | refine V_aloadN_n d_L_fits_3 rfl rfl ?_
  refine V_iload_n d_L_fits_4 rfl rfl ?_
  refine V_iload_n d_L_fits_5 rfl rfl ?_
  refine V_iload_n d_L_fits_6 rfl rfl ?_
  refine V_iload d_L_fits_7 rfl ?_
  refine V_callX (bc := 0) (bs := 0) (mc' := 1) (ms' := 6) cb_T_fits mv_L_24 rfl (ci := 5) rfl d_L_fits_9 hC ⟨by decide, by decide⟩ rfl hO.1 hO.2 rfl (Nat.le_of_ble_eq_true rfl) (by decide) (fun E m1 hF => ?_) (fun v m1 hF => ?_)
  · have hE' := hE E m1 hF
    simp only [List.mem_cons, List.not_mem_nil, or_false] at hE'
    rcases hE' with rfl | rfl
    · refine ⟨[], ⟨0, 14, 17, 13⟩, [⟨0, 14, 21, 28⟩], rfl, (fun z hz => nomatch hz), cl_L_13, ca_java_lang_IllegalArgumentException, fun q => ?_⟩
      first | refine V_astore d_L_fits_17 rfl ?_ | refine V_astoreN d_L_fits_17 rfl ?_
      refine V_iconst (v := 1) d_L_fits_19 (by decide) ?_
      exact V_iret d_L_fits_20 rfl rfl ⟨_, m1, hF, Or.inr ⟨_, rfl, by simp, congrArg oI (by decide), rfl⟩⟩
    · refine ⟨[⟨0, 14, 17, 13⟩], ⟨0, 14, 21, 28⟩, [], rfl, (fun z hz => by rcases List.mem_singleton.mp hz with rfl; exact ⟨_, cl_L_13, by decide⟩), cl_L_28, ca_java_lang_IllegalStateException, fun q => ?_⟩
      first | refine V_astore d_L_fits_21 rfl ?_ | refine V_astoreN d_L_fits_21 rfl ?_
      refine V_iconst (v := 2) d_L_fits_23 (by decide) ?_
      exact V_iret d_L_fits_24 rfl rfl ⟨_, m1, hF, Or.inr ⟨_, rfl, by simp, congrArg oI (by decide), rfl⟩⟩
  · obtain ⟨⟨w, rfl⟩, hL⟩ := hI v m1 hF
    have hin : vp_in (0 : Int32) 1 := vp_nI (j := 0) (by omega) (by omega)
    refine V_i2l d_L_fits_12 ?_
    refine Vlast d_L_fits_13 (by repeat first | assumption | apply La_s | apply La_n) (by assumption) ?_
    refine V_goto (tgt := 25) d_L_fits_14 (by decide) ?_
    refine V_iconst (v := 0) d_L_fits_25 (by decide) ?_
    exact V_iret d_L_fits_26 rfl rfl ⟨_, m1, hF, Or.inl ⟨w, rfl, rfl, rfl⟩⟩
theorem c_L_price (hg : GO g) {Fi' : Ou → Mm → Prop} {p0 p1 : Int32} (hC : CT g m_T_price 7 111 1 6 [.ref x, .int p0, .int p1] mm Fi') (hO : Ob mm x 5 fs) (hI : ∀ v m1, Fi' (.inl v) m1 → (∃ w, v = some (.int w)) ∧ La g m1 ou 1 f) (hE : ∀ E m1, Fi' (.inr E) m1 → E ∈ ([xNE, xIA, xIS] : List String)) : CT g m_L_price 8 134 1 6 [.ref x, .int p0, .int p1, .ref ou] mm (Hq g [xNE, xIA, xIS] Fi' ou f) := by
  refine CT_go (lo := [(0, .ref x), (1, .int p0), (2, .int p1), (3, .ref ou)]) rfl rfl rfl rfl hg ?_
  first | refine V_aload_n d_L_price_0 rfl rfl ?_ | refine V_aloadN_n d_L_price_0 rfl rfl ?_
  refine V_iconst (v := 0) d_L_price_1 (by decide) ?_
  first | refine V_aload_n d_L_price_2 rfl rfl ?_ | refine V_aloadN_n d_L_price_2 rfl rfl ?_
  refine V_iload_n d_L_price_3 rfl rfl ?_
  refine V_iload_n d_L_price_4 rfl rfl ?_
  refine V_callX (bc := 0) (bs := 0) (mc' := 1) (ms' := 6) cb_T_price mv_L_30 rfl (ci := 5) rfl d_L_price_5 hC ⟨by decide, by decide⟩ rfl hO.1 hO.2 rfl (Nat.le_of_ble_eq_true rfl) (by decide) (fun E m1 hF => ?_) (fun v m1 hF => ?_)
  · have hE' := hE E m1 hF
    simp only [List.mem_cons, List.not_mem_nil, or_false] at hE'
    rcases hE' with rfl | rfl | rfl
    · refine ⟨[], ⟨0, 10, 13, 34⟩, [⟨0, 10, 17, 13⟩, ⟨0, 10, 21, 28⟩], rfl, (fun z hz => nomatch hz), cl_L_34, ca_java_util_NoSuchElementException, fun q => ?_⟩
      first | refine V_astore d_L_price_13 rfl ?_ | refine V_astoreN d_L_price_13 rfl ?_
      refine V_iconst (v := 1) d_L_price_15 (by decide) ?_
      exact V_iret d_L_price_16 rfl rfl ⟨_, m1, hF, Or.inr ⟨_, rfl, by simp, congrArg oI (by decide), rfl⟩⟩
    · refine ⟨[⟨0, 10, 13, 34⟩], ⟨0, 10, 17, 13⟩, [⟨0, 10, 21, 28⟩], rfl, (fun z hz => by rcases List.mem_singleton.mp hz with rfl; exact ⟨_, cl_L_34, by decide⟩), cl_L_13, ca_java_lang_IllegalArgumentException, fun q => ?_⟩
      first | refine V_astore d_L_price_17 rfl ?_ | refine V_astoreN d_L_price_17 rfl ?_
      refine V_iconst (v := 2) d_L_price_19 (by decide) ?_
      exact V_iret d_L_price_20 rfl rfl ⟨_, m1, hF, Or.inr ⟨_, rfl, by simp, congrArg oI (by decide), rfl⟩⟩
    · refine ⟨[⟨0, 10, 13, 34⟩, ⟨0, 10, 17, 13⟩], ⟨0, 10, 21, 28⟩, [], rfl, (fun z hz => by
          rcases List.mem_cons.mp hz with rfl | hz
          · exact ⟨_, cl_L_34, by decide⟩
          · rcases List.mem_singleton.mp hz with rfl
            exact ⟨_, cl_L_13, by decide⟩), cl_L_28, ca_java_lang_IllegalStateException, fun q => ?_⟩
      first | refine V_astore d_L_price_21 rfl ?_ | refine V_astoreN d_L_price_21 rfl ?_
      refine V_iconst (v := 3) d_L_price_23 (by decide) ?_
      exact V_iret d_L_price_24 rfl rfl ⟨_, m1, hF, Or.inr ⟨_, rfl, by simp, congrArg oI (by decide), rfl⟩⟩
  · obtain ⟨⟨w, rfl⟩, hL⟩ := hI v m1 hF
    have hin : vp_in (0 : Int32) 1 := vp_nI (j := 0) (by omega) (by omega)
    refine V_i2l d_L_price_8 ?_
    refine Vlast d_L_price_9 (by repeat first | assumption | apply La_s | apply La_n) (by assumption) ?_
    refine V_goto (tgt := 25) d_L_price_10 (by decide) ?_
    refine V_iconst (v := 0) d_L_price_25 (by decide) ?_
    exact V_iret d_L_price_26 rfl rfl ⟨_, m1, hF, Or.inl ⟨w, rfl, rfl, rfl⟩⟩
theorem c_L_zone (hg : GO g) {Fi' : Ou → Mm → Prop} {p0 : Int32} (hC : CT g m_T_zone 7 111 1 6 [.ref x, .int p0] mm Fi') (hO : Ob mm x 5 fs) (hI : ∀ v m1, Fi' (.inl v) m1 → (∃ w, v = some (.int w)) ∧ La g m1 ou 1 f) (hE : ∀ E m1, Fi' (.inr E) m1 → E ∈ ([xIA, xIS] : List String)) : CT g m_L_zone 8 132 1 6 [.ref x, .int p0, .ref ou] mm (Hq g [xIA, xIS] Fi' ou f) := by
  refine CT_go (lo := [(0, .ref x), (1, .int p0), (2, .ref ou)]) rfl rfl rfl rfl hg ?_
  first | refine V_aload_n d_L_zone_0 rfl rfl ?_ | refine V_aloadN_n d_L_zone_0 rfl rfl ?_
  refine V_iconst (v := 0) d_L_zone_1 (by decide) ?_
  first | refine V_aload_n d_L_zone_2 rfl rfl ?_ | refine V_aloadN_n d_L_zone_2 rfl rfl ?_
  refine V_iload_n d_L_zone_3 rfl rfl ?_
  refine V_callX (bc := 0) (bs := 0) (mc' := 1) (ms' := 6) cb_T_zone mv_L_36 rfl (ci := 5) rfl d_L_zone_4 hC ⟨by decide, by decide⟩ rfl hO.1 hO.2 rfl (Nat.le_of_ble_eq_true rfl) (by decide) (fun E m1 hF => ?_) (fun v m1 hF => ?_)
  · have hE' := hE E m1 hF
    simp only [List.mem_cons, List.not_mem_nil, or_false] at hE'
    rcases hE' with rfl | rfl
    · refine ⟨[], ⟨0, 9, 12, 13⟩, [⟨0, 9, 15, 28⟩], rfl, (fun z hz => nomatch hz), cl_L_13, ca_java_lang_IllegalArgumentException, fun q => ?_⟩
      first | refine V_astore_n d_L_zone_12 rfl rfl ?_ | refine V_astoreN_n d_L_zone_12 rfl rfl ?_
      refine V_iconst (v := 1) d_L_zone_13 (by decide) ?_
      exact V_iret d_L_zone_14 rfl rfl ⟨_, m1, hF, Or.inr ⟨_, rfl, by simp, congrArg oI (by decide), rfl⟩⟩
    · refine ⟨[⟨0, 9, 12, 13⟩], ⟨0, 9, 15, 28⟩, [], rfl, (fun z hz => by rcases List.mem_singleton.mp hz with rfl; exact ⟨_, cl_L_13, by decide⟩), cl_L_28, ca_java_lang_IllegalStateException, fun q => ?_⟩
      first | refine V_astore_n d_L_zone_15 rfl rfl ?_ | refine V_astoreN_n d_L_zone_15 rfl rfl ?_
      refine V_iconst (v := 2) d_L_zone_16 (by decide) ?_
      exact V_iret d_L_zone_17 rfl rfl ⟨_, m1, hF, Or.inr ⟨_, rfl, by simp, congrArg oI (by decide), rfl⟩⟩
  · obtain ⟨⟨w, rfl⟩, hL⟩ := hI v m1 hF
    have hin : vp_in (0 : Int32) 1 := vp_nI (j := 0) (by omega) (by omega)
    refine V_i2l d_L_zone_7 ?_
    refine Vlast d_L_zone_8 (by repeat first | assumption | apply La_s | apply La_n) (by assumption) ?_
    refine V_goto (tgt := 18) d_L_zone_9 (by decide) ?_
    refine V_iconst (v := 0) d_L_zone_18 (by decide) ?_
    exact V_iret d_L_zone_19 rfl rfl ⟨_, m1, hF, Or.inl ⟨w, rfl, rfl, rfl⟩⟩
theorem c_L_hours (hg : GO g) {Fi' : Ou → Mm → Prop} {p0 p1 : Int32} (hC : CT g m_T_hours 7 111 1 6 [.ref x, .int p0, .int p1] mm Fi') (hO : Ob mm x 5 fs) (hI : ∀ v m1, Fi' (.inl v) m1 → (∃ w, v = some (.int (bi w))) ∧ La g m1 ou 1 f) (hE : ∀ E m1, Fi' (.inr E) m1 → E ∈ ([xNE, xIA, xIS] : List String)) : CT g m_L_hours 8 134 1 6 [.ref x, .int p0, .int p1, .ref ou] mm (Hq g [xNE, xIA, xIS] Fi' ou f) := by
  refine CT_go (lo := [(0, .ref x), (1, .int p0), (2, .int p1), (3, .ref ou)]) rfl rfl rfl rfl hg ?_
  first | refine V_aload_n d_L_hours_0 rfl rfl ?_ | refine V_aloadN_n d_L_hours_0 rfl rfl ?_
  refine V_iconst (v := 0) d_L_hours_1 (by decide) ?_
  first | refine V_aload_n d_L_hours_2 rfl rfl ?_ | refine V_aloadN_n d_L_hours_2 rfl rfl ?_
  refine V_iload_n d_L_hours_3 rfl rfl ?_
  refine V_iload_n d_L_hours_4 rfl rfl ?_
  refine V_callX (bc := 0) (bs := 0) (mc' := 1) (ms' := 6) cb_T_hours mv_L_39 rfl (ci := 5) rfl d_L_hours_5 hC ⟨by decide, by decide⟩ rfl hO.1 hO.2 rfl (Nat.le_of_ble_eq_true rfl) (by decide) (fun E m1 hF => ?_) (fun v m1 hF => ?_)
  · have hE' := hE E m1 hF
    simp only [List.mem_cons, List.not_mem_nil, or_false] at hE'
    rcases hE' with rfl | rfl | rfl
    · refine ⟨[], ⟨0, 17, 20, 34⟩, [⟨0, 17, 24, 13⟩, ⟨0, 17, 28, 28⟩], rfl, (fun z hz => nomatch hz), cl_L_34, ca_java_util_NoSuchElementException, fun q => ?_⟩
      first | refine V_astore d_L_hours_20 rfl ?_ | refine V_astoreN d_L_hours_20 rfl ?_
      refine V_iconst (v := 1) d_L_hours_22 (by decide) ?_
      exact V_iret d_L_hours_23 rfl rfl ⟨_, m1, hF, Or.inr ⟨_, rfl, by simp, congrArg oI (by decide), rfl⟩⟩
    · refine ⟨[⟨0, 17, 20, 34⟩], ⟨0, 17, 24, 13⟩, [⟨0, 17, 28, 28⟩], rfl, (fun z hz => by rcases List.mem_singleton.mp hz with rfl; exact ⟨_, cl_L_34, by decide⟩), cl_L_13, ca_java_lang_IllegalArgumentException, fun q => ?_⟩
      first | refine V_astore d_L_hours_24 rfl ?_ | refine V_astoreN d_L_hours_24 rfl ?_
      refine V_iconst (v := 2) d_L_hours_26 (by decide) ?_
      exact V_iret d_L_hours_27 rfl rfl ⟨_, m1, hF, Or.inr ⟨_, rfl, by simp, congrArg oI (by decide), rfl⟩⟩
    · refine ⟨[⟨0, 17, 20, 34⟩, ⟨0, 17, 24, 13⟩], ⟨0, 17, 28, 28⟩, [], rfl, (fun z hz => by
          rcases List.mem_cons.mp hz with rfl | hz
          · exact ⟨_, cl_L_34, by decide⟩
          · rcases List.mem_singleton.mp hz with rfl
            exact ⟨_, cl_L_13, by decide⟩), cl_L_28, ca_java_lang_IllegalStateException, fun q => ?_⟩
      first | refine V_astore d_L_hours_28 rfl ?_ | refine V_astoreN d_L_hours_28 rfl ?_
      refine V_iconst (v := 3) d_L_hours_30 (by decide) ?_
      exact V_iret d_L_hours_31 rfl rfl ⟨_, m1, hF, Or.inr ⟨_, rfl, by simp, congrArg oI (by decide), rfl⟩⟩
  · obtain ⟨⟨w, rfl⟩, hL⟩ := hI v m1 hF
    have hin : vp_in (0 : Int32) 1 := vp_nI (j := 0) (by omega) (by omega)
    cases w with
    | false =>
      refine V_if_eq (tgt := 15) d_L_hours_8 (by decide) (fun h_8 => ?_) (fun h_8 => ?_)
      · refine V_lconst (v := 0) d_L_hours_15 (by decide) ?_
        refine Vlast d_L_hours_16 (by repeat first | assumption | apply La_s | apply La_n) (by assumption) ?_
        refine V_goto (tgt := 32) d_L_hours_17 (by decide) ?_
        refine V_iconst (v := 0) d_L_hours_32 (by decide) ?_
        exact V_iret d_L_hours_33 rfl rfl ⟨_, m1, hF, Or.inl ⟨bi false, rfl, rfl, rfl⟩⟩
      · exact absurd rfl h_8
    | true =>
      refine V_if_eq (tgt := 15) d_L_hours_8 (by decide) (fun h_8 => ?_) (fun h_8 => ?_)
      · exact absurd h_8 (by decide)
      · refine V_lconst (v := 1) d_L_hours_11 (by decide) ?_
        refine V_goto (tgt := 16) d_L_hours_12 (by decide) ?_
        refine Vlast d_L_hours_16 (by repeat first | assumption | apply La_s | apply La_n) (by assumption) ?_
        refine V_goto (tgt := 32) d_L_hours_17 (by decide) ?_
        refine V_iconst (v := 0) d_L_hours_32 (by decide) ?_
        exact V_iret d_L_hours_33 rfl rfl ⟨_, m1, hF, Or.inl ⟨bi true, rfl, rfl, rfl⟩⟩
theorem c_L_label (hg : GO g) {Fi' : Ou → Mm → Prop} {p0 p1 : Int32} (hC : CT g m_T_label 7 111 1 6 [.ref x, .int p0, .int p1] mm Fi') (hO : Ob mm x 5 fs) (hI : ∀ v m1, Fi' (.inl v) m1 → (∃ w, v = some (.int w)) ∧ La g m1 ou 1 f) (hE : ∀ E m1, Fi' (.inr E) m1 → E ∈ ([xNE, xIA, xIS] : List String)) : CT g m_L_label 8 136 1 6 [.ref x, .int p0, .int p1, .ref ou] mm (Hq g [xNE, xIA, xIS] Fi' ou f) := by
  refine CT_go (lo := [(0, .ref x), (1, .int p0), (2, .int p1), (3, .ref ou)]) rfl rfl rfl rfl hg ?_
  first | refine V_aload_n d_L_label_0 rfl rfl ?_ | refine V_aloadN_n d_L_label_0 rfl rfl ?_
  refine V_iconst (v := 0) d_L_label_1 (by decide) ?_
  first | refine V_aload_n d_L_label_2 rfl rfl ?_ | refine V_aloadN_n d_L_label_2 rfl rfl ?_
  refine V_iload_n d_L_label_3 rfl rfl ?_
  refine V_iload_n d_L_label_4 rfl rfl ?_
  refine V_callX (bc := 0) (bs := 0) (mc' := 1) (ms' := 6) cb_T_label mv_L_43 rfl (ci := 5) rfl d_L_label_5 hC ⟨by decide, by decide⟩ rfl hO.1 hO.2 rfl (Nat.le_of_ble_eq_true rfl) (by decide) (fun E m1 hF => ?_) (fun v m1 hF => ?_)
  · have hE' := hE E m1 hF
    simp only [List.mem_cons, List.not_mem_nil, or_false] at hE'
    rcases hE' with rfl | rfl | rfl
    · refine ⟨[], ⟨0, 10, 13, 34⟩, [⟨0, 10, 17, 13⟩, ⟨0, 10, 21, 28⟩], rfl, (fun z hz => nomatch hz), cl_L_34, ca_java_util_NoSuchElementException, fun q => ?_⟩
      first | refine V_astore d_L_label_13 rfl ?_ | refine V_astoreN d_L_label_13 rfl ?_
      refine V_iconst (v := 1) d_L_label_15 (by decide) ?_
      exact V_iret d_L_label_16 rfl rfl ⟨_, m1, hF, Or.inr ⟨_, rfl, by simp, congrArg oI (by decide), rfl⟩⟩
    · refine ⟨[⟨0, 10, 13, 34⟩], ⟨0, 10, 17, 13⟩, [⟨0, 10, 21, 28⟩], rfl, (fun z hz => by rcases List.mem_singleton.mp hz with rfl; exact ⟨_, cl_L_34, by decide⟩), cl_L_13, ca_java_lang_IllegalArgumentException, fun q => ?_⟩
      first | refine V_astore d_L_label_17 rfl ?_ | refine V_astoreN d_L_label_17 rfl ?_
      refine V_iconst (v := 2) d_L_label_19 (by decide) ?_
      exact V_iret d_L_label_20 rfl rfl ⟨_, m1, hF, Or.inr ⟨_, rfl, by simp, congrArg oI (by decide), rfl⟩⟩
    · refine ⟨[⟨0, 10, 13, 34⟩, ⟨0, 10, 17, 13⟩], ⟨0, 10, 21, 28⟩, [], rfl, (fun z hz => by
          rcases List.mem_cons.mp hz with rfl | hz
          · exact ⟨_, cl_L_34, by decide⟩
          · rcases List.mem_singleton.mp hz with rfl
            exact ⟨_, cl_L_13, by decide⟩), cl_L_28, ca_java_lang_IllegalStateException, fun q => ?_⟩
      first | refine V_astore d_L_label_21 rfl ?_ | refine V_astoreN d_L_label_21 rfl ?_
      refine V_iconst (v := 3) d_L_label_23 (by decide) ?_
      exact V_iret d_L_label_24 rfl rfl ⟨_, m1, hF, Or.inr ⟨_, rfl, by simp, congrArg oI (by decide), rfl⟩⟩
  · obtain ⟨⟨w, rfl⟩, hL⟩ := hI v m1 hF
    have hin : vp_in (0 : Int32) 1 := vp_nI (j := 0) (by omega) (by omega)
    refine V_i2l d_L_label_8 ?_
    refine Vlast d_L_label_9 (by repeat first | assumption | apply La_s | apply La_n) (by assumption) ?_
    refine V_goto (tgt := 25) d_L_label_10 (by decide) ?_
    refine V_iconst (v := 0) d_L_label_25 (by decide) ?_
    exact V_iret d_L_label_26 rfl rfl ⟨_, m1, hF, Or.inl ⟨w, rfl, rfl, rfl⟩⟩
theorem c_L_print (hg : GO g) {Fi' : Ou → Mm → Prop} {p0 p1 : Int32} (hC : CT g m_T_print 7 112 1 6 [.ref x, .int p0, .int p1] mm Fi') (hO : Ob mm x 5 fs) (hI : ∀ v m1, Fi' (.inl v) m1 → (∃ w, v = some (.int w)) ∧ La g m1 ou 1 f) (hE : ∀ E m1, Fi' (.inr E) m1 → E ∈ ([xNE] : List String)) : CT g m_L_print 8 135 1 6 [.ref x, .int p0, .int p1, .ref ou] mm (Hq g [xNE] Fi' ou f) := by
  refine CT_go (lo := [(0, .ref x), (1, .int p0), (2, .int p1), (3, .ref ou)]) rfl rfl rfl rfl hg ?_
  first | refine V_aload_n d_L_print_0 rfl rfl ?_ | refine V_aloadN_n d_L_print_0 rfl rfl ?_
  refine V_iconst (v := 0) d_L_print_1 (by decide) ?_
  first | refine V_aload_n d_L_print_2 rfl rfl ?_ | refine V_aloadN_n d_L_print_2 rfl rfl ?_
  refine V_iload_n d_L_print_3 rfl rfl ?_
  refine V_iload_n d_L_print_4 rfl rfl ?_
  refine V_callX (bc := 0) (bs := 0) (mc' := 1) (ms' := 6) cb_T_print mv_L_46 rfl (ci := 5) rfl d_L_print_5 hC ⟨by decide, by decide⟩ rfl hO.1 hO.2 rfl (Nat.le_of_ble_eq_true rfl) (by decide) (fun E m1 hF => ?_) (fun v m1 hF => ?_)
  · have hE' := hE E m1 hF
    simp only [List.mem_cons, List.not_mem_nil, or_false] at hE'
    subst hE'
    refine ⟨[], ⟨0, 10, 13, 34⟩, [], rfl, (fun z hz => nomatch hz), cl_L_34, ca_java_util_NoSuchElementException, fun q => ?_⟩
    first | refine V_astore d_L_print_13 rfl ?_ | refine V_astoreN d_L_print_13 rfl ?_
    refine V_iconst (v := 1) d_L_print_15 (by decide) ?_
    exact V_iret d_L_print_16 rfl rfl ⟨_, m1, hF, Or.inr ⟨_, rfl, by simp, congrArg oI (by decide), rfl⟩⟩
  · obtain ⟨⟨w, rfl⟩, hL⟩ := hI v m1 hF
    have hin : vp_in (0 : Int32) 1 := vp_nI (j := 0) (by omega) (by omega)
    refine V_i2l d_L_print_8 ?_
    refine Vlast d_L_print_9 (by repeat first | assumption | apply La_s | apply La_n) (by assumption) ?_
    refine V_goto (tgt := 17) d_L_print_10 (by decide) ?_
    refine V_iconst (v := 0) d_L_print_17 (by decide) ?_
    exact V_iret d_L_print_18 rfl rfl ⟨_, m1, hF, Or.inl ⟨w, rfl, rfl, rfl⟩⟩
theorem c_L_out (hg : GO g) {Fi' : Ou → Mm → Prop} {p0 : Int32} (hC : CT g m_T_out 6 90 1 6 [.ref x, .int p0] mm Fi') (hO : Ob mm x 5 fs) (hI : ∀ v m1, Fi' (.inl v) m1 → (∃ w, v = some (.int w)) ∧ La g m1 ou 1 f) (hE : ∀ E m1, Fi' (.inr E) m1 → E ∈ ([xIA] : List String)) : CT g m_L_out 7 112 1 6 [.ref x, .int p0, .ref ou] mm (Hq g [xIA] Fi' ou f) := by
  refine CT_go (lo := [(0, .ref x), (1, .int p0), (2, .ref ou)]) rfl rfl rfl rfl hg ?_
  first | refine V_aload_n d_L_out_0 rfl rfl ?_ | refine V_aloadN_n d_L_out_0 rfl rfl ?_
  refine V_iconst (v := 0) d_L_out_1 (by decide) ?_
  first | refine V_aload_n d_L_out_2 rfl rfl ?_ | refine V_aloadN_n d_L_out_2 rfl rfl ?_
  refine V_iload_n d_L_out_3 rfl rfl ?_
  refine V_callX (bc := 0) (bs := 0) (mc' := 1) (ms' := 6) cb_T_out mv_L_49 rfl (ci := 5) rfl d_L_out_4 hC ⟨by decide, by decide⟩ rfl hO.1 hO.2 rfl (Nat.le_of_ble_eq_true rfl) (by decide) (fun E m1 hF => ?_) (fun v m1 hF => ?_)
  · have hE' := hE E m1 hF
    simp only [List.mem_cons, List.not_mem_nil, or_false] at hE'
    subst hE'
    refine ⟨[], ⟨0, 9, 12, 13⟩, [], rfl, (fun z hz => nomatch hz), cl_L_13, ca_java_lang_IllegalArgumentException, fun q => ?_⟩
    first | refine V_astore_n d_L_out_12 rfl rfl ?_ | refine V_astoreN_n d_L_out_12 rfl rfl ?_
    refine V_iconst (v := 1) d_L_out_13 (by decide) ?_
    exact V_iret d_L_out_14 rfl rfl ⟨_, m1, hF, Or.inr ⟨_, rfl, by simp, congrArg oI (by decide), rfl⟩⟩
  · obtain ⟨⟨w, rfl⟩, hL⟩ := hI v m1 hF
    have hin : vp_in (0 : Int32) 1 := vp_nI (j := 0) (by omega) (by omega)
    refine V_i2l d_L_out_7 ?_
    refine Vlast d_L_out_8 (by repeat first | assumption | apply La_s | apply La_n) (by assumption) ?_
    refine V_goto (tgt := 15) d_L_out_9 (by decide) ?_
    refine V_iconst (v := 0) d_L_out_15 (by decide) ?_
    exact V_iret d_L_out_16 rfl rfl ⟨_, m1, hF, Or.inl ⟨w, rfl, rfl, rfl⟩⟩
theorem c_L_number (hg : GO g) {Fi' : Ou → Mm → Prop} {p0 : Int32} (hC : CT g m_T_number 6 90 1 6 [.ref x, .int p0] mm Fi') (hO : Ob mm x 5 fs) (hI : ∀ v m1, Fi' (.inl v) m1 → v = none) (hE : ∀ E m1, Fi' (.inr E) m1 → E ∈ ([xIA, xUO] : List String)) : CT g m_L_number 7 111 1 6 [.ref x, .int p0] mm (Hv [xIA, xUO] Fi') := by
  refine CT_go (lo := [(0, .ref x), (1, .int p0)]) rfl rfl rfl rfl hg ?_
  first | refine V_aload_n d_L_number_0 rfl rfl ?_ | refine V_aloadN_n d_L_number_0 rfl rfl ?_
  refine V_iload_n d_L_number_1 rfl rfl ?_
  refine V_callX (bc := 0) (bs := 0) (mc' := 1) (ms' := 6) cb_T_number mv_L_52 rfl (ci := 5) rfl d_L_number_2 hC ⟨by decide, by decide⟩ rfl hO.1 hO.2 rfl (Nat.le_of_ble_eq_true rfl) (by decide) (fun E m1 hF => ?_) (fun v m1 hF => ?_)
  · have hE' := hE E m1 hF
    simp only [List.mem_cons, List.not_mem_nil, or_false] at hE'
    rcases hE' with rfl | rfl
    · refine ⟨[], ⟨0, 5, 8, 13⟩, [⟨0, 5, 11, 15⟩], rfl, (fun z hz => nomatch hz), cl_L_13, ca_java_lang_IllegalArgumentException, fun q => ?_⟩
      first | refine V_astore_n d_L_number_8 rfl rfl ?_ | refine V_astoreN_n d_L_number_8 rfl rfl ?_
      refine V_iconst (v := 1) d_L_number_9 (by decide) ?_
      exact V_iret d_L_number_10 rfl rfl ⟨_, m1, hF, Or.inr ⟨_, rfl, by simp, congrArg oI (by decide), rfl⟩⟩
    · refine ⟨[⟨0, 5, 8, 13⟩], ⟨0, 5, 11, 15⟩, [], rfl, (fun z hz => by rcases List.mem_singleton.mp hz with rfl; exact ⟨_, cl_L_13, by decide⟩), cl_L_15, ca_java_lang_UnsupportedOperationException, fun q => ?_⟩
      first | refine V_astore_n d_L_number_11 rfl rfl ?_ | refine V_astoreN_n d_L_number_11 rfl rfl ?_
      refine V_iconst (v := 2) d_L_number_12 (by decide) ?_
      exact V_iret d_L_number_13 rfl rfl ⟨_, m1, hF, Or.inr ⟨_, rfl, by simp, congrArg oI (by decide), rfl⟩⟩
  · have hv := hI v m1 hF
    subst hv
    refine V_goto (tgt := 14) d_L_number_5 (by decide) ?_
    refine V_iconst (v := 0) d_L_number_14 (by decide) ?_
    exact V_iret d_L_number_15 rfl rfl ⟨_, m1, hF, Or.inl ⟨rfl, rfl, rfl⟩⟩
theorem c_L_track (hg : GO g) {Fi' : Ou → Mm → Prop} (hC : CT g m_T_track 7 111 1 6 [.ref x] mm Fi') (hO : Ob mm x 5 fs) (hI : ∀ v m1, Fi' (.inl v) m1 → (∃ w, v = some (.int w)) ∧ La g m1 ou 1 f) (hE : ∀ E m1, Fi' (.inr E) m1 → E ∈ ([xIS] : List String)) : CT g m_L_track 8 132 1 6 [.ref x, .ref ou] mm (Hq g [xIS] Fi' ou f) := by
  refine CT_go (lo := [(0, .ref x), (1, .ref ou)]) rfl rfl rfl rfl hg ?_
  first | refine V_aload_n d_L_track_0 rfl rfl ?_ | refine V_aloadN_n d_L_track_0 rfl rfl ?_
  refine V_iconst (v := 0) d_L_track_1 (by decide) ?_
  first | refine V_aload_n d_L_track_2 rfl rfl ?_ | refine V_aloadN_n d_L_track_2 rfl rfl ?_
  refine V_callX (bc := 0) (bs := 0) (mc' := 1) (ms' := 6) cb_T_track mv_L_55 rfl (ci := 5) rfl d_L_track_3 hC ⟨by decide, by decide⟩ rfl hO.1 hO.2 rfl (Nat.le_of_ble_eq_true rfl) (by decide) (fun E m1 hF => ?_) (fun v m1 hF => ?_)
  · have hE' := hE E m1 hF
    simp only [List.mem_cons, List.not_mem_nil, or_false] at hE'
    subst hE'
    refine ⟨[], ⟨0, 8, 11, 28⟩, [], rfl, (fun z hz => nomatch hz), cl_L_28, ca_java_lang_IllegalStateException, fun q => ?_⟩
    first | refine V_astore_n d_L_track_11 rfl rfl ?_ | refine V_astoreN_n d_L_track_11 rfl rfl ?_
    refine V_iconst (v := 1) d_L_track_12 (by decide) ?_
    exact V_iret d_L_track_13 rfl rfl ⟨_, m1, hF, Or.inr ⟨_, rfl, by simp, congrArg oI (by decide), rfl⟩⟩
  · obtain ⟨⟨w, rfl⟩, hL⟩ := hI v m1 hF
    have hin : vp_in (0 : Int32) 1 := vp_nI (j := 0) (by omega) (by omega)
    refine V_i2l d_L_track_6 ?_
    refine Vlast d_L_track_7 (by repeat first | assumption | apply La_s | apply La_n) (by assumption) ?_
    refine V_goto (tgt := 14) d_L_track_8 (by decide) ?_
    refine V_iconst (v := 0) d_L_track_14 (by decide) ?_
    exact V_iret d_L_track_15 rfl rfl ⟨_, m1, hF, Or.inl ⟨w, rfl, rfl, rfl⟩⟩
theorem c_L_told (hg : GO g) {Fi' : Ou → Mm → Prop} {p0 p1 : Int32} (hC : CT g m_T_told 7 112 1 6 [.ref x, .int p0, .int p1] mm Fi') (hO : Ob mm x 5 fs) (hI : ∀ v m1, Fi' (.inl v) m1 → (∃ w, v = some (.int w)) ∧ La g m1 ou 1 f) (hE : ∀ E m1, Fi' (.inr E) m1 → E ∈ ([xNE, xIA] : List String)) : CT g m_L_told 8 135 1 6 [.ref x, .int p0, .int p1, .ref ou] mm (Hq g [xNE, xIA] Fi' ou f) := by
  refine CT_go (lo := [(0, .ref x), (1, .int p0), (2, .int p1), (3, .ref ou)]) rfl rfl rfl rfl hg ?_
  first | refine V_aload_n d_L_told_0 rfl rfl ?_ | refine V_aloadN_n d_L_told_0 rfl rfl ?_
  refine V_iconst (v := 0) d_L_told_1 (by decide) ?_
  first | refine V_aload_n d_L_told_2 rfl rfl ?_ | refine V_aloadN_n d_L_told_2 rfl rfl ?_
  refine V_iload_n d_L_told_3 rfl rfl ?_
  refine V_iload_n d_L_told_4 rfl rfl ?_
  refine V_callX (bc := 0) (bs := 0) (mc' := 1) (ms' := 6) cb_T_told mv_L_59 rfl (ci := 5) rfl d_L_told_5 hC ⟨by decide, by decide⟩ rfl hO.1 hO.2 rfl (Nat.le_of_ble_eq_true rfl) (by decide) (fun E m1 hF => ?_) (fun v m1 hF => ?_)
  · have hE' := hE E m1 hF
    simp only [List.mem_cons, List.not_mem_nil, or_false] at hE'
    rcases hE' with rfl | rfl
    · refine ⟨[], ⟨0, 10, 13, 34⟩, [⟨0, 10, 17, 13⟩], rfl, (fun z hz => nomatch hz), cl_L_34, ca_java_util_NoSuchElementException, fun q => ?_⟩
      first | refine V_astore d_L_told_13 rfl ?_ | refine V_astoreN d_L_told_13 rfl ?_
      refine V_iconst (v := 1) d_L_told_15 (by decide) ?_
      exact V_iret d_L_told_16 rfl rfl ⟨_, m1, hF, Or.inr ⟨_, rfl, by simp, congrArg oI (by decide), rfl⟩⟩
    · refine ⟨[⟨0, 10, 13, 34⟩], ⟨0, 10, 17, 13⟩, [], rfl, (fun z hz => by rcases List.mem_singleton.mp hz with rfl; exact ⟨_, cl_L_34, by decide⟩), cl_L_13, ca_java_lang_IllegalArgumentException, fun q => ?_⟩
      first | refine V_astore d_L_told_17 rfl ?_ | refine V_astoreN d_L_told_17 rfl ?_
      refine V_iconst (v := 2) d_L_told_19 (by decide) ?_
      exact V_iret d_L_told_20 rfl rfl ⟨_, m1, hF, Or.inr ⟨_, rfl, by simp, congrArg oI (by decide), rfl⟩⟩
  · obtain ⟨⟨w, rfl⟩, hL⟩ := hI v m1 hF
    have hin : vp_in (0 : Int32) 1 := vp_nI (j := 0) (by omega) (by omega)
    refine V_i2l d_L_told_8 ?_
    refine Vlast d_L_told_9 (by repeat first | assumption | apply La_s | apply La_n) (by assumption) ?_
    refine V_goto (tgt := 21) d_L_told_10 (by decide) ?_
    refine V_iconst (v := 0) d_L_told_21 (by decide) ?_
    exact V_iret d_L_told_22 rfl rfl ⟨_, m1, hF, Or.inl ⟨w, rfl, rfl, rfl⟩⟩
end L1
