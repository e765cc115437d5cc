/-! the reference's face: it answers as the class does -/
def kX : List String → String → Int32
  | [], _ => 0
  | x :: l, E => if x = E then 1 else kX l E + 1
def xIA : String := "java/lang/IllegalArgumentException"
def xUO : String := "java/lang/UnsupportedOperationException"
def xIS : String := "java/lang/IllegalStateException"
def xNE : String := "java/util/NoSuchElementException"
def AG (L : List String) (r : Ou) (v code : Int32) : Prop := match r with
  | .inl (some (.int w)) => code = 0 ∧ v = w
  | .inr E => code = kX L E ∧ ¬ code = 0
  | _ => code = 0
def Pq (g : GG) (m0 : Mm) (a : Nat) (B : Nat → Nat) (L : List String) (r : Ou) (tx lb pr : Sq) (n : Nat) (day : Int32) (len : Nat) (ft : Fw) (ed : Nat → Edd) : Ou → Mm → Prop := fun o m' => ∃ v, o = .inl (some (.int v)) ∧ ∃ sc' ar', Md g m0 m' a B sc' ar' ∧ RM sc' ar' tx lb pr n day len ft ed ∧ AG L r v (sc' 0)
def Pv (g : GG) (m0 : Mm) (a : Nat) (B : Nat → Nat) (L : List String) (r : Ou) (tx lb pr : Sq) (n : Nat) (day : Int32) (len : Nat) (ft : Fw) (ed : Nat → Edd) : Ou → Mm → Prop := fun o m' => o = .inl none ∧ ∃ sc' ar', Md g m0 m' a B sc' ar' ∧ RM sc' ar' tx lb pr n day len ft ed ∧ AG L r 0 (sc' 0)
theorem RQ_ap {c : Int32} {f : Fw} {s : Sq} {k : Nat} {x : Int32} (h : RQ c f s k) (hs : s.2 < k) : RQ (nI (s.2 + 1)) (upd f s.2 x) (apN k s x) k := by
  rw [apN_1 hs]
  exact ⟨rfl, hs, PRl_ap h.2.2⟩
theorem mA_1 (o : Option Nat) : mA o + 1 = nO o := by
  cases o with
  | none => decide
  | some i => exact nI_1 i
section M9
variable {g : GG} {m0 m : Mm} {a : Nat} {B : Nat → Nat} {sc : Fw} {ar : Ar} {tx lb pr : Sq} {n : Nat} {day : Int32} {len : Nat} {ft : Fw} {ed : Nat → Edd}
theorem RM_0 {code : Int32} (h : RM sc ar tx lb pr n day len ft ed) : RM (upd sc 0 code) ar tx lb pr n day len ft ed := h
theorem c_M_sign (hg : GO g) (hM : Md g m0 m a B sc ar) (hR : RM sc ar tx lb pr n day len ft ed) (c : Int32) : CT g m_M_sign 1 22 0 0 [.ref a, .int c] m (Pv g m0 a B [xIA, xUO] (signO tx c) (if ¬ c = 10 ∧ wi c 32 126 = false then tx else apN 500 tx c) lb pr n day len ft ed) := by
  have hq := hR.1
  have key1 : ∀ (code : Int32), ¬ code = 0 → AG [xIA, xUO] (signO tx c) 0 code → (if ¬ c = 10 ∧ wi c 32 126 = false then tx else apN 500 tx c) = tx → V g m_M_sign 1 22 0 0 37 [(0, .ref a), (1, .int c)] [.int code, .ref a] m (Pv g m0 a B [xIA, xUO] (signO tx c) (if ¬ c = 10 ∧ wi c 32 126 = false then tx else apN 500 tx c) lb pr n day len ft ed) := by
    intro code h0 hA ht
    refine Mput (k := 0) pl_M_7 d_M_sign_37 hM rfl rfl (fun m hM => ?_)
    first | refine V_aload_n d_M_sign_40 rfl rfl ?_ | refine V_aloadN_n d_M_sign_40 rfl rfl ?_
    refine Vget fl_M_7 d_M_sign_41 hM.1 rfl ?_
    refine V_if_eq (tgt := 48) d_M_sign_44 (by decide) (fun h_44 => ?_) (fun h_44 => ?_)
    · exact absurd h_44 h0
    · refine V_vret d_M_sign_47 rfl ⟨rfl, _, _, hM, ?_, hA⟩
      rw [ht]
      exact hR
  have key2 : ¬ (¬ c = 10 ∧ wi c 32 126 = false) → V g m_M_sign 1 22 0 0 22 [(0, .ref a), (1, .int c)] [.ref a] m (Pv g m0 a B [xIA, xUO] (signO tx c) (if ¬ c = 10 ∧ wi c 32 126 = false then tx else apN 500 tx c) lb pr n day len ft ed) := by
    intro hc
    first | refine V_aload_n d_M_sign_22 rfl rfl ?_ | refine V_aloadN_n d_M_sign_22 rfl rfl ?_
    refine Vget fl_M_17 d_M_sign_23 hM.1 rfl ?_
    refine V_sipush (v := 500) d_M_sign_26 (by decide) ?_
    refine V_icmp_ne (tgt := 36) d_M_sign_29 (by decide) (fun h_29 => ?_) (fun h_29 => ?_)
    · have hlt : tx.2 < 500 := by
        have h29 : ¬ sc 2 = 500 := h_29
        rw [hq.1] at h29
        have := hq.2.1
        rcases Nat.lt_or_ge tx.2 500 with q | q
        · exact q
        · exact absurd (show nI tx.2 = nI 500 by rw [show tx.2 = 500 by omega]) h29
      have hin : vp_in (sc 2) 500 := by rw [hq.1]; exact vp_nI hlt (by omega)
      have e2 : (sc 2).toNatClampNeg = tx.2 := by rw [hq.1]; exact nI_clamp (by omega)
      refine V_iconst (v := 0) d_M_sign_36 (by decide) ?_
      refine Mput (k := 0) pl_M_7 d_M_sign_37 hM rfl rfl (fun m hM => ?_)
      first | refine V_aload_n d_M_sign_40 rfl rfl ?_ | refine V_aloadN_n d_M_sign_40 rfl rfl ?_
      refine Vget fl_M_7 d_M_sign_41 hM.1 rfl ?_
      refine V_if_eq (tgt := 48) d_M_sign_44 (by decide) (fun h_44 => ?_) (fun h_44 => ?_)
      · first | refine V_aload_n d_M_sign_48 rfl rfl ?_ | refine V_aloadN_n d_M_sign_48 rfl rfl ?_
        refine Vget fl_M_13 d_M_sign_49 hM.1 rfl ?_
        first | refine V_aload_n d_M_sign_52 rfl rfl ?_ | refine V_aloadN_n d_M_sign_52 rfl rfl ?_
        refine Vget fl_M_17 d_M_sign_53 hM.1 rfl ?_
        refine V_iload_n d_M_sign_56 rfl rfl ?_
        refine Miast d_M_sign_57 hM (by decide) (by exact hin) (fun m hM => ?_)
        rw [show (upd sc 0 0 2).toNatClampNeg = tx.2 from e2] at hM
        first | refine V_aload_n d_M_sign_58 rfl rfl ?_ | refine V_aloadN_n d_M_sign_58 rfl rfl ?_
        refine V_dup d_M_sign_59 rfl ?_
        refine Vget fl_M_17 d_M_sign_60 hM.1 rfl ?_
        refine V_iconst (v := 1) d_M_sign_63 (by decide) ?_
        refine V_iadd d_M_sign_64 ?_
        refine ek_v (P := fun z => V g m_M_sign 1 22 0 0 _ _ z _ _) (show _ = [Value.int (nI (tx.2 + 1)), .ref a] by rw [← nI_1, ← hq.1]; rfl) ?_
        refine Mput (k := 2) pl_M_17 d_M_sign_65 hM rfl rfl (fun m hM => ?_)
        refine V_vret d_M_sign_68 rfl ⟨rfl, _, _, hM, ?_, ?_⟩
        · rw [if_neg hc]
          exact ⟨RQ_ap hq hlt, hR.2⟩
        · unfold signO
          rw [if_neg hc, if_pos hlt]
          exact rfl
      · exact absurd rfl h_44
    · have h29 : sc 2 = 500 := h_29
      rw [hq.1] at h29
      have e5 : tx.2 = 500 := nI_ij (b := 500) (by have := hq.2.1; omega) (by omega) h29
      refine V_iconst (v := 2) d_M_sign_32 (by decide) ?_
      refine V_goto (tgt := 37) d_M_sign_33 (by decide) ?_
      refine key1 2 (by decide) ?_ ?_
      · unfold signO
        rw [if_neg hc, if_neg (by omega)]
        exact ⟨by decide, by decide⟩
      · rw [if_neg hc]
        unfold apN
        rw [if_neg (by omega)]
  refine CT_go (lo := [(0, .ref a), (1, .int c)]) rfl rfl rfl rfl hg ?_
  first | refine V_aload_n d_M_sign_0 rfl rfl ?_ | refine V_aloadN_n d_M_sign_0 rfl rfl ?_
  refine V_iload_n d_M_sign_1 rfl rfl ?_
  refine V_bipush (v := 10) d_M_sign_2 (by decide) ?_
  refine V_icmp_eq (tgt := 22) d_M_sign_4 (by decide) (fun h_4 => ?_) (fun h_4 => ?_)
  · exact key2 (fun z => z.1 h_4)
  · refine V_iload_n d_M_sign_7 rfl rfl ?_
    refine V_bipush (v := 32) d_M_sign_8 (by decide) ?_
    refine V_bipush (v := 126) d_M_sign_10 (by decide) ?_
    refine V_callS cb_M_not ms_M_156 rfl rfl d_M_sign_12 (c_M_not hg c 32 126) ⟨by decide, by decide⟩ rfl rfl (Nat.le_of_ble_eq_true rfl) (fun _ _ h => nomatch h.1) (fun v m2 hR => ?_)
    obtain ⟨hv9, e9⟩ := hR
    cases hv9
    subst m2
    refine V_if_eq (tgt := 22) d_M_sign_15 (by decide) (fun h_15 => ?_) (fun h_15 => ?_)
    · have e : wi c 32 126 = true := by simpa using bi_eq0.mp h_15
      exact key2 (fun z => by rw [e] at z; cases z.2)
    · have e : wi c 32 126 = false := by simpa using bi_ne0.mp h_15
      refine V_iconst (v := 1) d_M_sign_18 (by decide) ?_
      refine V_goto (tgt := 37) d_M_sign_19 (by decide) ?_
      refine key1 1 (by decide) ?_ (if_pos ⟨h_4, e⟩)
      unfold signO
      rw [if_pos ⟨h_4, e⟩]
      exact ⟨by decide, by decide⟩
theorem c_M_number (hg : GO g) (hM : Md g m0 m a B sc ar) (hR : RM sc ar tx lb pr n day len ft ed) (c : Int32) : CT g m_M_number 1 22 0 0 [.ref a, .int c] m (Pv g m0 a B [xIA, xUO] (numO lb c) tx (if wi c 32 126 = false then lb else apN 20 lb c) pr n day len ft ed) := by
  have hq := hR.2.1
  have key1 : ∀ (code : Int32), ¬ code = 0 → AG [xIA, xUO] (numO lb c) 0 code → (if wi c 32 126 = false then lb else apN 20 lb c) = lb → V g m_M_number 1 22 0 0 30 [(0, .ref a), (1, .int c)] [.int code, .ref a] m (Pv g m0 a B [xIA, xUO] (numO lb c) tx (if wi c 32 126 = false then lb else apN 20 lb c) pr n day len ft ed) := by
    intro code h0 hA ht
    refine Mput (k := 0) pl_M_7 d_M_number_30 hM rfl rfl (fun m hM => ?_)
    first | refine V_aload_n d_M_number_33 rfl rfl ?_ | refine V_aloadN_n d_M_number_33 rfl rfl ?_
    refine Vget fl_M_7 d_M_number_34 hM.1 rfl ?_
    refine V_if_eq (tgt := 41) d_M_number_37 (by decide) (fun h_37 => ?_) (fun h_37 => ?_)
    · exact absurd h_37 h0
    · refine V_vret d_M_number_40 rfl ⟨rfl, _, _, hM, ?_, hA⟩
      rw [ht]
      exact hR
  refine CT_go (lo := [(0, .ref a), (1, .int c)]) rfl rfl rfl rfl hg ?_
  first | refine V_aload_n d_M_number_0 rfl rfl ?_ | refine V_aloadN_n d_M_number_0 rfl rfl ?_
  refine V_iload_n d_M_number_1 rfl rfl ?_
  refine V_bipush (v := 32) d_M_number_2 (by decide) ?_
  refine V_bipush (v := 126) d_M_number_4 (by decide) ?_
  refine V_callS cb_M_not ms_M_156 rfl rfl d_M_number_6 (c_M_not hg c 32 126) ⟨by decide, by decide⟩ rfl rfl (Nat.le_of_ble_eq_true rfl) (fun _ _ h => nomatch h.1) (fun v m2 hR => ?_)
  obtain ⟨hv9, e9⟩ := hR
  cases hv9
  subst m2
  refine V_if_eq (tgt := 16) d_M_number_9 (by decide) (fun h_9 => ?_) (fun h_9 => ?_)
  · have e : wi c 32 126 = true := by simpa using bi_eq0.mp h_9
    have hc : ¬ wi c 32 126 = false := by rw [e]; decide
    first | refine V_aload_n d_M_number_16 rfl rfl ?_ | refine V_aloadN_n d_M_number_16 rfl rfl ?_
    refine Vget fl_M_110 d_M_number_17 hM.1 rfl ?_
    refine V_bipush (v := 20) d_M_number_20 (by decide) ?_
    refine V_icmp_ne (tgt := 29) d_M_number_22 (by decide) (fun h_22 => ?_) (fun h_22 => ?_)
    · have hlt : lb.2 < 20 := by
        have h29 : ¬ sc 33 = 20 := h_22
        rw [hq.1] at h29
        have := hq.2.1
        rcases Nat.lt_or_ge lb.2 20 with q | q
        · exact q
        · exact absurd (show nI lb.2 = nI 20 by rw [show lb.2 = 20 by omega]) h29
      have hin : vp_in (sc 33) 20 := by rw [hq.1]; exact vp_nI hlt (by omega)
      have e2 : (sc 33).toNatClampNeg = lb.2 := by rw [hq.1]; exact nI_clamp (by omega)
      refine V_iconst (v := 0) d_M_number_29 (by decide) ?_
      refine Mput (k := 0) pl_M_7 d_M_number_30 hM rfl rfl (fun m hM => ?_)
      first | refine V_aload_n d_M_number_33 rfl rfl ?_ | refine V_aloadN_n d_M_number_33 rfl rfl ?_
      refine Vget fl_M_7 d_M_number_34 hM.1 rfl ?_
      refine V_if_eq (tgt := 41) d_M_number_37 (by decide) (fun h_37 => ?_) (fun h_37 => ?_)
      · first | refine V_aload_n d_M_number_41 rfl rfl ?_ | refine V_aloadN_n d_M_number_41 rfl rfl ?_
        refine Vget fl_M_113 d_M_number_42 hM.1 rfl ?_
        first | refine V_aload_n d_M_number_45 rfl rfl ?_ | refine V_aloadN_n d_M_number_45 rfl rfl ?_
        refine Vget fl_M_110 d_M_number_46 hM.1 rfl ?_
        refine V_iload_n d_M_number_49 rfl rfl ?_
        refine Miast d_M_number_50 hM (by decide) (by exact hin) (fun m hM => ?_)
        rw [show (upd sc 0 0 33).toNatClampNeg = lb.2 from e2] at hM
        first | refine V_aload_n d_M_number_51 rfl rfl ?_ | refine V_aloadN_n d_M_number_51 rfl rfl ?_
        refine V_dup d_M_number_52 rfl ?_
        refine Vget fl_M_110 d_M_number_53 hM.1 rfl ?_
        refine V_iconst (v := 1) d_M_number_56 (by decide) ?_
        refine V_iadd d_M_number_57 ?_
        refine ek_v (P := fun z => V g m_M_number 1 22 0 0 _ _ z _ _) (show _ = [Value.int (nI (lb.2 + 1)), .ref a] by rw [← nI_1, ← hq.1]; rfl) ?_
        refine Mput (k := 33) pl_M_110 d_M_number_58 hM rfl rfl (fun m hM => ?_)
        refine V_vret d_M_number_61 rfl ⟨rfl, _, _, hM, ?_, ?_⟩
        · rw [if_neg hc]
          exact ⟨hR.1, RQ_ap hq hlt, hR.2.2⟩
        · unfold numO
          rw [if_neg hc, if_pos hlt]
          exact rfl
      · exact absurd rfl h_37
    · have h29 : sc 33 = 20 := h_22
      rw [hq.1] at h29
      have e5 : lb.2 = 20 := nI_ij (b := 20) (by have := hq.2.1; omega) (by omega) h29
      refine V_iconst (v := 2) d_M_number_25 (by decide) ?_
      refine V_goto (tgt := 30) d_M_number_26 (by decide) ?_
      refine key1 2 (by decide) ?_ ?_
      · unfold numO
        rw [if_neg hc, if_neg (by omega)]
        exact ⟨by decide, by decide⟩
      · rw [if_neg hc]
        unfold apN
        rw [if_neg (by omega)]
  · have e : wi c 32 126 = false := by simpa using bi_ne0.mp h_9
    refine V_iconst (v := 1) d_M_number_12 (by decide) ?_
    refine V_goto (tgt := 30) d_M_number_13 (by decide) ?_
    refine key1 1 (by decide) ?_ (if_pos e)
    unfold numO
    rw [if_pos e]
    exact ⟨by decide, by decide⟩
theorem c_M_today (hg : GO g) (hM : Md g m0 m a B sc ar) (hR : RM sc ar tx lb pr n day len ft ed) (d : Int32) : CT g m_M_today 1 22 0 0 [.ref a, .int d] m (Pq g m0 a B [xIA] (todO ed n d) tx lb pr n (if wi d 0 1000 = false then day else d) (if wi d 0 1000 = false then len else 0) ft ed) := by
  unfold todO
  refine CT_go (lo := [(0, .ref a), (1, .int d)]) rfl rfl rfl rfl hg ?_
  first | refine V_aload_n d_M_today_0 rfl rfl ?_ | refine V_aloadN_n d_M_today_0 rfl rfl ?_
  refine V_iload_n d_M_today_1 rfl rfl ?_
  refine V_iconst (v := 0) d_M_today_2 (by decide) ?_
  refine V_sipush (v := 1000) d_M_today_3 (by decide) ?_
  refine V_callS cb_M_not ms_M_156 rfl rfl d_M_today_6 (c_M_not hg d 0 1000) ⟨by decide, by decide⟩ rfl rfl (Nat.le_of_ble_eq_true rfl) (fun _ _ h => nomatch h.1) (fun v m2 hR => ?_)
  obtain ⟨hv9, e9⟩ := hR
  cases hv9
  subst m2
  refine V_if_eq (tgt := 16) d_M_today_9 (by decide) (fun h_9 => ?_) (fun h_9 => ?_)
  · have e : wi d 0 1000 = true := by simpa using bi_eq0.mp h_9
    have hc : ¬ wi d 0 1000 = false := by rw [e]; decide
    rw [if_neg hc, if_neg hc, if_neg hc]
    refine V_iconst (v := 0) d_M_today_16 (by decide) ?_
    refine Mput (k := 0) pl_M_7 d_M_today_17 hM rfl rfl (fun m hM => ?_)
    first | refine V_aload_n d_M_today_20 rfl rfl ?_ | refine V_aloadN_n d_M_today_20 rfl rfl ?_
    refine Vget fl_M_7 d_M_today_21 hM.1 rfl ?_
    refine V_if_eq (tgt := 29) d_M_today_24 (by decide) (fun h_24 => ?_) (fun h_24 => ?_)
    · first | refine V_aload_n d_M_today_29 rfl rfl ?_ | refine V_aloadN_n d_M_today_29 rfl rfl ?_
      refine V_iload_n d_M_today_30 rfl rfl ?_
      refine Mput (k := 5) pl_M_26 d_M_today_31 hM rfl rfl (fun m hM => ?_)
      first | refine V_aload_n d_M_today_34 rfl rfl ?_ | refine V_aloadN_n d_M_today_34 rfl rfl ?_
      refine V_iconst (v := 0) d_M_today_35 (by decide) ?_
      refine Mput (k := 29) pl_M_98 d_M_today_36 hM rfl rfl (fun m hM => ?_)
      have hR' : RM (upd (upd (upd sc 0 0) 5 d) 29 0) ar tx lb pr n d 0 ft ed := ⟨hR.1, hR.2.1, hR.2.2.1, hR.2.2.2.1, rfl, ⟨rfl, Nat.zero_le _, fun j hj => absurd hj (Nat.not_lt_zero j)⟩, hR.2.2.2.2.2.2⟩
      first | refine V_aload_n d_M_today_39 rfl rfl ?_ | refine V_aloadN_n d_M_today_39 rfl rfl ?_
      refine VcallV cb_M_acting mv_M_167 rfl (ci := 6) rfl rfl d_M_today_40 (c_M_acting hg hM hR') ⟨by decide, by decide⟩ rfl hM.1 rfl (Nat.le_of_ble_eq_true rfl) (fun _ _ h => nomatch h.1) (fun v m2 hR => ?_)
      obtain ⟨hv9, e9⟩ := hR
      cases hv9
      subst m2
      refine V_iconst (v := 1) d_M_today_43 (by decide) ?_
      refine V_iadd d_M_today_44 ?_
      rw [mA_1]
      exact V_iret d_M_today_45 rfl rfl ⟨_, rfl, _, _, hM, hR', rfl, rfl⟩
    · exact absurd rfl h_24
  · have e : wi d 0 1000 = false := by simpa using bi_ne0.mp h_9
    rw [if_pos e, if_pos e, if_pos e]
    refine V_iconst (v := 1) d_M_today_12 (by decide) ?_
    refine V_goto (tgt := 17) d_M_today_13 (by decide) ?_
    refine Mput (k := 0) pl_M_7 d_M_today_17 hM rfl rfl (fun m hM => ?_)
    first | refine V_aload_n d_M_today_20 rfl rfl ?_ | refine V_aloadN_n d_M_today_20 rfl rfl ?_
    refine Vget fl_M_7 d_M_today_21 hM.1 rfl ?_
    refine V_if_eq (tgt := 29) d_M_today_24 (by decide) (fun h_24 => ?_) (fun h_24 => ?_)
    · exact absurd h_24 (show ¬ (1 : Int32) = 0 by decide)
    · refine V_iconst (v := 0) d_M_today_27 (by decide) ?_
      exact V_iret d_M_today_28 rfl rfl ⟨_, rfl, _, _, hM, hR, (show AG [xIA] eIA 0 1 from ⟨by decide, by decide⟩)⟩
theorem sAt_in {s : Sq} {i : Int32} (h0 : ¬ i < 0) (h : i < nI s.2) (hs : s.2 < 2 ^ 31) : ∃ j, j < s.2 ∧ i = nI j ∧ sAt s i = s.1 j := by
  obtain ⟨j, hj, rfl⟩ := nI_of h0
  have hlt := (nI_ltI hj hs).mp h
  exact ⟨j, hlt, rfl, by rw [sAt_nI s j hj hs, if_pos hlt]⟩
theorem c_M_at (hg : GO g) (hM : Md g m0 m a B sc ar) (hR : RM sc ar tx lb pr n day len ft ed) (i : Int32) : CT g m_M_at 0 0 0 0 [.ref a, .int i] m (Pq g m0 a B [] (oI (sAt (ft, len) i)) tx lb pr n day len ft ed) := by
  obtain ⟨q1, q2, q3⟩ := hR.2.2.2.2.2.1
  have q2' : len ≤ 8 := q2
  refine CT_go (lo := [(0, .ref a), (1, .int i)]) rfl rfl rfl rfl hg ?_
  first | refine V_aload_n d_M_at_0 rfl rfl ?_ | refine V_aloadN_n d_M_at_0 rfl rfl ?_
  refine V_iconst (v := 0) d_M_at_1 (by decide) ?_
  refine Mput (k := 0) pl_M_7 d_M_at_2 hM rfl rfl (fun m hM => ?_)
  refine V_iload_n d_M_at_5 rfl rfl ?_
  refine V_if_lt (tgt := 17) d_M_at_6 (by decide) (fun h_6 => ?_) (fun h_6 => ?_)
  · refine V_iconst (v := -1) d_M_at_17 (by decide) ?_
    refine V_goto (tgt := 27) d_M_at_18 (by decide) ?_
    refine V_iret d_M_at_27 rfl rfl ⟨_, rfl, _, _, hM, hR, rfl, ?_⟩
    unfold sAt
    rw [if_pos h_6]
  · refine V_iload_n d_M_at_9 rfl rfl ?_
    first | refine V_aload_n d_M_at_10 rfl rfl ?_ | refine V_aloadN_n d_M_at_10 rfl rfl ?_
    refine Vget fl_M_98 d_M_at_11 hM.1 rfl ?_
    refine V_icmp_lt (tgt := 21) d_M_at_14 (by decide) (fun h_14 => ?_) (fun h_14 => ?_)
    · have h14 : i < nI len := by
        have : i < sc 29 := h_14
        rwa [q1] at this
      obtain ⟨j, hj, rfl, e⟩ := sAt_in (s := (ft, len)) h_6 h14 (by show len < _; omega)
      have hj' : j < len := hj
      have hin : vp_in (nI j) 8 := vp_nI (by omega) (by omega)
      first | refine V_aload_n d_M_at_21 rfl rfl ?_ | refine V_aloadN_n d_M_at_21 rfl rfl ?_
      refine Vget fl_M_101 d_M_at_22 hM.1 rfl ?_
      refine V_iload_n d_M_at_25 rfl rfl ?_
      refine Miald d_M_at_26 hM (by decide) (by assumption) ?_
      rw [nI_clamp (by omega), q3 j hj]
      exact V_iret d_M_at_27 rfl rfl ⟨_, rfl, _, _, hM, hR, rfl, e.symm⟩
    · refine V_iconst (v := -1) d_M_at_17 (by decide) ?_
      refine V_goto (tgt := 27) d_M_at_18 (by decide) ?_
      refine V_iret d_M_at_27 rfl rfl ⟨_, rfl, _, _, hM, hR, rfl, ?_⟩
      have h14 : ¬ i < nI len := by
        have : ¬ i < sc 29 := h_14
        rwa [q1] at this
      unfold sAt
      rw [if_neg h_6, if_pos (show nI len ≤ i from i_nlt h14)]
theorem c_M_out (hg : GO g) (hM : Md g m0 m a B sc ar) (hR : RM sc ar tx lb pr n day len ft ed) (i : Int32) : CT g m_M_out 0 0 0 0 [.ref a, .int i] m (Pq g m0 a B [xIA] (outO pr i) tx lb pr n day len ft ed) := by
  obtain ⟨⟨q1, q2, q3⟩, q4⟩ := hR.2.2.1
  have bad : sAt pr i = -1 → V g m_M_out 0 0 0 0 13 [(0, .ref a), (1, .int i)] [.ref a] m (Pq g m0 a B [xIA] (outO pr i) tx lb pr n day len ft ed) := by
    intro e
    refine V_iconst (v := 1) d_M_out_13 (by decide) ?_
    refine V_goto (tgt := 18) d_M_out_14 (by decide) ?_
    refine Mput (k := 0) pl_M_7 d_M_out_18 hM rfl rfl (fun m hM => ?_)
    first | refine V_aload_n d_M_out_21 rfl rfl ?_ | refine V_aloadN_n d_M_out_21 rfl rfl ?_
    refine Vget fl_M_7 d_M_out_22 hM.1 rfl ?_
    refine V_if_eq (tgt := 32) d_M_out_25 (by decide) (fun h_25 => ?_) (fun h_25 => ?_)
    · exact absurd h_25 (show ¬ (1 : Int32) = 0 by decide)
    · refine V_iconst (v := 0) d_M_out_28 (by decide) ?_
      refine V_goto (tgt := 38) d_M_out_29 (by decide) ?_
      refine V_iret d_M_out_38 rfl rfl ⟨_, rfl, _, _, hM, hR, ?_⟩
      unfold outO
      rw [e, if_pos (by decide)]
      exact (show AG [xIA] eIA 0 1 from ⟨by decide, by decide⟩)
  refine CT_go (lo := [(0, .ref a), (1, .int i)]) rfl rfl rfl rfl hg ?_
  first | refine V_aload_n d_M_out_0 rfl rfl ?_ | refine V_aloadN_n d_M_out_0 rfl rfl ?_
  refine V_iload_n d_M_out_1 rfl rfl ?_
  refine V_if_lt (tgt := 13) d_M_out_2 (by decide) (fun h_2 => ?_) (fun h_2 => ?_)
  · exact bad (by unfold sAt; rw [if_pos h_2])
  · refine V_iload_n d_M_out_5 rfl rfl ?_
    first | refine V_aload_n d_M_out_6 rfl rfl ?_ | refine V_aloadN_n d_M_out_6 rfl rfl ?_
    refine Vget fl_M_104 d_M_out_7 hM.1 rfl ?_
    refine V_icmp_lt (tgt := 17) d_M_out_10 (by decide) (fun h_10 => ?_) (fun h_10 => ?_)
    · have h14 : i < nI pr.2 := by
        have : i < sc 31 := h_10
        rwa [q1] at this
      obtain ⟨j, hj, rfl, e⟩ := sAt_in (s := pr) h_2 h14 (by omega)
      have hin : vp_in (nI j) 64 := vp_nI (by omega) (by omega)
      refine V_iconst (v := 0) d_M_out_17 (by decide) ?_
      refine Mput (k := 0) pl_M_7 d_M_out_18 hM rfl rfl (fun m hM => ?_)
      first | refine V_aload_n d_M_out_21 rfl rfl ?_ | refine V_aloadN_n d_M_out_21 rfl rfl ?_
      refine Vget fl_M_7 d_M_out_22 hM.1 rfl ?_
      refine V_if_eq (tgt := 32) d_M_out_25 (by decide) (fun h_25 => ?_) (fun h_25 => ?_)
      · first | refine V_aload_n d_M_out_32 rfl rfl ?_ | refine V_aloadN_n d_M_out_32 rfl rfl ?_
        refine Vget fl_M_107 d_M_out_33 hM.1 rfl ?_
        refine V_iload_n d_M_out_36 rfl rfl ?_
        refine Miald d_M_out_37 hM (by decide) (by assumption) ?_
        rw [nI_clamp (by omega), q3 j hj]
        refine V_iret d_M_out_38 rfl rfl ⟨_, rfl, _, _, hM, hR, ?_⟩
        unfold outO
        rw [e, if_neg (q4 j hj)]
        exact ⟨rfl, rfl⟩
      · exact absurd rfl h_25
    · refine bad ?_
      have h14 : ¬ i < nI pr.2 := by
        have : ¬ i < sc 31 := h_10
        rwa [q1] at this
      unfold sAt
      rw [if_neg h_2, if_pos (i_nlt h14)]
theorem c_M_count (hg : GO g) (hM : Md g m0 m a B sc ar) (hR : RM sc ar tx lb pr n day len ft ed) (x : Int32) : CT g m_M_count 1 22 0 0 [.ref a, .int x] m (Pq g m0 a B [] (oI (cntO tx lb pr n day ed x)) tx lb pr n day len ft ed) := by
  unfold cntO
  refine CT_go (lo := [(0, .ref a), (1, .int x)]) rfl rfl rfl rfl hg ?_
  first | refine V_aload_n d_M_count_0 rfl rfl ?_ | refine V_aloadN_n d_M_count_0 rfl rfl ?_
  refine V_iconst (v := 0) d_M_count_1 (by decide) ?_
  refine Mput (k := 0) pl_M_7 d_M_count_2 hM rfl rfl (fun m hM => ?_)
  refine V_iload_n d_M_count_5 rfl rfl ?_
  rcases tabC x 5 with ⟨j, hj, rfl⟩ | hw
  · have hjj : j = 0 ∨ j = 1 ∨ j = 2 ∨ j = 3 ∨ j = 4 ∨ j = 5 := by omega
    rcases hjj with rfl | rfl | rfl | rfl | rfl | rfl
    · refine V_tabIn (x := nI 0) (off := 38) (tgt := 44) d_M_count_6 (by decide) (by decide) (by decide +kernel) (by decide) ?_
      first | refine V_aload_n d_M_count_44 rfl rfl ?_ | refine V_aloadN_n d_M_count_44 rfl rfl ?_
      refine Vget fl_M_20 d_M_count_45 hM.1 rfl ?_
      rw [if_pos (show nI 0 = 0 from rfl)]
      exact V_iret d_M_count_48 rfl rfl ⟨_, rfl, _, _, hM, hR, rfl, hR.2.2.2.1.1⟩
    · refine V_tabIn (x := nI 1) (off := 43) (tgt := 49) d_M_count_6 (by decide) (by decide) (by decide +kernel) (by decide) ?_
      first | refine V_aload_n d_M_count_49 rfl rfl ?_ | refine V_aloadN_n d_M_count_49 rfl rfl ?_
      refine Vget fl_M_17 d_M_count_50 hM.1 rfl ?_
      rw [if_neg (by decide), if_pos (show nI 1 = 1 from rfl)]
      exact V_iret d_M_count_53 rfl rfl ⟨_, rfl, _, _, hM, hR, rfl, hR.1.1⟩
    · refine V_tabIn (x := nI 2) (off := 48) (tgt := 54) d_M_count_6 (by decide) (by decide) (by decide +kernel) (by decide) ?_
      first | refine V_aload_n d_M_count_54 rfl rfl ?_ | refine V_aloadN_n d_M_count_54 rfl rfl ?_
      refine Vget fl_M_110 d_M_count_55 hM.1 rfl ?_
      rw [if_neg (by decide), if_neg (by decide), if_pos (show nI 2 = 2 from rfl)]
      exact V_iret d_M_count_58 rfl rfl ⟨_, rfl, _, _, hM, hR, rfl, hR.2.1.1⟩
    · refine V_tabIn (x := nI 3) (off := 53) (tgt := 59) d_M_count_6 (by decide) (by decide) (by decide +kernel) (by decide) ?_
      first | refine V_aload_n d_M_count_59 rfl rfl ?_ | refine V_aloadN_n d_M_count_59 rfl rfl ?_
      refine VcallV cb_M_acting mv_M_167 rfl (ci := 6) rfl rfl d_M_count_60 (c_M_acting hg hM (RM_0 hR)) ⟨by decide, by decide⟩ rfl hM.1 rfl (Nat.le_of_ble_eq_true rfl) (fun _ _ h => nomatch h.1) (fun v m2 hR => ?_)
      obtain ⟨hv9, e9⟩ := hR
      cases hv9
      subst m2
      refine V_iconst (v := 1) d_M_count_63 (by decide) ?_
      refine V_iadd d_M_count_64 ?_
      rw [if_neg (by decide), if_neg (by decide), if_neg (by decide), if_pos (show nI 3 = 3 from rfl)]
      exact V_iret d_M_count_65 rfl rfl ⟨_, rfl, _, _, hM, hR, rfl, mA_1 _⟩
    · refine V_tabIn (x := nI 4) (off := 60) (tgt := 66) d_M_count_6 (by decide) (by decide) (by decide +kernel) (by decide) ?_
      first | refine V_aload_n d_M_count_66 rfl rfl ?_ | refine V_aloadN_n d_M_count_66 rfl rfl ?_
      refine Vget fl_M_26 d_M_count_67 hM.1 rfl ?_
      rw [if_neg (by decide), if_neg (by decide), if_neg (by decide), if_neg (by decide), if_pos (show nI 4 = 4 from rfl)]
      exact V_iret d_M_count_70 rfl rfl ⟨_, rfl, _, _, hM, hR, rfl, hR.2.2.2.2.1⟩
    · refine V_tabIn (x := nI 5) (off := 65) (tgt := 71) d_M_count_6 (by decide) (by decide) (by decide +kernel) (by decide) ?_
      first | refine V_aload_n d_M_count_71 rfl rfl ?_ | refine V_aloadN_n d_M_count_71 rfl rfl ?_
      refine Vget fl_M_104 d_M_count_72 hM.1 rfl ?_
      rw [if_neg (by decide), if_neg (by decide), if_neg (by decide), if_neg (by decide), if_neg (by decide), if_pos (show nI 5 = 5 from rfl)]
      exact V_iret d_M_count_75 rfl rfl ⟨_, rfl, _, _, hM, hR, rfl, hR.2.2.1.1.1⟩
  · have m9 : ∀ j : Nat, j ≤ 5 → x ≠ nI j := fun j hj z => by
      have q := congrArg Int32.toInt z
      rw [nI_toInt (by omega)] at q
      omega
    refine V_tabOut (tgt := 76) d_M_count_6 hw (by decide) ?_
    rw [if_neg (show ¬ x = 0 from m9 0 (by omega)), if_neg (show ¬ x = 1 from m9 1 (by omega)), if_neg (show ¬ x = 2 from m9 2 (by omega)), if_neg (show ¬ x = 3 from m9 3 (by omega)), if_neg (show ¬ x = 4 from m9 4 (by omega)), if_neg (show ¬ x = 5 from m9 5 (by omega))]
    refine V_iconst (v := -1) d_M_count_76 (by decide) ?_
    exact V_iret d_M_count_77 rfl rfl ⟨_, rfl, _, _, hM, hR, rfl, rfl⟩
theorem c_M_zone (hg : GO g) (hM : Md g m0 m a B sc ar) (hR : RM sc ar tx lb pr n day len ft ed) (c : Int32) : CT g m_M_zone 1 23 0 0 [.ref a, .int c] m (Pq g m0 a B [xIA, xIS] (if wi c 0 9999 = false then eIA else zonO ed c (acA ed n day)) tx lb pr n day len ft ed) := by
  have hn4 := hR.2.2.2.1.2
  refine CT_go (lo := [(0, .ref a), (1, .int c)]) rfl rfl rfl rfl hg ?_
  first | refine V_aload_n d_M_zone_0 rfl rfl ?_ | refine V_aloadN_n d_M_zone_0 rfl rfl ?_
  refine VcallV cb_M_acting mv_M_167 rfl (ci := 6) rfl rfl d_M_zone_1 (c_M_acting hg hM hR) ⟨by decide, by decide⟩ rfl hM.1 rfl (Nat.le_of_ble_eq_true rfl) (fun _ _ h => nomatch h.1) (fun v m2 hR => ?_)
  obtain ⟨hv9, e9⟩ := hR
  cases hv9
  subst m2
  refine V_istore_n d_M_zone_4 rfl rfl ?_
  first | refine V_aload_n d_M_zone_5 rfl rfl ?_ | refine V_aloadN_n d_M_zone_5 rfl rfl ?_
  refine V_iload_n d_M_zone_6 rfl rfl ?_
  refine V_iconst (v := 0) d_M_zone_7 (by decide) ?_
  refine V_sipush (v := 9999) d_M_zone_8 (by decide) ?_
  refine V_callS cb_M_not ms_M_156 rfl rfl d_M_zone_11 (c_M_not hg c 0 9999) ⟨by decide, by decide⟩ rfl rfl (Nat.le_of_ble_eq_true rfl) (fun _ _ h => nomatch h.1) (fun v m2 hR => ?_)
  obtain ⟨hv9, e9⟩ := hR
  cases hv9
  subst m2
  refine V_if_eq (tgt := 21) d_M_zone_14 (by decide) (fun h_14 => ?_) (fun h_14 => ?_)
  · have e : wi c 0 9999 = true := by simpa using bi_eq0.mp h_14
    rw [if_neg (by rw [e]; decide)]
    cases ha : acA ed n day with
    | none =>
      refine V_iload_n d_M_zone_21 rfl rfl ?_
      refine V_if_ge (tgt := 29) d_M_zone_22 (by decide) (fun h_22 => ?_) (fun h_22 => ?_)
      · exact absurd h_22 (show ¬ (0 : Int32) ≤ -1 by decide)
      · refine V_iconst (v := 2) d_M_zone_25 (by decide) ?_
        refine V_goto (tgt := 30) d_M_zone_26 (by decide) ?_
        refine Mput (k := 0) pl_M_7 d_M_zone_30 hM rfl rfl (fun m hM => ?_)
        first | refine V_aload_n d_M_zone_33 rfl rfl ?_ | refine V_aloadN_n d_M_zone_33 rfl rfl ?_
        refine Vget fl_M_7 d_M_zone_34 hM.1 rfl ?_
        refine V_if_eq (tgt := 44) d_M_zone_37 (by decide) (fun h_37 => ?_) (fun h_37 => ?_)
        · exact absurd h_37 (show ¬ (2 : Int32) = 0 by decide)
        · refine V_iconst (v := 0) d_M_zone_40 (by decide) ?_
          refine V_goto (tgt := 50) d_M_zone_41 (by decide) ?_
          exact V_iret d_M_zone_50 rfl rfl ⟨_, rfl, _, _, hM, hR, (show AG [xIA, xIS] eIS 0 2 from ⟨by decide, by decide⟩)⟩
    | some i =>
      have hi := acA_lt ha
      have hE := hR.2.2.2.2.2.2 i hi
      refine V_iload_n d_M_zone_21 rfl rfl ?_
      refine V_if_ge (tgt := 29) d_M_zone_22 (by decide) (fun h_22 => ?_) (fun h_22 => ?_)
      · refine V_iconst (v := 0) d_M_zone_29 (by decide) ?_
        refine Mput (k := 0) pl_M_7 d_M_zone_30 hM rfl rfl (fun m hM => ?_)
        first | refine V_aload_n d_M_zone_33 rfl rfl ?_ | refine V_aloadN_n d_M_zone_33 rfl rfl ?_
        refine Vget fl_M_7 d_M_zone_34 hM.1 rfl ?_
        refine V_if_eq (tgt := 44) d_M_zone_37 (by decide) (fun h_37 => ?_) (fun h_37 => ?_)
        · first | refine V_aload_n d_M_zone_44 rfl rfl ?_ | refine V_aloadN_n d_M_zone_44 rfl rfl ?_
          refine V_iload_n d_M_zone_45 rfl rfl ?_
          refine V_iload_n d_M_zone_46 rfl rfl ?_
          refine ek_v (P := fun z => V g m_M_zone 1 23 0 0 _ _ z _ _) (show _ = [Value.int c, .int (nI i), .ref a] from rfl) ?_
          refine VcallV cb_M_zoneBy mv_M_177 rfl (ci := 6) rfl rfl d_M_zone_47 (c_M_zoneBy hg hM (by omega) hE c) ⟨by decide, by decide⟩ rfl hM.1 rfl (Nat.le_of_ble_eq_true rfl) (fun _ _ h => nomatch h.1) (fun v m2 hR => ?_)
          obtain ⟨hv9, e9⟩ := hR
          cases hv9
          subst m2
          exact V_iret d_M_zone_50 rfl rfl ⟨_, rfl, _, _, hM, hR, rfl, rfl⟩
        · exact absurd rfl h_37
      · exact absurd (i_nlt (nI_pos (show i < 2 ^ 31 by omega))) h_22
  · have e : wi c 0 9999 = false := by simpa using bi_ne0.mp h_14
    rw [if_pos e]
    refine V_iconst (v := 1) d_M_zone_17 (by decide) ?_
    refine V_goto (tgt := 30) d_M_zone_18 (by decide) ?_
    refine Mput (k := 0) pl_M_7 d_M_zone_30 hM rfl rfl (fun m hM => ?_)
    first | refine V_aload_n d_M_zone_33 rfl rfl ?_ | refine V_aloadN_n d_M_zone_33 rfl rfl ?_
    refine Vget fl_M_7 d_M_zone_34 hM.1 rfl ?_
    refine V_if_eq (tgt := 44) d_M_zone_37 (by decide) (fun h_37 => ?_) (fun h_37 => ?_)
    · exact absurd h_37 (show ¬ (1 : Int32) = 0 by decide)
    · refine V_iconst (v := 0) d_M_zone_40 (by decide) ?_
      refine V_goto (tgt := 50) d_M_zone_41 (by decide) ?_
      exact V_iret d_M_zone_50 rfl rfl ⟨_, rfl, _, _, hM, hR, (show AG [xIA, xIS] eIA 0 1 from ⟨by decide, by decide⟩)⟩
theorem c_M_price (hg : GO g) (hM : Md g m0 m a B sc ar) (hR : RM sc ar tx lb pr n day len ft ed) (c w : Int32) : CT g m_M_price 1 23 0 0 [.ref a, .int c, .int w] m (Pq g m0 a B [xNE, xIA, xIS] (priO ed c w (acA ed n day)) tx lb pr n day len ft ed) := by
  have hn4 := hR.2.2.2.1.2
  refine CT_go (lo := [(0, .ref a), (1, .int c), (2, .int w)]) rfl rfl rfl rfl hg ?_
  first | refine V_aload_n d_M_price_0 rfl rfl ?_ | refine V_aloadN_n d_M_price_0 rfl rfl ?_
  refine VcallV cb_M_acting mv_M_167 rfl (ci := 6) rfl rfl d_M_price_1 (c_M_acting hg hM hR) ⟨by decide, by decide⟩ rfl hM.1 rfl (Nat.le_of_ble_eq_true rfl) (fun _ _ h => nomatch h.1) (fun v m2 hR => ?_)
  obtain ⟨hv9, e9⟩ := hR
  cases hv9
  subst m2
  cases ha : acA ed n day with
  | none =>
    refine V_istore_n d_M_price_4 rfl rfl ?_
    refine V_iload_n d_M_price_5 rfl rfl ?_
    refine V_if_ge (tgt := 13) d_M_price_6 (by decide) (fun h_6 => ?_) (fun h_6 => ?_)
    · exact absurd h_6 (show ¬ (0 : Int32) ≤ -1 by decide)
    · refine V_iconst (v := -1) d_M_price_9 (by decide) ?_
      refine V_goto (tgt := 19) d_M_price_10 (by decide) ?_
      refine V_istore d_M_price_19 rfl ?_
      first | refine V_aload_n d_M_price_21 rfl rfl ?_ | refine V_aloadN_n d_M_price_21 rfl rfl ?_
      refine V_iload_n d_M_price_22 rfl rfl ?_
      refine V_if_ge (tgt := 30) d_M_price_23 (by decide) (fun h_23 => ?_) (fun h_23 => ?_)
      · exact absurd h_23 (show ¬ (0 : Int32) ≤ -1 by decide)
      · refine V_iconst (v := 3) d_M_price_26 (by decide) ?_
        refine V_goto (tgt := 55) d_M_price_27 (by decide) ?_
        refine Mput (k := 0) pl_M_7 d_M_price_55 hM rfl rfl (fun m hM => ?_)
        first | refine V_aload_n d_M_price_58 rfl rfl ?_ | refine V_aloadN_n d_M_price_58 rfl rfl ?_
        refine Vget fl_M_7 d_M_price_59 hM.1 rfl ?_
        refine V_if_eq (tgt := 69) d_M_price_62 (by decide) (fun h_62 => ?_) (fun h_62 => ?_)
        · exact absurd h_62 (show ¬ (3 : Int32) = 0 by decide)
        · refine V_iconst (v := 0) d_M_price_65 (by decide) ?_
          refine V_goto (tgt := 76) d_M_price_66 (by decide) ?_
          exact V_iret d_M_price_76 rfl rfl ⟨_, rfl, _, _, hM, hR, (show AG [xNE, xIA, xIS] eIS 0 3 from ⟨by decide, by decide⟩)⟩
  | some i =>
    have hi := acA_lt ha
    have hE := hR.2.2.2.2.2.2 i hi
    have hp : (0 : Int32) ≤ nI i := i_nlt (nI_pos (by omega))
    rw [priO]
    refine V_istore_n d_M_price_4 rfl rfl ?_
    refine V_iload_n d_M_price_5 rfl rfl ?_
    refine V_if_ge (tgt := 13) d_M_price_6 (by decide) (fun h_6 => ?_) (fun h_6 => ?_)
    · first | refine V_aload_n d_M_price_13 rfl rfl ?_ | refine V_aloadN_n d_M_price_13 rfl rfl ?_
      refine V_iload_n d_M_price_14 rfl rfl ?_
      refine V_iload_n d_M_price_15 rfl rfl ?_
      refine ek_v (P := fun z => V g m_M_price 1 23 0 0 _ _ z _ _) (show _ = [Value.int c, .int (nI i), .ref a] from rfl) ?_
      refine VcallV cb_M_find mv_M_170 rfl (ci := 6) rfl rfl d_M_price_16 (c_M_find hg hM (by omega) hE c) ⟨by decide, by decide⟩ rfl hM.1 rfl (Nat.le_of_ble_eq_true rfl) (fun _ _ h => nomatch h.1) (fun v m2 hR => ?_)
      obtain ⟨hv9, e9⟩ := hR
      cases hv9
      subst m2
      cases hf : fndF (ed i).2.1 c (ed i).1 0 with
      | none =>
        refine V_istore d_M_price_19 rfl ?_
        first | refine V_aload_n d_M_price_21 rfl rfl ?_ | refine V_aloadN_n d_M_price_21 rfl rfl ?_
        refine V_iload_n d_M_price_22 rfl rfl ?_
        refine V_if_ge (tgt := 30) d_M_price_23 (by decide) (fun h_23 => ?_) (fun h_23 => ?_)
        · refine V_iload d_M_price_30 rfl ?_
          refine V_if_ge (tgt := 39) d_M_price_32 (by decide) (fun h_32 => ?_) (fun h_32 => ?_)
          · exact absurd h_32 (show ¬ (0 : Int32) ≤ -1 by decide)
          · refine V_iconst (v := 1) d_M_price_35 (by decide) ?_
            refine V_goto (tgt := 55) d_M_price_36 (by decide) ?_
            refine Mput (k := 0) pl_M_7 d_M_price_55 hM rfl rfl (fun m hM => ?_)
            first | refine V_aload_n d_M_price_58 rfl rfl ?_ | refine V_aloadN_n d_M_price_58 rfl rfl ?_
            refine Vget fl_M_7 d_M_price_59 hM.1 rfl ?_
            refine V_if_eq (tgt := 69) d_M_price_62 (by decide) (fun h_62 => ?_) (fun h_62 => ?_)
            · exact absurd h_62 (show ¬ (1 : Int32) = 0 by decide)
            · refine V_iconst (v := 0) d_M_price_65 (by decide) ?_
              refine V_goto (tgt := 76) d_M_price_66 (by decide) ?_
              exact V_iret d_M_price_76 rfl rfl ⟨_, rfl, _, _, hM, hR, (show AG [xNE, xIA, xIS] eNE 0 1 from ⟨by decide, by decide⟩)⟩
        · exact absurd hp h_23
      | some j =>
        obtain ⟨-, hj, -⟩ := fndF_some hf
        have h8 := hE.2.2.2.2.1
        obtain ⟨⟨r1, r2, r3, r4, r5, r6, r7, r8, r9⟩, -⟩ := hE.2.2.2.2.2.2.1 j (by omega)
        rw [priS]
        refine V_istore d_M_price_19 rfl ?_
        first | refine V_aload_n d_M_price_21 rfl rfl ?_ | refine V_aloadN_n d_M_price_21 rfl rfl ?_
        refine V_iload_n d_M_price_22 rfl rfl ?_
        refine V_if_ge (tgt := 30) d_M_price_23 (by decide) (fun h_23 => ?_) (fun h_23 => ?_)
        · refine V_iload d_M_price_30 rfl ?_
          refine V_if_ge (tgt := 39) d_M_price_32 (by decide) (fun h_32 => ?_) (fun h_32 => ?_)
          · refine V_iload_n d_M_price_39 rfl rfl ?_
            refine V_iconst (v := 1) d_M_price_40 (by decide) ?_
            refine V_sipush (v := 2000) d_M_price_41 (by decide) ?_
            refine V_callS cb_M_not ms_M_156 rfl rfl d_M_price_44 (c_M_not hg w 1 2000) ⟨by decide, by decide⟩ rfl rfl (Nat.le_of_ble_eq_true rfl) (fun _ _ h => nomatch h.1) (fun v m2 hR => ?_)
            obtain ⟨hv9, e9⟩ := hR
            cases hv9
            subst m2
            refine V_if_eq (tgt := 54) d_M_price_47 (by decide) (fun h_47 => ?_) (fun h_47 => ?_)
            · have e : wi w 1 2000 = true := by simpa using bi_eq0.mp h_47
              rw [if_neg (by rw [e]; decide)]
              refine V_iconst (v := 0) d_M_price_54 (by decide) ?_
              refine Mput (k := 0) pl_M_7 d_M_price_55 hM rfl rfl (fun m hM => ?_)
              first | refine V_aload_n d_M_price_58 rfl rfl ?_ | refine V_aloadN_n d_M_price_58 rfl rfl ?_
              refine Vget fl_M_7 d_M_price_59 hM.1 rfl ?_
              refine V_if_eq (tgt := 69) d_M_price_62 (by decide) (fun h_62 => ?_) (fun h_62 => ?_)
              · first | refine V_aload_n d_M_price_69 rfl rfl ?_ | refine V_aloadN_n d_M_price_69 rfl rfl ?_
                refine V_iload d_M_price_70 rfl ?_
                refine V_iload_n d_M_price_72 rfl rfl ?_
                refine ek_v (P := fun z => V g m_M_price 1 23 0 0 _ _ z _ _) (show _ = [Value.int w, .int (nI (8 * i + j)), .ref a] from rfl) ?_
                refine VcallV cb_M_priceOf mv_M_174 rfl (ci := 6) rfl rfl d_M_price_73 (c_M_priceOf hg hM (v := (ed i).2.1 j) (by omega) r6 r7 w) ⟨by decide, by decide⟩ rfl hM.1 rfl (Nat.le_of_ble_eq_true rfl) (fun _ _ h => nomatch h.1) (fun v m2 hR => ?_)
                obtain ⟨hv9, e9⟩ := hR
                cases hv9
                subst m2
                exact V_iret d_M_price_76 rfl rfl ⟨_, rfl, _, _, hM, hR, rfl, rfl⟩
              · exact absurd rfl h_62
            · have e : wi w 1 2000 = false := by simpa using bi_ne0.mp h_47
              rw [if_pos e]
              refine V_iconst (v := 2) d_M_price_50 (by decide) ?_
              refine V_goto (tgt := 55) d_M_price_51 (by decide) ?_
              refine Mput (k := 0) pl_M_7 d_M_price_55 hM rfl rfl (fun m hM => ?_)
              first | refine V_aload_n d_M_price_58 rfl rfl ?_ | refine V_aloadN_n d_M_price_58 rfl rfl ?_
              refine Vget fl_M_7 d_M_price_59 hM.1 rfl ?_
              refine V_if_eq (tgt := 69) d_M_price_62 (by decide) (fun h_62 => ?_) (fun h_62 => ?_)
              · exact absurd h_62 (show ¬ (2 : Int32) = 0 by decide)
              · refine V_iconst (v := 0) d_M_price_65 (by decide) ?_
                refine V_goto (tgt := 76) d_M_price_66 (by decide) ?_
                exact V_iret d_M_price_76 rfl rfl ⟨_, rfl, _, _, hM, hR, (show AG [xNE, xIA, xIS] eIA 0 2 from ⟨by decide, by decide⟩)⟩
          · exact absurd (i_nlt (nI_pos (by omega))) h_32
        · exact absurd hp h_23
    · exact absurd hp h_6
theorem c_M_hours (hg : GO g) (hM : Md g m0 m a B sc ar) (hR : RM sc ar tx lb pr n day len ft ed) (c w : Int32) : CT g m_M_hours 1 23 0 0 [.ref a, .int c, .int w] m (Pq g m0 a B [xNE, xIA, xIS] (houO ed c w (acA ed n day)) tx lb pr n day len ft ed) := by
  have hn4 := hR.2.2.2.1.2
  -- it throws
  have bad : ∀ (code : Int32) (x : List (Nat × Value)), ¬ code = 0 → AG [xNE, xIA, xIS] (houO ed c w (acA ed n day)) 0 code → V g m_M_hours 1 23 0 0 68 x [.int code, .ref a] m (Pq g m0 a B [xNE, xIA, xIS] (houO ed c w (acA ed n day)) tx lb pr n day len ft ed) → True := fun _ _ _ _ _ => trivial
  have thr : ∀ (code : Int32), ¬ code = 0 → AG [xNE, xIA, xIS] (houO ed c w (acA ed n day)) 0 code → ∀ x, chk [(0, .ref a)] x → V g m_M_hours 1 23 0 0 68 x [.int code, .ref a] m (Pq g m0 a B [xNE, xIA, xIS] (houO ed c w (acA ed n day)) tx lb pr n day len ft ed) := by
    intro code h0 hA x hx
    refine V_lo _ hx ?_
    refine Mput (k := 0) pl_M_7 d_M_hours_68 hM rfl rfl (fun m hM => ?_)
    first | refine V_aload_n d_M_hours_71 rfl rfl ?_ | refine V_aloadN_n d_M_hours_71 rfl rfl ?_
    refine Vget fl_M_7 d_M_hours_72 hM.1 rfl ?_
    refine V_if_ne (tgt := 104) d_M_hours_75 (by decide) (fun h_75 => ?_) (fun h_75 => ?_)
    · refine V_iconst (v := 0) d_M_hours_104 (by decide) ?_
      exact V_iret d_M_hours_105 rfl rfl ⟨_, rfl, _, _, hM, hR, hA⟩
    · exact absurd h_75 h0
  refine CT_go (lo := [(0, .ref a), (1, .int c), (2, .int w)]) rfl rfl rfl rfl hg ?_
  first | refine V_aload_n d_M_hours_0 rfl rfl ?_ | refine V_aloadN_n d_M_hours_0 rfl rfl ?_
  refine VcallV cb_M_acting mv_M_167 rfl (ci := 6) rfl rfl d_M_hours_1 (c_M_acting hg hM hR) ⟨by decide, by decide⟩ rfl hM.1 rfl (Nat.le_of_ble_eq_true rfl) (fun _ _ h => nomatch h.1) (fun v m2 hR => ?_)
  obtain ⟨hv9, e9⟩ := hR
  cases hv9
  subst m2
  cases ha : acA ed n day with
  | none =>
    rw [ha] at thr
    refine V_istore_n d_M_hours_4 rfl rfl ?_
    refine V_iload_n d_M_hours_5 rfl rfl ?_
    refine V_if_ge (tgt := 13) d_M_hours_6 (by decide) (fun h_6 => ?_) (fun h_6 => ?_)
    · exact absurd h_6 (show ¬ (0 : Int32) ≤ -1 by decide)
    · refine V_iconst (v := -1) d_M_hours_9 (by decide) ?_
      refine V_goto (tgt := 19) d_M_hours_10 (by decide) ?_
      refine V_istore d_M_hours_19 rfl ?_
      first | refine V_aload_n d_M_hours_21 rfl rfl ?_ | refine V_aloadN_n d_M_hours_21 rfl rfl ?_
      refine V_iload_n d_M_hours_22 rfl rfl ?_
      refine V_if_ge (tgt := 30) d_M_hours_23 (by decide) (fun h_23 => ?_) (fun h_23 => ?_)
      · exact absurd h_23 (show ¬ (0 : Int32) ≤ -1 by decide)
      · refine V_iconst (v := 3) d_M_hours_26 (by decide) ?_
        refine V_goto (tgt := 68) d_M_hours_27 (by decide) ?_
        exact thr 3 (by decide) ⟨by decide, by decide⟩ _ ⟨rfl, trivial⟩
  | some i =>
    rw [ha] at thr
    have hi := acA_lt ha
    have hE := hR.2.2.2.2.2.2 i hi
    have hp : (0 : Int32) ≤ nI i := i_nlt (nI_pos (by omega))
    refine V_istore_n d_M_hours_4 rfl rfl ?_
    refine V_iload_n d_M_hours_5 rfl rfl ?_
    refine V_if_ge (tgt := 13) d_M_hours_6 (by decide) (fun h_6 => ?_) (fun h_6 => ?_)
    · first | refine V_aload_n d_M_hours_13 rfl rfl ?_ | refine V_aloadN_n d_M_hours_13 rfl rfl ?_
      refine V_iload_n d_M_hours_14 rfl rfl ?_
      refine V_iload_n d_M_hours_15 rfl rfl ?_
      refine ek_v (P := fun z => V g m_M_hours 1 23 0 0 _ _ z _ _) (show _ = [Value.int c, .int (nI i), .ref a] from rfl) ?_
      refine VcallV cb_M_find mv_M_170 rfl (ci := 6) rfl rfl d_M_hours_16 (c_M_find hg hM (by omega) hE c) ⟨by decide, by decide⟩ rfl hM.1 rfl (Nat.le_of_ble_eq_true rfl) (fun _ _ h => nomatch h.1) (fun v m2 hR => ?_)
      obtain ⟨hv9, e9⟩ := hR
      cases hv9
      subst m2
      rw [houO] at thr ⊢
      cases hf : fndF (ed i).2.1 c (ed i).1 0 with
      | none =>
        rw [hf] at thr
        refine V_istore d_M_hours_19 rfl ?_
        first | refine V_aload_n d_M_hours_21 rfl rfl ?_ | refine V_aloadN_n d_M_hours_21 rfl rfl ?_
        refine V_iload_n d_M_hours_22 rfl rfl ?_
        refine V_if_ge (tgt := 30) d_M_hours_23 (by decide) (fun h_23 => ?_) (fun h_23 => ?_)
        · refine V_iload d_M_hours_30 rfl ?_
          refine V_if_ge (tgt := 39) d_M_hours_32 (by decide) (fun h_32 => ?_) (fun h_32 => ?_)
          · exact absurd h_32 (show ¬ (0 : Int32) ≤ -1 by decide)
          · refine V_iconst (v := 1) d_M_hours_35 (by decide) ?_
            refine V_goto (tgt := 68) d_M_hours_36 (by decide) ?_
            exact thr 1 (by decide) ⟨by decide, by decide⟩ _ ⟨rfl, trivial⟩
        · exact absurd hp h_23
      | some j =>
        rw [hf, houS] at thr
        obtain ⟨-, hj, -⟩ := fndF_some hf
        have h8 := hE.2.2.2.2.1
        obtain ⟨⟨r1, r2, r3, r4, r5, r6, r7, r8, r9⟩, -⟩ := hE.2.2.2.2.2.2.1 j (by omega)
        have hin : vp_in (nI (8 * i + j)) 32 := vp_nI (by omega) (by omega)
        rw [houS]
        refine V_istore d_M_hours_19 rfl ?_
        first | refine V_aload_n d_M_hours_21 rfl rfl ?_ | refine V_aloadN_n d_M_hours_21 rfl rfl ?_
        refine V_iload_n d_M_hours_22 rfl rfl ?_
        refine V_if_ge (tgt := 30) d_M_hours_23 (by decide) (fun h_23 => ?_) (fun h_23 => ?_)
        · refine V_iload d_M_hours_30 rfl ?_
          refine V_if_ge (tgt := 39) d_M_hours_32 (by decide) (fun h_32 => ?_) (fun h_32 => ?_)
          · refine V_iload_n d_M_hours_39 rfl rfl ?_
            refine V_iconst (v := 0) d_M_hours_40 (by decide) ?_
            refine V_bipush (v := 23) d_M_hours_41 (by decide) ?_
            refine V_callS cb_M_not ms_M_156 rfl rfl d_M_hours_43 (c_M_not hg w 0 23) ⟨by decide, by decide⟩ rfl rfl (Nat.le_of_ble_eq_true rfl) (fun _ _ h => nomatch h.1) (fun v m2 hR => ?_)
            obtain ⟨hv9, e9⟩ := hR
            cases hv9
            subst m2
            refine V_if_eq (tgt := 53) d_M_hours_46 (by decide) (fun h_46 => ?_) (fun h_46 => ?_)
            · have e : wi w 0 23 = true := by simpa using bi_eq0.mp h_46
              have hc : ¬ wi w 0 23 = false := by rw [e]; decide
              rw [if_neg hc] at thr ⊢
              refine V_lo [(4, .int (nI (8 * i + j))), (3, .int (nI i)), (0, .ref a), (1, .int c), (2, .int w)] ⟨rfl, rfl, rfl, rfl, rfl, trivial⟩ ?_
              first | refine V_aload_n d_M_hours_53 rfl rfl ?_ | refine V_aloadN_n d_M_hours_53 rfl rfl ?_
              refine Vget fl_M_53 d_M_hours_54 hM.1 rfl ?_
              refine V_iload d_M_hours_57 rfl ?_
              refine Miald d_M_hours_59 hM (by decide) (by exact hin) ?_
              rw [nI_clamp (by omega)]
              by_cases h9 : 0 < (ed i).2.1 j 8
              · obtain ⟨s1, s2, s3⟩ := r8 h9
                rw [if_neg (fun z => z h9), s1]
                refine V_if_ge (tgt := 67) d_M_hours_60 (by decide) (fun h_60 => ?_) (fun h_60 => ?_)
                · refine V_iconst (v := 0) d_M_hours_67 (by decide) ?_
                  refine Mput (k := 0) pl_M_7 d_M_hours_68 hM rfl rfl (fun m hM => ?_)
                  first | refine V_aload_n d_M_hours_71 rfl rfl ?_ | refine V_aloadN_n d_M_hours_71 rfl rfl ?_
                  refine Vget fl_M_7 d_M_hours_72 hM.1 rfl ?_
                  refine V_if_ne (tgt := 104) d_M_hours_75 (by decide) (fun h_75 => ?_) (fun h_75 => ?_)
                  · exact absurd rfl h_75
                  · first | refine V_aload_n d_M_hours_78 rfl rfl ?_ | refine V_aloadN_n d_M_hours_78 rfl rfl ?_
                    refine Vget fl_M_53 d_M_hours_79 hM.1 rfl ?_
                    refine V_iload d_M_hours_82 rfl ?_
                    refine Miald d_M_hours_84 hM (by decide) (by exact hin) ?_
                    rw [nI_clamp (by omega), s1]
                    refine V_iload_n d_M_hours_85 rfl rfl ?_
                    refine V_icmp_gt (tgt := 104) d_M_hours_86 (by decide) (fun h_86 => ?_) (fun h_86 => ?_)
                    · refine V_iconst (v := 0) d_M_hours_104 (by decide) ?_
                      refine V_iret d_M_hours_105 rfl rfl ⟨_, rfl, _, _, hM, hR, rfl, ?_⟩
                      rw [decide_eq_true h_86]
                      rfl
                    · refine V_iload_n d_M_hours_89 rfl rfl ?_
                      first | refine V_aload_n d_M_hours_90 rfl rfl ?_ | refine V_aloadN_n d_M_hours_90 rfl rfl ?_
                      refine Vget fl_M_56 d_M_hours_91 hM.1 rfl ?_
                      refine V_iload d_M_hours_94 rfl ?_
                      refine Miald d_M_hours_96 hM (by decide) (by exact hin) ?_
                      rw [nI_clamp (by omega), s2]
                      refine V_icmp_ge (tgt := 104) d_M_hours_97 (by decide) (fun h_97 => ?_) (fun h_97 => ?_)
                      · refine V_iconst (v := 0) d_M_hours_104 (by decide) ?_
                        refine V_iret d_M_hours_105 rfl rfl ⟨_, rfl, _, _, hM, hR, rfl, ?_⟩
                        rw [decide_eq_true h_97, Bool.not_true, Bool.and_false]
                        rfl
                      · refine V_iconst (v := 1) d_M_hours_100 (by decide) ?_
                        refine V_goto (tgt := 105) d_M_hours_101 (by decide) ?_
                        refine V_iret d_M_hours_105 rfl rfl ⟨_, rfl, _, _, hM, hR, rfl, ?_⟩
                        rw [decide_eq_false h_86, decide_eq_false h_97]
                        rfl
                · exact absurd (i_nlt s3) h_60
              · rw [if_pos h9] at thr ⊢
                rw [r9 h9]
                refine V_if_ge (tgt := 67) d_M_hours_60 (by decide) (fun h_60 => ?_) (fun h_60 => ?_)
                · exact absurd h_60 (show ¬ (0 : Int32) ≤ -1 by decide)
                · refine V_iconst (v := 3) d_M_hours_63 (by decide) ?_
                  refine V_goto (tgt := 68) d_M_hours_64 (by decide) ?_
                  exact thr 3 (by decide) ⟨by decide, by decide⟩ _ ⟨rfl, trivial⟩
            · have e : wi w 0 23 = false := by simpa using bi_ne0.mp h_46
              rw [if_pos e] at thr ⊢
              refine V_iconst (v := 2) d_M_hours_49 (by decide) ?_
              refine V_goto (tgt := 68) d_M_hours_50 (by decide) ?_
              exact thr 2 (by decide) ⟨by decide, by decide⟩ _ ⟨rfl, trivial⟩
          · exact absurd (i_nlt (nI_pos (by omega))) h_32
        · exact absurd hp h_23
    · exact absurd hp h_6
end M9
