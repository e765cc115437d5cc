/-! the reference prints -/
theorem b_1 : ∀ i, i < 32 → bt 1 i = decide (i = 0) := by decide +kernel
theorem bit1 {y : Int32} : y &&& 1 = 1 ↔ bt y 0 = true := by
  constructor
  · intro h
    have h1 := congrArg (fun z => bt z 0) h
    simp only [b_and] at h1
    rw [b_1 0 (by omega)] at h1
    simpa using h1
  · intro h
    refine b_ext (fun i hi => ?_)
    rw [b_and, b_1 i hi]
    by_cases e : i = 0
    · subst e; rw [h]; rfl
    · rw [decide_eq_false e, Bool.and_false]
theorem bit0 {y : Int32} : y &&& 1 = 0 ↔ bt y 0 = false := by
  constructor
  · intro h
    have h1 := congrArg (fun z => bt z 0) h
    simp only [b_and] at h1
    rw [b_1 0 (by omega), b_0] at h1
    simpa using h1
  · intro h
    refine b_ext (fun i hi => ?_)
    rw [b_and, b_1 i hi, b_0]
    by_cases e : i = 0
    · subst e; rw [h]; rfl
    · rw [decide_eq_false e, Bool.and_false]
theorem bitN {x : Int32} {n : Nat} (h : n < 32) : x >>> (nI n &&& 31) &&& 1 = 1 ↔ bt x n = true := by
  rw [bit1, b_sshr n h x (by omega), if_pos (by omega), Nat.add_zero]
theorem bitZ {x : Int32} {n : Nat} (h : n < 32) : x >>> (nI n &&& 31) &&& 1 = 0 ↔ bt x n = false := by
  rw [bit0, b_sshr n h x (by omega), if_pos (by omega), Nat.add_zero]
theorem bitO {x : Int32} {n : Nat} (h : n < 32) : bt (x ||| 1) n = (bt x n || decide (n = 0)) := by rw [b_or, b_1 n h]
theorem wi19 {n : Nat} (h1 : 1 ≤ n) (h9 : n ≤ 9) : wi (nI n) 1 9 = true := (wi_nI (l := 1) (h := 9) (by omega) (by omega) (by omega)).mpr ⟨h1, h9⟩
theorem hasD_bt {x : Int32} {n : Nat} (h1 : 1 ≤ n) (h9 : n ≤ 9) : hasD x (nI n) = bt x n := by
  unfold hasD
  rw [wi19 h1 h9, Bool.true_and]
  cases hb : bt x n with
  | true => exact decide_eq_true ((bitN (by omega)).mpr hb)
  | false => exact decide_eq_false (fun z => by rw [bitN (by omega)] at z; rw [z] at hb; cases hb)
def PRl (F : Fw) (s : Sq) : Prop := ∀ j, j < s.2 → F j = s.1 j
def NNs (s : Sq) : Prop := ∀ j, j < s.2 → ¬ s.1 j < 0
def Pp (g : GG) (m0 : Mm) (a : Nat) (B : Nat → Nat) (sc : Fw) (ar : Ar) (s : Sq) : Ou → Mm → Prop := fun o m' => o = .inl none ∧ ∃ F, Md g m0 m' a B (upd sc 31 (nI s.2)) (stA ar 32 F) ∧ PRl F s
theorem apN_1 {n : Nat} {s : Sq} {c : Int32} (h : s.2 < n) : apN n s c = (upd s.1 s.2 c, s.2 + 1) := if_pos h
theorem upd_upd {f : Fw} {k : Nat} {x y : Int32} : upd (upd f k x) k y = upd f k y := by
  funext j
  unfold upd
  by_cases e : j = k
  · rw [if_pos e, if_pos e]
  · rw [if_neg e, if_neg e, if_neg e]
theorem PRl_ap {F : Fw} {s : Sq} {c : Int32} (h : PRl F s) : PRl (upd F s.2 c) (upd s.1 s.2 c, s.2 + 1) := fun j hj => by
  have hj' : j < s.2 + 1 := hj
  show upd F s.2 c j = upd s.1 s.2 c j
  unfold upd
  by_cases e : j = s.2
  · rw [if_pos e, if_pos e]
  · rw [if_neg e, if_neg e]
    exact h j (by omega)
theorem NN_ap {n : Nat} {s : Sq} {c : Int32} (h : NNs s) (hc : ¬ c < 0) : NNs (apN n s c) := by
  unfold apN
  split
  · intro j hj
    have hj' : j < s.2 + 1 := hj
    show ¬ upd s.1 s.2 c j < 0
    unfold upd
    by_cases e : j = s.2
    · rw [if_pos e]; exact hc
    · rw [if_neg e]; exact h j (by omega)
  · exact h
section M8
variable {g : GG} {m0 m : Mm} {a : Nat} {B : Nat → Nat} {sc : Fw} {ar : Ar}
theorem c_M_put (hg : GO g) {F : Fw} {s : Sq} (hM : Md g m0 m a B (upd sc 31 (nI s.2)) (stA ar 32 F)) (hP : PRl F s) (hs : s.2 < 37) (c : Int32) : CT g m_M_put 0 0 0 0 [.ref a, .int c] m (Pp g m0 a B sc ar (apN 37 s c)) := by
  have hin : vp_in (nI s.2) 64 := vp_nI (by omega) (by omega)
  refine CT_go (lo := [(0, .ref a), (1, .int c)]) rfl rfl rfl rfl hg ?_
  first | refine V_aload_n d_M_put_0 rfl rfl ?_ | refine V_aloadN_n d_M_put_0 rfl rfl ?_
  refine Vget fl_M_107 d_M_put_1 hM.1 rfl ?_
  first | refine V_aload_n d_M_put_4 rfl rfl ?_ | refine V_aloadN_n d_M_put_4 rfl rfl ?_
  refine Vget fl_M_104 d_M_put_5 hM.1 rfl ?_
  refine V_iload_n d_M_put_8 rfl rfl ?_
  refine Miast d_M_put_9 hM (by decide) (by exact hin) (fun m hM => ?_)
  rw [show (upd sc 31 (nI s.2) 31).toNatClampNeg = s.2 from nI_clamp (by omega), stA_st] at hM
  first | refine V_aload_n d_M_put_10 rfl rfl ?_ | refine V_aloadN_n d_M_put_10 rfl rfl ?_
  refine V_dup d_M_put_11 rfl ?_
  refine Vget fl_M_104 d_M_put_12 hM.1 rfl ?_
  refine V_iconst (v := 1) d_M_put_15 (by decide) ?_
  refine V_iadd d_M_put_16 ?_
  refine ek_v (P := fun z => V g m_M_put 0 0 0 0 _ _ z _ _) (show _ = [Value.int (nI (s.2 + 1)), .ref a] by rw [← nI_1]; rfl) ?_
  refine Mput (k := 31) pl_M_104 d_M_put_17 hM rfl rfl (fun m hM => ?_)
  rw [upd_upd] at hM
  refine V_vret d_M_put_20 rfl ⟨rfl, upd F s.2 c, ?_, ?_⟩
  · rw [apN_1 hs]; exact hM
  · rw [apN_1 hs]; exact PRl_ap hP
theorem apN_len {n : Nat} {s : Sq} {c : Int32} : (apN n s c).2 ≤ s.2 + 1 := by
  unfold apN
  split
  · exact Nat.le_refl _
  · exact Nat.le_succ _
set_option maxRecDepth 20000 in
theorem l_M_putBits (hg : GO g) {set set' : Int32} (hb : ∀ k, 1 ≤ k → k ≤ 9 → bt set' k = bt set k) {Fi : Ou → Mm → Prop} : ∀ (j k : Nat) (s : Sq) (F : Fw) (m : Mm) (x : List (Nat × Value)), j + k = 10 → 1 ≤ k → s.2 + j ≤ 37 → Md g m0 m a B (upd sc 31 (nI s.2)) (stA ar 32 F) → PRl F s → chk [(0, .ref a), (1, .int set'), (2, .int (nI k))] x → (∀ m', Pp g m0 a B sc ar (adF 37 set j k s) (.inl none) m' → Fi (.inl none) m') → V g m_M_putBits 1 21 0 0 2 x [] m Fi := by
  intro j
  induction j with
  | zero =>
    intro k s F m x hj hk1 hs hM hP hx hF
    refine V_lo _ hx ?_
    refine V_iload_n d_M_putBits_2 rfl rfl ?_
    refine V_bipush (v := 10) d_M_putBits_3 (by decide) ?_
    refine V_icmp_ge (tgt := 31) d_M_putBits_5 (by decide) (fun h_5 => ?_) (fun h_5 => ?_)
    · exact V_vret d_M_putBits_31 rfl (hF m ⟨rfl, F, hM, hP⟩)
    · exact absurd (nI_le (a := 10) (by omega) (by omega)) h_5
  | succ j ih =>
    intro k s F m x hj hk1 hs hM hP hx hF
    rw [adF] at hF
    refine V_lo _ hx ?_
    refine V_iload_n d_M_putBits_2 rfl rfl ?_
    refine V_bipush (v := 10) d_M_putBits_3 (by decide) ?_
    refine V_icmp_ge (tgt := 31) d_M_putBits_5 (by decide) (fun h_5 => ?_) (fun h_5 => ?_)
    · exact absurd h_5 (nI_ge (b := 10) (by omega) (by omega))
    · refine V_iload_n d_M_putBits_8 rfl rfl ?_
      refine V_iload_n d_M_putBits_9 rfl rfl ?_
      refine V_ishr d_M_putBits_10 ?_
      refine V_iconst (v := 1) d_M_putBits_11 (by decide) ?_
      refine V_iand d_M_putBits_12 ?_
      refine V_iconst (v := 1) d_M_putBits_13 (by decide) ?_
      refine V_icmp_ne (tgt := 25) d_M_putBits_14 (by decide) (fun h_14 => ?_) (fun h_14 => ?_)
      · have hn : ¬ hasD set (nI k) = true := by
          rw [hasD_bt hk1 (by omega), ← hb k hk1 (by omega)]
          intro z
          exact h_14 ((bitN (by omega)).mpr z)
        rw [if_neg hn] at hF
        refine V_iinc d_M_putBits_25 rfl (nI_inc _) rfl ?_
        refine V_goto (tgt := 2) d_M_putBits_28 (by decide) ?_
        exact ih (k + 1) s F m _ (by omega) (by omega) (by omega) hM hP ⟨rfl, rfl, rfl, trivial⟩ hF
      · have hy : hasD set (nI k) = true := by
          rw [hasD_bt hk1 (by omega), ← hb k hk1 (by omega)]
          exact (bitN (by omega)).mp h_14
        rw [if_pos hy] at hF
        first | refine V_aload_n d_M_putBits_17 rfl rfl ?_ | refine V_aloadN_n d_M_putBits_17 rfl rfl ?_
        refine V_bipush (v := 48) d_M_putBits_18 (by decide) ?_
        refine V_iload_n d_M_putBits_20 rfl rfl ?_
        refine V_iadd d_M_putBits_21 ?_
        refine VcallV cb_M_put mv_M_153 rfl (ci := 6) rfl rfl d_M_putBits_22 (c_M_put hg hM hP (by omega) _) ⟨by decide, by decide⟩ rfl hM.1 rfl (Nat.le_of_ble_eq_true rfl) (fun _ _ h => nomatch h.1) (fun v m2 hR => ?_)
        obtain ⟨hv9, F, hM, hP⟩ := hR
        cases hv9
        refine V_iinc d_M_putBits_25 rfl (nI_inc _) rfl ?_
        refine V_goto (tgt := 2) d_M_putBits_28 (by decide) ?_
        have hl := apN_len (n := 37) (s := s) (c := 48 + nI k)
        exact ih (k + 1) _ F _ _ (by omega) (by omega) (by omega) hM hP ⟨rfl, rfl, rfl, trivial⟩ hF
theorem c_M_putBits (hg : GO g) {F : Fw} {s : Sq} (hM : Md g m0 m a B (upd sc 31 (nI s.2)) (stA ar 32 F)) (hP : PRl F s) (hs : s.2 + 9 ≤ 37) {set set' : Int32} (hb : ∀ k, 1 ≤ k → k ≤ 9 → bt set' k = bt set k) : CT g m_M_putBits 1 21 0 0 [.ref a, .int set'] m (Pp g m0 a B sc ar (apSet 37 s set)) := by
  refine CT_go (lo := [(0, .ref a), (1, .int set')]) rfl rfl rfl rfl hg ?_
  refine V_iconst (v := 1) d_M_putBits_0 (by decide) ?_
  refine V_istore_n d_M_putBits_1 rfl rfl ?_
  exact l_M_putBits hg hb 9 1 s F m _ (by omega) (by omega) hs hM hP ⟨rfl, rfl, rfl, trivial⟩ (fun _ z => z)
/-- the digits from a power down -/
def dnF (w : Nat) : Nat → Nat → Sq → Sq
  | 0, _, s => s
  | j + 1, P, s => dnF w j (P / 10) (apN 37 s (48 + nI (w / P % 10)))
theorem dn_dg {w P : Nat} (hw : w < 10000) (hP : 0 < P) (hP2 : P ≤ 1000) : nI w / nI P - nI w / nI P / 10 * 10 = nI (w / P % 10) := by
  rw [pk_div (by omega) hP (by omega)]
  exact pk_rem (d := 10) (Nat.lt_of_le_of_lt (Nat.div_le_self w P) (by omega)) (by omega) (by omega)
theorem l_M_putD (hg : GO g) {w : Nat} (hw : w < 10000) {Fi : Ou → Mm → Prop} : ∀ (j : Nat) (s : Sq) (F : Fw) (m : Mm) (x : List (Nat × Value)), j ≤ 4 → s.2 + j ≤ 37 → Md g m0 m a B (upd sc 31 (nI s.2)) (stA ar 32 F) → PRl F s → chk [(0, .ref a), (1, .int (nI w)), (2, .int (nI (10 ^ j / 10)))] x → (∀ m', Pp g m0 a B sc ar (dnF w j (10 ^ j / 10) s) (.inl none) m' → Fi (.inl none) m') → V g m_M_putNumber 1 21 0 0 18 x [] m Fi := by
  intro j
  induction j with
  | zero =>
    intro s F m x hj hs hM hP hx hF
    refine V_lo _ hx ?_
    refine V_iload_n d_M_putNumber_18 rfl rfl ?_
    refine V_if_le (tgt := 43) d_M_putNumber_19 (by decide) (fun h_19 => ?_) (fun h_19 => ?_)
    · exact V_vret d_M_putNumber_43 rfl (hF m ⟨rfl, F, hM, hP⟩)
    · exact absurd (show nI (10 ^ 0 / 10) ≤ 0 by decide) h_19
  | succ j ih =>
    intro s F m x hj hs hM hP hx hF
    have hpow : 10 ^ (j + 1) / 10 = 10 ^ j := by rw [Nat.pow_succ]; omega
    have hP0 : 0 < 10 ^ j := Nat.pow_pos (by omega)
    have hP1 : 10 ^ j ≤ 1000 := by
      have hjj : j = 0 ∨ j = 1 ∨ j = 2 ∨ j = 3 := by omega
      rcases hjj with rfl | rfl | rfl | rfl <;> decide
    rw [hpow] at hx hF
    rw [dnF] at hF
    refine V_lo _ hx ?_
    refine V_iload_n d_M_putNumber_18 rfl rfl ?_
    refine V_if_le (tgt := 43) d_M_putNumber_19 (by decide) (fun h_19 => ?_) (fun h_19 => ?_)
    · exact absurd h_19 (nI_nle hP0 (by omega))
    · first | refine V_aload_n d_M_putNumber_22 rfl rfl ?_ | refine V_aloadN_n d_M_putNumber_22 rfl rfl ?_
      refine V_bipush (v := 48) d_M_putNumber_23 (by decide) ?_
      refine V_iload_n d_M_putNumber_25 rfl rfl ?_
      refine V_iload_n d_M_putNumber_26 rfl rfl ?_
      refine V_idiv d_M_putNumber_27 (fun z => nI_nle hP0 (by omega) (by rw [z]; exact Int32.le_refl 0)) ?_
      refine V_bipush (v := 10) d_M_putNumber_28 (by decide) ?_
      refine V_irem d_M_putNumber_30 (by decide) ?_
      rw [dn_dg hw hP0 hP1]
      refine V_iadd d_M_putNumber_31 ?_
      refine VcallV cb_M_put mv_M_153 rfl (ci := 6) rfl rfl d_M_putNumber_32 (c_M_put hg hM hP (by omega) _) ⟨by decide, by decide⟩ rfl hM.1 rfl (Nat.le_of_ble_eq_true rfl) (fun _ _ h => nomatch h.1) (fun v m2 hR => ?_)
      obtain ⟨hv9, F, hM, hP⟩ := hR
      cases hv9
      have hl := apN_len (n := 37) (s := s) (c := 48 + nI (w / 10 ^ j % 10))
      refine V_iload_n d_M_putNumber_35 rfl rfl ?_
      refine V_bipush (v := 10) d_M_putNumber_36 (by decide) ?_
      refine V_idiv d_M_putNumber_38 (by decide) ?_
      refine V_istore_n d_M_putNumber_39 rfl rfl ?_
      refine V_goto (tgt := 18) d_M_putNumber_40 (by decide) ?_
      refine ih _ F _ _ (by omega) (by omega) hM hP ⟨rfl, rfl, ?_, trivial⟩ hF
      show some (Value.int (nI (10 ^ j) / nI 10)) = some (Value.int (nI (10 ^ j / 10)))
      rw [pk_div (by omega) (by omega) (by omega)]
/-- how many digits -/
def dgs (w : Nat) : Nat := if w < 10 then 1 else if w < 100 then 2 else if w < 1000 then 3 else 4
theorem l_M_putUp (hg : GO g) {w : Nat} (hw : w < 10000) {Fi : Ou → Mm → Prop} : ∀ (k j : Nat) (x : List (Nat × Value)), j + k = dgs w → 1 ≤ j → chk [(0, .ref a), (1, .int (nI w)), (2, .int (nI (10 ^ j / 10)))] x → V g m_M_putNumber 1 21 0 0 18 [(0, .ref a), (1, .int (nI w)), (2, .int (nI (10 ^ dgs w / 10)))] [] m Fi → V g m_M_putNumber 1 21 0 0 2 x [] m Fi := by
  have hd4 : dgs w ≤ 4 := by unfold dgs; split; omega; split; omega; split <;> omega
  have hcmp : ∀ j, 1 ≤ j → j ≤ dgs w → (10 ^ j / 10 ≤ w / 10 ↔ j < dgs w) := by
    intro j h1 h2
    have hjj : j = 1 ∨ j = 2 ∨ j = 3 ∨ j = 4 := by omega
    unfold dgs at h2 ⊢
    rcases hjj with rfl | rfl | rfl | rfl <;> (split at h2 <;> (try split at h2) <;> (try split at h2) <;> (split <;> (try split) <;> (try split)) <;> omega)
  intro k
  induction k with
  | zero =>
    intro j x hj h1 hx hV
    have hj' : j = dgs w := by omega
    refine V_lo _ hx ?_
    refine V_iload_n d_M_putNumber_2 rfl rfl ?_
    refine V_iload_n d_M_putNumber_3 rfl rfl ?_
    refine V_bipush (v := 10) d_M_putNumber_4 (by decide) ?_
    refine V_idiv d_M_putNumber_6 (by decide) ?_
    refine ek_v (P := fun z => V g m_M_putNumber 1 21 0 0 _ _ z _ _) (show _ = [Value.int (nI (w / 10)), .int (nI (10 ^ j / 10))] by rw [← pk_div (a := w) (d := 10) (by omega) (by omega) (by omega)]; rfl) ?_
    have hb : 10 ^ j / 10 < 2 ^ 31 := by
      have hjj : j = 1 ∨ j = 2 ∨ j = 3 ∨ j = 4 := by omega
      rcases hjj with rfl | rfl | rfl | rfl <;> decide
    refine V_icmp_gt (tgt := 18) d_M_putNumber_7 (by decide) (fun h_7 => ?_) (fun h_7 => ?_)
    · rw [← hj'] at hV
      exact hV
    · have q := (hcmp j h1 (by omega)).mp (Nat.not_lt.mp (fun z => h_7 ((nI_ltI (by omega) hb).mpr z)))
      omega
  | succ k ih =>
    intro j x hj h1 hx hV
    have hjj : j = 1 ∨ j = 2 ∨ j = 3 := by omega
    have hb : 10 ^ j / 10 < 100000 := by rcases hjj with rfl | rfl | rfl <;> decide
    have q := (hcmp j h1 (by omega)).mpr (by omega)
    refine V_lo _ hx ?_
    refine V_iload_n d_M_putNumber_2 rfl rfl ?_
    refine V_iload_n d_M_putNumber_3 rfl rfl ?_
    refine V_bipush (v := 10) d_M_putNumber_4 (by decide) ?_
    refine V_idiv d_M_putNumber_6 (by decide) ?_
    refine ek_v (P := fun z => V g m_M_putNumber 1 21 0 0 _ _ z _ _) (show _ = [Value.int (nI (w / 10)), .int (nI (10 ^ j / 10))] by rw [← pk_div (a := w) (d := 10) (by omega) (by omega) (by omega)]; rfl) ?_
    refine V_icmp_gt (tgt := 18) d_M_putNumber_7 (by decide) (fun h_7 => ?_) (fun h_7 => ?_)
    · have := (nI_ltI (by omega) (by omega)).mp h_7
      omega
    · refine V_iload_n d_M_putNumber_10 rfl rfl ?_
      refine V_bipush (v := 10) d_M_putNumber_11 (by decide) ?_
      refine V_imul d_M_putNumber_13 ?_
      refine V_istore_n d_M_putNumber_14 rfl rfl ?_
      refine V_goto (tgt := 2) d_M_putNumber_15 (by decide) ?_
      refine ih (j + 1) _ (by omega) (by omega) ⟨rfl, rfl, ?_, trivial⟩ hV
      show some (Value.int (nI (10 ^ j / 10) * nI 10)) = some (Value.int (nI (10 ^ (j + 1) / 10)))
      rw [nI_mulC]
      rcases hjj with rfl | rfl | rfl <;> rfl
/-- the class prints the same digits -/
theorem num_eq {w : Nat} (hw : w < 10000) (s : Sq) : apNum 37 s (nI w) 1 = dnF w (dgs w) (10 ^ dgs w / 10) s := by
  have a4 : ∀ (t : Sq) (P : Nat) (D : Int32), 0 < P → P ≤ 1000 → (1 : Int32) < D → anS 37 (nI w) 1 t (nI P) D = if P ≤ w then apN 37 t (48 + nI (w / P % 10)) else t := by
    intro t P D h0 h1 hD
    unfold anS
    rw [dn_dg hw h0 h1]
    by_cases e : P ≤ w
    · rw [if_pos e, if_pos (Or.inl ((nI_leI (by omega) (by omega)).mpr e))]
    · rw [if_neg e, if_neg (fun z => z.elim (fun q => e ((nI_leI (by omega) (by omega)).mp q)) (fun q => q hD))]
  have a1 : ∀ t : Sq, anS 37 (nI w) 1 t (nI 1) 1 = apN 37 t (48 + nI (w / 1 % 10)) := by
    intro t
    unfold anS
    rw [dn_dg hw (by omega) (by omega), if_pos (Or.inr (by decide))]
  show anS 37 (nI w) 1 (anS 37 (nI w) 1 (anS 37 (nI w) 1 (anS 37 (nI w) 1 s (nI 1000) 4) (nI 100) 3) (nI 10) 2) (nI 1) 1 = _
  rw [a4 _ 1000 4 (by omega) (by omega) (by decide), a4 _ 100 3 (by omega) (by omega) (by decide), a4 _ 10 2 (by omega) (by omega) (by decide), a1]
  unfold dgs
  by_cases h1 : w < 10
  · rw [if_pos h1, if_neg (show ¬ 1000 ≤ w by omega), if_neg (show ¬ 100 ≤ w by omega), if_neg (show ¬ 10 ≤ w by omega)]
    rfl
  · by_cases h2 : w < 100
    · rw [if_neg h1, if_pos h2, if_neg (show ¬ 1000 ≤ w by omega), if_neg (show ¬ 100 ≤ w by omega), if_pos (show 10 ≤ w by omega)]
      rfl
    · by_cases h3 : w < 1000
      · rw [if_neg h1, if_neg h2, if_pos h3, if_neg (show ¬ 1000 ≤ w by omega), if_pos (show 100 ≤ w by omega), if_pos (show 10 ≤ w by omega)]
        rfl
      · rw [if_neg h1, if_neg h2, if_neg h3, if_pos (show 1000 ≤ w by omega), if_pos (show 100 ≤ w by omega), if_pos (show 10 ≤ w by omega)]
        rfl
theorem num4_eq {w : Nat} (hw : w < 10000) (s : Sq) : apNum 37 s (nI w) 4 = dnF w 4 1000 s := by
  have a4 : ∀ (t : Sq) (P : Nat) (D : Int32), 0 < P → P ≤ 1000 → ¬ (4 : Int32) < D → anS 37 (nI w) 4 t (nI P) D = apN 37 t (48 + nI (w / P % 10)) := by
    intro t P D h0 h1 hD
    unfold anS
    rw [dn_dg hw h0 h1, if_pos (Or.inr hD)]
  show anS 37 (nI w) 4 (anS 37 (nI w) 4 (anS 37 (nI w) 4 (anS 37 (nI w) 4 s (nI 1000) 4) (nI 100) 3) (nI 10) 2) (nI 1) 1 = _
  rw [a4 _ 1000 4 (by omega) (by omega) (by decide), a4 _ 100 3 (by omega) (by omega) (by decide), a4 _ 10 2 (by omega) (by omega) (by decide), a4 _ 1 1 (by omega) (by omega) (by decide)]
  rfl
theorem dgs_le {w : Nat} : dgs w ≤ 4 := by unfold dgs; split; omega; split; omega; split <;> omega
theorem c_M_putNumber (hg : GO g) {F : Fw} {s : Sq} {w : Nat} (hM : Md g m0 m a B (upd sc 31 (nI s.2)) (stA ar 32 F)) (hP : PRl F s) (hw : w < 10000) (hs : s.2 + dgs w ≤ 37) : CT g m_M_putNumber 1 21 0 0 [.ref a, .int (nI w)] m (Pp g m0 a B sc ar (apNum 37 s (nI w) 1)) := by
  rw [num_eq hw]
  have h1 : 1 ≤ dgs w := by unfold dgs; split; omega; split; omega; split <;> omega
  refine CT_go (lo := [(0, .ref a), (1, .int (nI w))]) rfl rfl rfl rfl hg ?_
  refine V_iconst (v := 1) d_M_putNumber_0 (by decide) ?_
  refine V_istore_n d_M_putNumber_1 rfl rfl ?_
  refine l_M_putUp hg hw (dgs w - 1) 1 _ (by omega) (by omega) ⟨rfl, rfl, rfl, trivial⟩ ?_
  exact l_M_putD hg hw (dgs w) s F m _ dgs_le hs hM hP ⟨rfl, rfl, rfl, trivial⟩ (fun _ z => z)
theorem dn_len {w : Nat} : ∀ (j P : Nat) (s : Sq), (dnF w j P s).2 ≤ s.2 + j
  | 0, _, _ => Nat.le_refl _
  | j + 1, P, s => by
    have := dn_len (w := w) j (P / 10) (apN 37 s (48 + nI (w / P % 10)))
    have hl := apN_len (n := 37) (s := s) (c := 48 + nI (w / P % 10))
    rw [dnF]
    omega
theorem dn_nn {w : Nat} : ∀ (j P : Nat) (s : Sq), NNs s → NNs (dnF w j P s)
  | 0, _, _, h => h
  | j + 1, P, s, h => by
    rw [dnF]
    refine dn_nn j _ _ (NN_ap h ?_)
    show ¬ nI 48 + nI (w / P % 10) < 0
    rw [nI_add]
    exact nI_pos (by omega)
theorem ad_len {set : Int32} : ∀ (j k : Nat) (s : Sq), (adF 37 set j k s).2 ≤ s.2 + j
  | 0, _, _ => Nat.le_refl _
  | j + 1, k, s => by
    have := ad_len (set := set) j (k + 1) (if hasD set (nI k) = true then apN 37 s (48 + nI k) else s)
    have hl := apN_len (n := 37) (s := s) (c := 48 + nI k)
    rw [adF]
    split at this
    · rename_i h; rw [if_pos h]; omega
    · rename_i h; rw [if_neg h]; omega
theorem ad_nn {set : Int32} : ∀ (j k : Nat) (s : Sq), j + k ≤ 10 → NNs s → NNs (adF 37 set j k s)
  | 0, _, _, _, h => h
  | j + 1, k, s, hk, h => by
    rw [adF]
    refine ad_nn j _ _ (by omega) ?_
    split
    · refine NN_ap h ?_
      show ¬ nI 48 + nI k < 0
      rw [nI_add]
      exact nI_pos (by omega)
    · exact h
end M8
