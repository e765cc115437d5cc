/-! the reference reads: the place and the first wrong one -/
abbrev PSt : Type := Nat × Option Nat
def mw : Option Nat → Int32
  | none => -1
  | some w => nI w
def scP (sc : Fw) (s : PSt) : Fw := upd (upd sc 20 (nI s.1)) 21 (mw s.2)
theorem scP_at {sc : Fw} {s : PSt} {p : Nat} : upd (scP sc s) 20 (nI p) = scP sc (p, s.2) := by
  funext j
  unfold scP upd
  by_cases h : j = 20
  · rw [if_pos h, if_neg (by omega), if_pos h]
  · rw [if_neg h]
    by_cases h2 : j = 21
    · rw [if_pos h2, if_pos h2]
    · rw [if_neg h2, if_neg h2, if_neg h, if_neg h]
theorem scP_wr {sc : Fw} {s : PSt} {w : Nat} : upd (scP sc s) 21 (nI w) = scP sc (s.1, some w) := by
  funext j
  unfold scP upd
  by_cases h2 : j = 21
  · rw [if_pos h2, if_pos h2]; rfl
  · rw [if_neg h2, if_neg h2, if_neg h2]
def flF (s : PSt) (p : Nat) : PSt := match s.2 with
  | none => (s.1, some p)
  | some _ => s
def tkF (tx : Sq) (c : Int32) (s : PSt) : PSt := match s.2 with
  | none => if hr tx s.1 = c then (s.1 + 1, none) else (s.1, some s.1)
  | some _ => s
def vlE (d : Nat) (least most : Int32) (fr : Nat) (v : Int32) (n p : Nat) : Int32 × PSt := if n = 0 ∨ n < d then (-1, (p, some p)) else if v < least ∨ most < v then (-1, (p, some fr)) else (v, (p, none))
def vlF (tx : Sq) (d : Nat) (least most : Int32) (fr : Nat) : Nat → Int32 → Nat → Nat → Int32 × PSt
  | 0, v, n, p => vlE d least most fr v n p
  | k + 1, v, n, p => if dg (hr tx p) = true ∧ (d = 0 ∨ n < d) then (if d = 0 ∧ n = 1 ∧ v = 0 then (-1, (p, some (if least ≤ 0 then p else fr))) else vlF tx d least most fr k (if 100000 ≤ v then v else 10 * v + hr tx p - 48) (n + 1) (p + 1)) else vlE d least most fr v n p
def vl (tx : Sq) (d : Nat) (least most : Int32) (s : PSt) : Int32 × PSt := match s.2 with
  | none => vlF tx d least most s.1 501 0 0 s.1
  | some _ => (-1, s)
def dsF (tx : Sq) : Nat → Int32 → Int32 → Nat → Nat → Int32 × Nat × Nat
  | 0, set, _, n, p => (set, n, p)
  | k + 1, set, last, n, p => if dg (hr tx p) = true ∧ ¬ hr tx p ≤ last then dsF tx k (set ||| (1 <<< ((hr tx p - 48) &&& 31))) (hr tx p) (n + 1) (p + 1) else (set, n, p)
def dsE (q : Bool) (r : Int32 × Nat × Nat) : Int32 × PSt := if q = true ∧ r.2.1 = 0 then (r.1, (r.2.2, some r.2.2)) else (r.1, (r.2.2, none))
def ds (tx : Sq) (q : Bool) (s : PSt) : Int32 × PSt := match s.2 with
  | none => dsE q (dsF tx 501 0 48 0 s.1)
  | some _ => (0, s)
/-- the places stay small -/
def sOk (s : PSt) : Prop := s.1 ≤ 500 ∧ ∀ w, s.2 = some w → w ≤ 500
section M2
variable {g : GG} {m0 m : Mm} {a : Nat} {B : Nat → Nat} {sc : Fw} {ar : Ar} {tx : Sq} {s : PSt}
theorem c_M_here (hg : GO g) (hM : Md g m0 m a B (scP sc s) ar) (hT : RQ (sc 2) (ar 1) tx 500) (hs : s.1 ≤ 500) : CT g m_M_here 0 0 0 0 [.ref a] m (Re (some (.int (hr tx s.1))) m) := by
  obtain ⟨t1, t2, t3⟩ := hT
  refine CT_go (lo := [(0, .ref a)]) rfl rfl rfl rfl hg ?_
  first | refine V_aload_n d_M_here_0 rfl rfl ?_ | refine V_aloadN_n d_M_here_0 rfl rfl ?_
  refine Vget fl_M_71 d_M_here_1 hM.1 rfl ?_
  first | refine V_aload_n d_M_here_4 rfl rfl ?_ | refine V_aloadN_n d_M_here_4 rfl rfl ?_
  refine Vget fl_M_17 d_M_here_5 hM.1 rfl ?_
  refine V_icmp_ge (tgt := 23) d_M_here_8 (by decide) (fun h_8 => ?_) (fun h_8 => ?_)
  · have h8 : sc 2 ≤ nI s.1 := h_8
    rw [t1] at h8
    have h9 : ¬ s.1 < tx.2 := fun z => nI_ge z (by omega) h8
    refine V_iconst (v := -1) d_M_here_23 (by decide) ?_
    exact V_iret d_M_here_24 rfl rfl ⟨by rw [hr, if_neg h9], rfl⟩
  · have h8 : ¬ sc 2 ≤ nI s.1 := h_8
    rw [t1] at h8
    have h9 : s.1 < tx.2 := Nat.not_le.mp (fun z => h8 (nI_le z (by omega)))
    have hin : vp_in (nI s.1) 500 := vp_nI (by omega) (by omega)
    first | refine V_aload_n d_M_here_11 rfl rfl ?_ | refine V_aloadN_n d_M_here_11 rfl rfl ?_
    refine Vget fl_M_13 d_M_here_12 hM.1 rfl ?_
    first | refine V_aload_n d_M_here_15 rfl rfl ?_ | refine V_aloadN_n d_M_here_15 rfl rfl ?_
    refine Vget fl_M_71 d_M_here_16 hM.1 rfl ?_
    refine Miald d_M_here_19 hM (by decide) (by exact hin) ?_
    refine V_goto (tgt := 24) d_M_here_20 (by decide) ?_
    rw [show (scP sc s 20).toNatClampNeg = s.1 from nI_clamp (by omega), t3 _ h9]
    exact V_iret d_M_here_24 rfl rfl ⟨by rw [hr, if_pos h9], rfl⟩
theorem c_M_fail (hg : GO g) (hM : Md g m0 m a B (scP sc s) ar) (hs : sOk s) (p : Nat) : CT g m_M_fail 0 0 0 0 [.ref a, .int (nI p)] m (Pm g m0 a B none (scP sc (flF s p)) ar) := by
  refine CT_go (lo := [(0, .ref a), (1, .int (nI p))]) rfl rfl rfl rfl hg ?_
  obtain ⟨p0, o⟩ := s
  cases o with
  | none =>
    first | refine V_aload_n d_M_fail_0 rfl rfl ?_ | refine V_aloadN_n d_M_fail_0 rfl rfl ?_
    refine Vget fl_M_74 d_M_fail_1 hM.1 rfl ?_
    refine V_if_ge (tgt := 12) d_M_fail_4 (by decide) (fun h_4 => ?_) (fun h_4 => ?_)
    · exact absurd h_4 (by show ¬ (0 : Int32) ≤ -1; decide)
    · first | refine V_aload_n d_M_fail_7 rfl rfl ?_ | refine V_aloadN_n d_M_fail_7 rfl rfl ?_
      refine V_iload_n d_M_fail_8 rfl rfl ?_
      refine Mput (k := 21) pl_M_74 d_M_fail_9 hM rfl rfl (fun m hM => ?_)
      rw [scP_wr] at hM
      exact V_vret d_M_fail_12 rfl ⟨rfl, hM⟩
  | some w =>
    have hw := hs.2 w rfl
    first | refine V_aload_n d_M_fail_0 rfl rfl ?_ | refine V_aloadN_n d_M_fail_0 rfl rfl ?_
    refine Vget fl_M_74 d_M_fail_1 hM.1 rfl ?_
    refine V_if_ge (tgt := 12) d_M_fail_4 (by decide) (fun h_4 => ?_) (fun h_4 => ?_)
    · exact V_vret d_M_fail_12 rfl ⟨rfl, hM⟩
    · exact absurd (show (0 : Int32) ≤ nI w by rw [Int32.le_iff_toInt_le, nI_toInt (by omega), Int32.toInt_zero]; omega) h_4
theorem c_M_take (hg : GO g) (hM : Md g m0 m a B (scP sc s) ar) (hT : RQ (sc 2) (ar 1) tx 500) (hs : sOk s) (c : Int32) : CT g m_M_take 1 21 0 0 [.ref a, .int c] m (Pm g m0 a B none (scP sc (tkF tx c s)) ar) := by
  refine CT_go (lo := [(0, .ref a), (1, .int c)]) rfl rfl rfl rfl hg ?_
  obtain ⟨p0, o⟩ := s
  cases o with
  | none =>
    first | refine V_aload_n d_M_take_0 rfl rfl ?_ | refine V_aloadN_n d_M_take_0 rfl rfl ?_
    refine Vget fl_M_74 d_M_take_1 hM.1 rfl ?_
    refine V_if_lt (tgt := 8) d_M_take_4 (by decide) (fun h_4 => ?_) (fun h_4 => ?_)
    · first | refine V_aload_n d_M_take_8 rfl rfl ?_ | refine V_aloadN_n d_M_take_8 rfl rfl ?_
      refine VcallV cb_M_here mv_M_116 rfl (ci := 6) rfl rfl d_M_take_9 (c_M_here hg hM hT hs.1) ⟨by decide, by decide⟩ rfl hM.1 rfl (Nat.le_of_ble_eq_true rfl) (fun _ _ h => nomatch h.1) (fun v m2 hR => ?_)
      obtain ⟨hv9, e9⟩ := hR
      cases hv9
      subst m2
      refine V_iload_n d_M_take_12 rfl rfl ?_
      refine V_icmp_ne (tgt := 29) d_M_take_13 (by decide) (fun h_13 => ?_) (fun h_13 => ?_)
      · have h13 : ¬ hr tx p0 = c := h_13
        first | refine V_aload_n d_M_take_29 rfl rfl ?_ | refine V_aloadN_n d_M_take_29 rfl rfl ?_
        first | refine V_aload_n d_M_take_30 rfl rfl ?_ | refine V_aloadN_n d_M_take_30 rfl rfl ?_
        refine Vget fl_M_71 d_M_take_31 hM.1 rfl ?_
        refine ek_v (P := fun z => V g m_M_take 1 21 0 0 _ _ z _ _) (show _ = [Value.int (nI p0), .ref a] from rfl) ?_
        refine VcallV cb_M_fail mv_M_120 rfl (ci := 6) rfl rfl d_M_take_34 (c_M_fail hg hM hs p0) ⟨by decide, by decide⟩ rfl hM.1 rfl (Nat.le_of_ble_eq_true rfl) (fun _ _ h => nomatch h.1) (fun v m2 hR => ?_)
        obtain ⟨hv9, hM⟩ := hR
        cases hv9
        refine V_vret d_M_take_37 rfl ⟨rfl, ?_⟩
        rw [tkF, if_neg h13]
        exact hM
      · have h13 : hr tx p0 = c := h_13
        first | refine V_aload_n d_M_take_16 rfl rfl ?_ | refine V_aloadN_n d_M_take_16 rfl rfl ?_
        refine V_dup d_M_take_17 rfl ?_
        refine Vget fl_M_71 d_M_take_18 hM.1 rfl ?_
        refine V_iconst (v := 1) d_M_take_21 (by decide) ?_
        refine V_iadd d_M_take_22 ?_
        refine ek_v (P := fun z => V g m_M_take 1 21 0 0 _ _ z _ _) (show _ = [Value.int (nI (p0 + 1)), .ref a] by rw [← nI_1]; rfl) ?_
        refine Mput (k := 20) pl_M_71 d_M_take_23 hM rfl rfl (fun m hM => ?_)
        refine V_goto (tgt := 37) d_M_take_26 (by decide) ?_
        rw [scP_at] at hM
        refine V_vret d_M_take_37 rfl ⟨rfl, ?_⟩
        rw [tkF, if_pos h13]
        exact hM
    · exact absurd (show (-1 : Int32) < 0 by decide) h_4
  | some w =>
    have hw := hs.2 w rfl
    first | refine V_aload_n d_M_take_0 rfl rfl ?_ | refine V_aloadN_n d_M_take_0 rfl rfl ?_
    refine Vget fl_M_74 d_M_take_1 hM.1 rfl ?_
    refine V_if_lt (tgt := 8) d_M_take_4 (by decide) (fun h_4 => ?_) (fun h_4 => ?_)
    · exact absurd h_4 (show ¬ nI w < 0 from nI_pos (by omega))
    · exact V_vret d_M_take_7 rfl ⟨rfl, hM⟩
set_option maxRecDepth 20000 in
theorem l_M_value (hg : GO g) (hT : RQ (sc 2) (ar 1) tx 500) {d fr : Nat} (hd : d < 10) (hfr : fr ≤ 500) (least most : Int32) {Fi : Ou → Mm → Prop} : ∀ (k : Nat) (v : Int32) (n p : Nat) (m : Mm) (x : List (Nat × Value)), 501 ≤ k + p → p ≤ 500 → n ≤ p → Md g m0 m a B (scP sc (p, none)) ar → chk [(0, .ref a), (1, .int (nI d)), (2, .int least), (3, .int most), (4, .int (nI fr)), (5, .int v), (6, .int (nI n))] x → (∀ m', Md g m0 m' a B (scP sc (vlF tx d least most fr k v n p).2) ar → Fi (oI (vlF tx d least most fr k v n p).1) m') → V g m_M_value 1 21 0 0 21 x [] m Fi := by
  have d0 : ∀ {y : Nat}, y < 1000 → (nI y = 0 ↔ y = 0) := fun h => nI_eq (b := 0) (by omega) (by omega)
  have d1 : ∀ {y : Nat}, y < 1000 → (nI y = 1 ↔ y = 1) := fun h => nI_eq (b := 1) (by omega) (by omega)
  -- the end
  have fin : ∀ (v : Int32) (n p : Nat) (m : Mm) (x : List (Nat × Value)), p ≤ 500 → n ≤ p → Md g m0 m a B (scP sc (p, none)) ar → chk [(0, .ref a), (1, .int (nI d)), (2, .int least), (3, .int most), (4, .int (nI fr)), (5, .int v), (6, .int (nI n))] x → (∀ m', Md g m0 m' a B (scP sc (vlE d least most fr v n p).2) ar → Fi (oI (vlE d least most fr v n p).1) m') → V g m_M_value 1 21 0 0 113 x [] m Fi := by
    intro v n p m x hp hnp hM hx hF
    have hs : sOk (p, none) := ⟨hp, fun _ z => nomatch z⟩
    unfold vlE at hF
    -- wrong at w
    have bad : ∀ (m : Mm) (x : List (Nat × Value)) (w : Nat), w ≤ 500 → Md g m0 m a B (scP sc (p, some w)) ar → chk [(0, .ref a), (5, .int v)] x → (∀ m', Md g m0 m' a B (scP sc (p, some w)) ar → Fi (oI (-1)) m') → V g m_M_value 1 21 0 0 153 x [] m Fi := by
      intro m x w hw hM hx hF
      refine V_lo _ hx ?_
      first | refine V_aload_n d_M_value_153 rfl rfl ?_ | refine V_aloadN_n d_M_value_153 rfl rfl ?_
      refine Vget fl_M_74 d_M_value_154 hM.1 rfl ?_
      refine V_if_lt (tgt := 164) d_M_value_157 (by decide) (fun h_157 => ?_) (fun h_157 => ?_)
      · exact absurd h_157 (show ¬ nI w < 0 from nI_pos (by omega))
      · refine V_iconst (v := -1) d_M_value_160 (by decide) ?_
        refine V_goto (tgt := 166) d_M_value_161 (by decide) ?_
        exact V_iret d_M_value_166 rfl rfl (hF m hM)
    have b1 : n = 0 ∨ n < d → V g m_M_value 1 21 0 0 124 [(0, .ref a), (1, .int (nI d)), (2, .int least), (3, .int most), (4, .int (nI fr)), (5, .int v), (6, .int (nI n))] [] m Fi := by
      intro q
      rw [if_pos q] at hF
      first | refine V_aload_n d_M_value_124 rfl rfl ?_ | refine V_aloadN_n d_M_value_124 rfl rfl ?_
      first | refine V_aload_n d_M_value_125 rfl rfl ?_ | refine V_aloadN_n d_M_value_125 rfl rfl ?_
      refine Vget fl_M_71 d_M_value_126 hM.1 rfl ?_
      refine ek_v (P := fun z => V g m_M_value 1 21 0 0 _ _ z _ _) (show _ = [Value.int (nI p), .ref a] from rfl) ?_
      refine VcallV cb_M_fail mv_M_120 rfl (ci := 6) rfl rfl d_M_value_129 (c_M_fail hg hM hs p) ⟨by decide, by decide⟩ rfl hM.1 rfl (Nat.le_of_ble_eq_true rfl) (fun _ _ h => nomatch h.1) (fun v m2 hR => ?_)
      obtain ⟨hv9, hM⟩ := hR
      cases hv9
      refine V_goto (tgt := 153) d_M_value_132 (by decide) ?_
      exact bad _ _ p hp hM ⟨rfl, rfl, trivial⟩ hF
    refine V_lo _ hx ?_
    refine V_iload d_M_value_113 rfl ?_
    refine V_if_eq (tgt := 124) d_M_value_115 (by decide) (fun h_115 => ?_) (fun h_115 => ?_)
    · exact b1 (Or.inl ((d0 (by omega)).mp h_115))
    · have n0 : ¬ n = 0 := fun z => h_115 ((d0 (by omega)).mpr z)
      refine V_iload d_M_value_118 rfl ?_
      refine V_iload_n d_M_value_120 rfl rfl ?_
      refine V_icmp_ge (tgt := 135) d_M_value_121 (by decide) (fun h_121 => ?_) (fun h_121 => ?_)
      · have nd : ¬ n < d := fun z => nI_ge z (by omega) h_121
        rw [if_neg (fun z => z.elim n0 nd)] at hF
        have b2 : v < least ∨ most < v → V g m_M_value 1 21 0 0 147 [(0, .ref a), (1, .int (nI d)), (2, .int least), (3, .int most), (4, .int (nI fr)), (5, .int v), (6, .int (nI n))] [] m Fi := by
          intro q
          rw [if_pos q] at hF
          first | refine V_aload_n d_M_value_147 rfl rfl ?_ | refine V_aloadN_n d_M_value_147 rfl rfl ?_
          refine V_iload d_M_value_148 rfl ?_
          refine VcallV cb_M_fail mv_M_120 rfl (ci := 6) rfl rfl d_M_value_150 (c_M_fail hg hM hs fr) ⟨by decide, by decide⟩ rfl hM.1 rfl (Nat.le_of_ble_eq_true rfl) (fun _ _ h => nomatch h.1) (fun v m2 hR => ?_)
          obtain ⟨hv9, hM⟩ := hR
          cases hv9
          exact bad _ _ fr hfr hM ⟨rfl, rfl, trivial⟩ hF
        refine V_iload d_M_value_135 rfl ?_
        refine V_iload_n d_M_value_137 rfl rfl ?_
        refine V_icmp_lt (tgt := 147) d_M_value_138 (by decide) (fun h_138 => ?_) (fun h_138 => ?_)
        · exact b2 (Or.inl h_138)
        · refine V_iload d_M_value_141 rfl ?_
          refine V_iload_n d_M_value_143 rfl rfl ?_
          refine V_icmp_le (tgt := 153) d_M_value_144 (by decide) (fun h_144 => ?_) (fun h_144 => ?_)
          · rw [if_neg (fun z => z.elim h_138 (i_le_lt h_144))] at hF
            first | refine V_aload_n d_M_value_153 rfl rfl ?_ | refine V_aloadN_n d_M_value_153 rfl rfl ?_
            refine Vget fl_M_74 d_M_value_154 hM.1 rfl ?_
            refine V_if_lt (tgt := 164) d_M_value_157 (by decide) (fun h_157 => ?_) (fun h_157 => ?_)
            · refine V_iload d_M_value_164 rfl ?_
              exact V_iret d_M_value_166 rfl rfl (hF m hM)
            · exact absurd (show (-1 : Int32) < 0 by decide) h_157
          · exact b2 (Or.inr (i_nle h_144))
      · exact b1 (Or.inr (Nat.not_le.mp (fun z => h_121 (nI_le z (by omega)))))
  intro k
  induction k with
  | zero =>
    intro v n p m x hk hp hnp hM hx hF
    omega
  | succ k ih =>
    intro v n p m x hk hp hnp hM hx hF
    have hs : sOk (p, none) := ⟨hp, fun _ z => nomatch z⟩
    have hT2 := hT.2.1
    rw [vlF] at hF
    have out : ¬ (dg (hr tx p) = true ∧ (d = 0 ∨ n < d)) → V g m_M_value 1 21 0 0 113 [(0, .ref a), (1, .int (nI d)), (2, .int least), (3, .int most), (4, .int (nI fr)), (5, .int v), (6, .int (nI n))] [] m Fi := by
      intro q
      rw [if_neg q] at hF
      exact fin v n p m _ hp hnp hM ⟨rfl, rfl, rfl, rfl, rfl, rfl, rfl, trivial⟩ hF
    -- a digit is taken
    have go : dg (hr tx p) = true ∧ (d = 0 ∨ n < d) → ¬ (d = 0 ∧ n = 1 ∧ v = 0) → V g m_M_value 1 21 0 0 75 [(0, .ref a), (1, .int (nI d)), (2, .int least), (3, .int most), (4, .int (nI fr)), (5, .int v), (6, .int (nI n))] [] m Fi := by
      intro q1 q2
      rw [if_pos q1, if_neg q2] at hF
      have hlt := dg_lt q1.1
      have nxt : ∀ (v' : Int32) (x : List (Nat × Value)), v' = (if 100000 ≤ v then v else 10 * v + hr tx p - 48) → chk [(0, .ref a), (1, .int (nI d)), (2, .int least), (3, .int most), (4, .int (nI fr)), (5, .int v'), (6, .int (nI n))] x → V g m_M_value 1 21 0 0 97 x [] m Fi := by
        intro v' x hv hx
        refine V_lo _ hx ?_
        refine V_iinc d_M_value_97 rfl (nI_inc _) rfl ?_
        first | refine V_aload_n d_M_value_100 rfl rfl ?_ | refine V_aloadN_n d_M_value_100 rfl rfl ?_
        refine V_dup d_M_value_101 rfl ?_
        refine Vget fl_M_71 d_M_value_102 hM.1 rfl ?_
        refine V_iconst (v := 1) d_M_value_105 (by decide) ?_
        refine V_iadd d_M_value_106 ?_
        refine ek_v (P := fun z => V g m_M_value 1 21 0 0 _ _ z _ _) (show _ = [Value.int (nI (p + 1)), .ref a] by rw [← nI_1]; rfl) ?_
        refine Mput (k := 20) pl_M_71 d_M_value_107 hM rfl rfl (fun m hM => ?_)
        rw [scP_at] at hM
        refine V_goto (tgt := 21) d_M_value_110 (by decide) ?_
        refine ih v' (n + 1) (p + 1) m _ (by omega) (by omega) (by omega) hM ⟨rfl, rfl, rfl, rfl, rfl, rfl, rfl, trivial⟩ ?_
        rw [hv]
        exact hF
      refine V_iload d_M_value_75 rfl ?_
      refine V_ldc ld_M_128 d_M_value_77 ?_
      refine V_icmp_ge (tgt := 97) d_M_value_79 (by decide) (fun h_79 => ?_) (fun h_79 => ?_)
      · exact nxt v _ (by rw [if_pos h_79]) ⟨rfl, rfl, rfl, rfl, rfl, rfl, rfl, trivial⟩
      · refine V_bipush (v := 10) d_M_value_82 (by decide) ?_
        refine V_iload d_M_value_84 rfl ?_
        refine V_imul d_M_value_86 ?_
        first | refine V_aload_n d_M_value_87 rfl rfl ?_ | refine V_aloadN_n d_M_value_87 rfl rfl ?_
        refine VcallV cb_M_here mv_M_116 rfl (ci := 6) rfl rfl d_M_value_88 (c_M_here hg hM hT hp) ⟨by decide, by decide⟩ rfl hM.1 rfl (Nat.le_of_ble_eq_true rfl) (fun _ _ h => nomatch h.1) (fun v m2 hR => ?_)
        obtain ⟨hv9, e9⟩ := hR
        cases hv9
        subst m2
        refine V_iadd d_M_value_91 ?_
        refine V_bipush (v := 48) d_M_value_92 (by decide) ?_
        refine V_isub d_M_value_94 ?_
        refine V_istore d_M_value_95 rfl ?_
        exact nxt _ _ (by rw [if_neg h_79]) ⟨rfl, rfl, rfl, rfl, rfl, rfl, rfl, trivial⟩
    have mid : dg (hr tx p) = true ∧ (d = 0 ∨ n < d) → V g m_M_value 1 21 0 0 41 [(0, .ref a), (1, .int (nI d)), (2, .int least), (3, .int most), (4, .int (nI fr)), (5, .int v), (6, .int (nI n))] [] m Fi := by
      intro q1
      refine V_iload_n d_M_value_41 rfl rfl ?_
      refine V_if_ne (tgt := 75) d_M_value_42 (by decide) (fun h_42 => ?_) (fun h_42 => ?_)
      · exact go q1 (fun z => h_42 ((d0 (by omega)).mpr z.1))
      · refine V_iload d_M_value_45 rfl ?_
        refine V_iconst (v := 1) d_M_value_47 (by decide) ?_
        refine V_icmp_ne (tgt := 75) d_M_value_48 (by decide) (fun h_48 => ?_) (fun h_48 => ?_)
        · exact go q1 (fun z => h_48 ((d1 (by omega)).mpr z.2.1))
        · refine V_iload d_M_value_51 rfl ?_
          refine V_if_ne (tgt := 75) d_M_value_53 (by decide) (fun h_53 => ?_) (fun h_53 => ?_)
          · exact go q1 (fun z => h_53 z.2.2)
          · rw [if_pos q1, if_pos ⟨(d0 (by omega)).mp h_42, (d1 (by omega)).mp h_48, h_53⟩] at hF
            first | refine V_aload_n d_M_value_56 rfl rfl ?_ | refine V_aloadN_n d_M_value_56 rfl rfl ?_
            refine V_iload_n d_M_value_57 rfl rfl ?_
            refine V_if_le (tgt := 66) d_M_value_58 (by decide) (fun h_58 => ?_) (fun h_58 => ?_)
            · rw [if_pos h_58] at hF
              first | refine V_aload_n d_M_value_66 rfl rfl ?_ | refine V_aloadN_n d_M_value_66 rfl rfl ?_
              refine Vget fl_M_71 d_M_value_67 hM.1 rfl ?_
              refine ek_v (P := fun z => V g m_M_value 1 21 0 0 _ _ z _ _) (show _ = [Value.int (nI p), .ref a] from rfl) ?_
              refine VcallV cb_M_fail mv_M_120 rfl (ci := 6) rfl rfl d_M_value_70 (c_M_fail hg hM hs p) ⟨by decide, by decide⟩ rfl hM.1 rfl (Nat.le_of_ble_eq_true rfl) (fun _ _ h => nomatch h.1) (fun v m2 hR => ?_)
              obtain ⟨hv9, hM⟩ := hR
              cases hv9
              refine V_iconst (v := -1) d_M_value_73 (by decide) ?_
              exact V_iret d_M_value_74 rfl rfl (hF _ hM)
            · rw [if_neg h_58] at hF
              refine V_iload d_M_value_61 rfl ?_
              refine V_goto (tgt := 70) d_M_value_63 (by decide) ?_
              refine VcallV cb_M_fail mv_M_120 rfl (ci := 6) rfl rfl d_M_value_70 (c_M_fail hg hM hs fr) ⟨by decide, by decide⟩ rfl hM.1 rfl (Nat.le_of_ble_eq_true rfl) (fun _ _ h => nomatch h.1) (fun v m2 hR => ?_)
              obtain ⟨hv9, hM⟩ := hR
              cases hv9
              refine V_iconst (v := -1) d_M_value_73 (by decide) ?_
              exact V_iret d_M_value_74 rfl rfl (hF _ hM)
    refine V_lo _ hx ?_
    first | refine V_aload_n d_M_value_21 rfl rfl ?_ | refine V_aloadN_n d_M_value_21 rfl rfl ?_
    refine VcallV cb_M_here mv_M_116 rfl (ci := 6) rfl rfl d_M_value_22 (c_M_here hg hM hT hp) ⟨by decide, by decide⟩ rfl hM.1 rfl (Nat.le_of_ble_eq_true rfl) (fun _ _ h => nomatch h.1) (fun v m2 hR => ?_)
    obtain ⟨hv9, e9⟩ := hR
    cases hv9
    subst m2
    refine V_callS cb_M_digit ms_M_124 rfl rfl d_M_value_25 (c_M_digit hg _) ⟨by decide, by decide⟩ rfl rfl (Nat.le_of_ble_eq_true rfl) (fun _ _ h => nomatch h.1) (fun v m2 hR => ?_)
    obtain ⟨hv9, e9⟩ := hR
    cases hv9
    subst m2
    refine V_if_eq (tgt := 113) d_M_value_28 (by decide) (fun h_28 => ?_) (fun h_28 => ?_)
    · have e : dg (hr tx p) = false := bi_eq0.mp h_28
      exact out (fun z => by rw [e] at z; cases z.1)
    · have e : dg (hr tx p) = true := bi_ne0.mp h_28
      refine V_iload_n d_M_value_31 rfl rfl ?_
      refine V_if_eq (tgt := 41) d_M_value_32 (by decide) (fun h_32 => ?_) (fun h_32 => ?_)
      · exact mid ⟨e, Or.inl ((d0 (by omega)).mp h_32)⟩
      · refine V_iload d_M_value_35 rfl ?_
        refine V_iload_n d_M_value_37 rfl rfl ?_
        refine V_icmp_ge (tgt := 113) d_M_value_38 (by decide) (fun h_38 => ?_) (fun h_38 => ?_)
        · exact out (fun z => z.2.elim (fun q => h_32 ((d0 (by omega)).mpr q)) (fun q => nI_ge q (by omega) h_38))
        · exact mid ⟨e, Or.inr (Nat.not_le.mp (fun z => h_38 (nI_le z (by omega))))⟩
theorem c_M_value (hg : GO g) (hM : Md g m0 m a B (scP sc s) ar) (hT : RQ (sc 2) (ar 1) tx 500) (hs : sOk s) {d : Nat} (hd : d < 10) (least most : Int32) : CT g m_M_value 1 21 0 0 [.ref a, .int (nI d), .int least, .int most] m (Pm g m0 a B (some (.int (vl tx d least most s).1)) (scP sc (vl tx d least most s).2) ar) := by
  refine CT_go (lo := [(0, .ref a), (1, .int (nI d)), (2, .int least), (3, .int most)]) rfl rfl rfl rfl hg ?_
  obtain ⟨p0, o⟩ := s
  cases o with
  | none =>
    first | refine V_aload_n d_M_value_0 rfl rfl ?_ | refine V_aloadN_n d_M_value_0 rfl rfl ?_
    refine Vget fl_M_71 d_M_value_1 hM.1 rfl ?_
    refine V_istore d_M_value_4 rfl ?_
    refine V_iconst (v := 0) d_M_value_6 (by decide) ?_
    refine V_istore d_M_value_7 rfl ?_
    refine V_iconst (v := 0) d_M_value_9 (by decide) ?_
    refine V_istore d_M_value_10 rfl ?_
    first | refine V_aload_n d_M_value_12 rfl rfl ?_ | refine V_aloadN_n d_M_value_12 rfl rfl ?_
    refine Vget fl_M_74 d_M_value_13 hM.1 rfl ?_
    refine V_if_lt (tgt := 21) d_M_value_16 (by decide) (fun h_16 => ?_) (fun h_16 => ?_)
    · exact l_M_value hg hT hd hs.1 least most 501 0 0 p0 m _ (by omega) hs.1 (Nat.zero_le _) hM ⟨rfl, rfl, rfl, rfl, rfl, rfl, rfl, trivial⟩ (fun m' h => ⟨rfl, h⟩)
    · exact absurd (show (-1 : Int32) < 0 by decide) h_16
  | some w =>
    have hw := hs.2 w rfl
    first | refine V_aload_n d_M_value_0 rfl rfl ?_ | refine V_aloadN_n d_M_value_0 rfl rfl ?_
    refine Vget fl_M_71 d_M_value_1 hM.1 rfl ?_
    refine V_istore d_M_value_4 rfl ?_
    refine V_iconst (v := 0) d_M_value_6 (by decide) ?_
    refine V_istore d_M_value_7 rfl ?_
    refine V_iconst (v := 0) d_M_value_9 (by decide) ?_
    refine V_istore d_M_value_10 rfl ?_
    first | refine V_aload_n d_M_value_12 rfl rfl ?_ | refine V_aloadN_n d_M_value_12 rfl rfl ?_
    refine Vget fl_M_74 d_M_value_13 hM.1 rfl ?_
    refine V_if_lt (tgt := 21) d_M_value_16 (by decide) (fun h_16 => ?_) (fun h_16 => ?_)
    · exact absurd h_16 (show ¬ nI w < 0 from nI_pos (by omega))
    · refine V_iconst (v := -1) d_M_value_19 (by decide) ?_
      exact V_iret d_M_value_20 rfl rfl ⟨rfl, hM⟩
set_option maxRecDepth 20000 in
theorem l_M_digits (hg : GO g) (hT : RQ (sc 2) (ar 1) tx 500) (q : Bool) {Fi : Ou → Mm → Prop} : ∀ (k : Nat) (set last : Int32) (n p : Nat) (m : Mm) (x : List (Nat × Value)), 501 ≤ k + p → p ≤ 500 → n ≤ p → Md g m0 m a B (scP sc (p, none)) ar → chk [(0, .ref a), (1, .int (bi q)), (2, .int set), (3, .int last), (4, .int (nI n))] x → (∀ m', Md g m0 m' a B (scP sc (dsE q (dsF tx k set last n p)).2) ar → Fi (oI (dsE q (dsF tx k set last n p)).1) m') → V g m_M_digits 1 21 0 0 17 x [] m Fi := by
  intro k
  induction k with
  | zero =>
    intro set last n p m x hk hp hnp hM hx hF
    omega
  | succ k ih =>
    intro set last n p m x hk hp hnp hM hx hF
    have hs : sOk (p, none) := ⟨hp, fun _ z => nomatch z⟩
    have hT2 := hT.2.1
    rw [dsF] at hF
    have out : ¬ (dg (hr tx p) = true ∧ ¬ hr tx p ≤ last) → V g m_M_digits 1 21 0 0 65 [(0, .ref a), (1, .int (bi q)), (2, .int set), (3, .int last), (4, .int (nI n))] [] m Fi := by
      intro e
      rw [if_neg e] at hF
      unfold dsE at hF
      have ok : ¬ (q = true ∧ n = 0) → ∀ m : Mm, Md g m0 m a B (scP sc (p, none)) ar → V g m_M_digits 1 21 0 0 82 [(0, .ref a), (1, .int (bi q)), (2, .int set), (3, .int last), (4, .int (nI n))] [] m Fi := by
        intro e2 m hM
        rw [if_neg e2] at hF
        refine V_iload_n d_M_digits_82 rfl rfl ?_
        exact V_iret d_M_digits_83 rfl rfl (hF m hM)
      refine V_iload_n d_M_digits_65 rfl rfl ?_
      refine V_if_eq (tgt := 82) d_M_digits_66 (by decide) (fun h_66 => ?_) (fun h_66 => ?_)
      · exact ok (fun z => by rw [bi_eq0] at h_66; rw [h_66] at z; cases z.1) m hM
      · refine V_iload d_M_digits_69 rfl ?_
        refine V_if_ne (tgt := 82) d_M_digits_71 (by decide) (fun h_71 => ?_) (fun h_71 => ?_)
        · exact ok (fun z => h_71 (by rw [z.2]; rfl)) m hM
        · have n0 : n = 0 := (nI_eq (b := 0) (by omega) (by omega)).mp h_71
          rw [if_pos ⟨bi_ne0.mp h_66, n0⟩] at hF
          first | refine V_aload_n d_M_digits_74 rfl rfl ?_ | refine V_aloadN_n d_M_digits_74 rfl rfl ?_
          first | refine V_aload_n d_M_digits_75 rfl rfl ?_ | refine V_aloadN_n d_M_digits_75 rfl rfl ?_
          refine Vget fl_M_71 d_M_digits_76 hM.1 rfl ?_
          refine ek_v (P := fun z => V g m_M_digits 1 21 0 0 _ _ z _ _) (show _ = [Value.int (nI p), .ref a] from rfl) ?_
          refine VcallV cb_M_fail mv_M_120 rfl (ci := 6) rfl rfl d_M_digits_79 (c_M_fail hg hM hs p) ⟨by decide, by decide⟩ rfl hM.1 rfl (Nat.le_of_ble_eq_true rfl) (fun _ _ h => nomatch h.1) (fun v m2 hR => ?_)
          obtain ⟨hv9, hM⟩ := hR
          cases hv9
          refine V_iload_n d_M_digits_82 rfl rfl ?_
          exact V_iret d_M_digits_83 rfl rfl (hF _ hM)
    refine V_lo _ hx ?_
    first | refine V_aload_n d_M_digits_17 rfl rfl ?_ | refine V_aloadN_n d_M_digits_17 rfl rfl ?_
    refine VcallV cb_M_here mv_M_116 rfl (ci := 6) rfl rfl d_M_digits_18 (c_M_here hg hM hT hp) ⟨by decide, by decide⟩ rfl hM.1 rfl (Nat.le_of_ble_eq_true rfl) (fun _ _ h => nomatch h.1) (fun v m2 hR => ?_)
    obtain ⟨hv9, e9⟩ := hR
    cases hv9
    subst m2
    refine V_callS cb_M_digit ms_M_124 rfl rfl d_M_digits_21 (c_M_digit hg _) ⟨by decide, by decide⟩ rfl rfl (Nat.le_of_ble_eq_true rfl) (fun _ _ h => nomatch h.1) (fun v m2 hR => ?_)
    obtain ⟨hv9, e9⟩ := hR
    cases hv9
    subst m2
    refine V_if_eq (tgt := 65) d_M_digits_24 (by decide) (fun h_24 => ?_) (fun h_24 => ?_)
    · have e : dg (hr tx p) = false := bi_eq0.mp h_24
      exact out (fun z => by rw [e] at z; cases z.1)
    · have e : dg (hr tx p) = true := bi_ne0.mp h_24
      have hlt := dg_lt e
      first | refine V_aload_n d_M_digits_27 rfl rfl ?_ | refine V_aloadN_n d_M_digits_27 rfl rfl ?_
      refine VcallV cb_M_here mv_M_116 rfl (ci := 6) rfl rfl d_M_digits_28 (c_M_here hg hM hT hp) ⟨by decide, by decide⟩ rfl hM.1 rfl (Nat.le_of_ble_eq_true rfl) (fun _ _ h => nomatch h.1) (fun v m2 hR => ?_)
      obtain ⟨hv9, e9⟩ := hR
      cases hv9
      subst m2
      refine V_iload_n d_M_digits_31 rfl rfl ?_
      refine V_icmp_le (tgt := 65) d_M_digits_32 (by decide) (fun h_32 => ?_) (fun h_32 => ?_)
      · exact out (fun z => z.2 h_32)
      · rw [if_pos ⟨e, h_32⟩] at hF
        first | refine V_aload_n d_M_digits_35 rfl rfl ?_ | refine V_aloadN_n d_M_digits_35 rfl rfl ?_
        refine VcallV cb_M_here mv_M_116 rfl (ci := 6) rfl rfl d_M_digits_36 (c_M_here hg hM hT hp) ⟨by decide, by decide⟩ rfl hM.1 rfl (Nat.le_of_ble_eq_true rfl) (fun _ _ h => nomatch h.1) (fun v m2 hR => ?_)
        obtain ⟨hv9, e9⟩ := hR
        cases hv9
        subst m2
        refine V_istore_n d_M_digits_39 rfl rfl ?_
        refine V_iload_n d_M_digits_40 rfl rfl ?_
        refine V_iconst (v := 1) d_M_digits_41 (by decide) ?_
        refine V_iload_n d_M_digits_42 rfl rfl ?_
        refine V_bipush (v := 48) d_M_digits_43 (by decide) ?_
        refine V_isub d_M_digits_45 ?_
        refine V_ishl d_M_digits_46 ?_
        refine V_ior d_M_digits_47 ?_
        refine V_istore_n d_M_digits_48 rfl rfl ?_
        refine V_iinc d_M_digits_49 rfl (nI_inc _) rfl ?_
        first | refine V_aload_n d_M_digits_52 rfl rfl ?_ | refine V_aloadN_n d_M_digits_52 rfl rfl ?_
        refine V_dup d_M_digits_53 rfl ?_
        refine Vget fl_M_71 d_M_digits_54 hM.1 rfl ?_
        refine V_iconst (v := 1) d_M_digits_57 (by decide) ?_
        refine V_iadd d_M_digits_58 ?_
        refine ek_v (P := fun z => V g m_M_digits 1 21 0 0 _ _ z _ _) (show _ = [Value.int (nI (p + 1)), .ref a] by rw [← nI_1]; rfl) ?_
        refine Mput (k := 20) pl_M_71 d_M_digits_59 hM rfl rfl (fun m hM => ?_)
        rw [scP_at] at hM
        refine V_goto (tgt := 17) d_M_digits_62 (by decide) ?_
        exact ih _ _ (n + 1) (p + 1) m _ (by omega) (by omega) (by omega) hM ⟨rfl, rfl, rfl, rfl, rfl, trivial⟩ hF
theorem c_M_digits (hg : GO g) (hM : Md g m0 m a B (scP sc s) ar) (hT : RQ (sc 2) (ar 1) tx 500) (hs : sOk s) (q : Bool) : CT g m_M_digits 1 21 0 0 [.ref a, .int (bi q)] m (Pm g m0 a B (some (.int (ds tx q s).1)) (scP sc (ds tx q s).2) ar) := by
  refine CT_go (lo := [(0, .ref a), (1, .int (bi q))]) rfl rfl rfl rfl hg ?_
  obtain ⟨p0, o⟩ := s
  cases o with
  | none =>
    refine V_iconst (v := 0) d_M_digits_0 (by decide) ?_
    refine V_istore_n d_M_digits_1 rfl rfl ?_
    refine V_bipush (v := 48) d_M_digits_2 (by decide) ?_
    refine V_istore_n d_M_digits_4 rfl rfl ?_
    refine V_iconst (v := 0) d_M_digits_5 (by decide) ?_
    refine V_istore d_M_digits_6 rfl ?_
    first | refine V_aload_n d_M_digits_8 rfl rfl ?_ | refine V_aloadN_n d_M_digits_8 rfl rfl ?_
    refine Vget fl_M_74 d_M_digits_9 hM.1 rfl ?_
    refine V_if_lt (tgt := 17) d_M_digits_12 (by decide) (fun h_12 => ?_) (fun h_12 => ?_)
    · exact l_M_digits hg hT q 501 0 48 0 p0 m _ (by omega) hs.1 (Nat.zero_le _) hM ⟨rfl, rfl, rfl, rfl, rfl, trivial⟩ (fun m' h => ⟨rfl, h⟩)
    · exact absurd (show (-1 : Int32) < 0 by decide) h_12
  | some w =>
    have hw := hs.2 w rfl
    refine V_iconst (v := 0) d_M_digits_0 (by decide) ?_
    refine V_istore_n d_M_digits_1 rfl rfl ?_
    refine V_bipush (v := 48) d_M_digits_2 (by decide) ?_
    refine V_istore_n d_M_digits_4 rfl rfl ?_
    refine V_iconst (v := 0) d_M_digits_5 (by decide) ?_
    refine V_istore d_M_digits_6 rfl ?_
    first | refine V_aload_n d_M_digits_8 rfl rfl ?_ | refine V_aloadN_n d_M_digits_8 rfl rfl ?_
    refine Vget fl_M_74 d_M_digits_9 hM.1 rfl ?_
    refine V_if_lt (tgt := 17) d_M_digits_12 (by decide) (fun h_12 => ?_) (fun h_12 => ?_)
    · exact absurd h_12 (show ¬ nI w < 0 from nI_pos (by omega))
    · refine V_iconst (v := 0) d_M_digits_15 (by decide) ?_
      exact V_iret d_M_digits_16 rfl rfl ⟨rfl, hM⟩
set_option maxRecDepth 20000 in
theorem l_M_toldAt (hg : GO g) (hM : Md g m0 m a B sc ar) {n : Nat} {v : Nat → Fw} (hn : sc 22 = nI n) (hn2 : n ≤ 26) (hv : ∀ j, j < n → ar 23 (8 * j) = v j 0) (c : Int32) {Fi : Ou → Mm → Prop} : ∀ (k j : Nat) (x : List (Nat × Value)), j + k = n → chk [(0, .ref a), (1, .int c), (2, .int (nI j))] x → Fi (.inl (some (.int (mA (fndF v c k j))))) m → V g m_M_toldAt 0 0 0 0 2 x [] m Fi := by
  intro k
  induction k with
  | zero =>
    intro j x hj hx hF
    refine V_lo _ hx ?_
    refine V_iload_n d_M_toldAt_2 rfl rfl ?_
    first | refine V_aload_n d_M_toldAt_3 rfl rfl ?_ | refine V_aloadN_n d_M_toldAt_3 rfl rfl ?_
    refine Vget fl_M_77 d_M_toldAt_4 hM.1 rfl ?_
    refine V_icmp_ge (tgt := 31) d_M_toldAt_7 (by decide) (fun h_7 => ?_) (fun h_7 => ?_)
    · refine V_iconst (v := -1) d_M_toldAt_31 (by decide) ?_
      exact V_iret d_M_toldAt_32 rfl rfl hF
    · rw [hn] at h_7
      exact absurd (nI_le (by omega) (by omega)) h_7
  | succ k ih =>
    intro j x hj hx hF
    refine V_lo _ hx ?_
    have hin : vp_in (nI (8 * j)) 208 := vp_nI (by omega) (by omega)
    rw [fndF] at hF
    refine V_iload_n d_M_toldAt_2 rfl rfl ?_
    first | refine V_aload_n d_M_toldAt_3 rfl rfl ?_ | refine V_aloadN_n d_M_toldAt_3 rfl rfl ?_
    refine Vget fl_M_77 d_M_toldAt_4 hM.1 rfl ?_
    refine V_icmp_ge (tgt := 31) d_M_toldAt_7 (by decide) (fun h_7 => ?_) (fun h_7 => ?_)
    · rw [hn] at h_7
      exact absurd h_7 (nI_ge (by omega) (by omega))
    · first | refine V_aload_n d_M_toldAt_10 rfl rfl ?_ | refine V_aloadN_n d_M_toldAt_10 rfl rfl ?_
      refine Vget fl_M_80 d_M_toldAt_11 hM.1 rfl ?_
      refine V_bipush (v := 8) d_M_toldAt_14 (by decide) ?_
      refine V_iload_n d_M_toldAt_16 rfl rfl ?_
      refine V_imul d_M_toldAt_17 ?_
      rw [nI8]
      refine Miald d_M_toldAt_18 hM (by decide) (by assumption) ?_
      rw [nI_clamp (by omega), hv j (by omega)]
      refine V_iload_n d_M_toldAt_19 rfl rfl ?_
      refine V_icmp_ne (tgt := 25) d_M_toldAt_20 (by decide) (fun h_20 => ?_) (fun h_20 => ?_)
      · rw [if_neg h_20] at hF
        refine V_iinc d_M_toldAt_25 rfl (nI_inc _) rfl ?_
        refine V_goto (tgt := 2) d_M_toldAt_28 (by decide) ?_
        exact ih (j + 1) _ (by omega) ⟨rfl, rfl, rfl, trivial⟩ hF
      · rw [if_pos h_20] at hF
        refine V_iload_n d_M_toldAt_23 rfl rfl ?_
        exact V_iret d_M_toldAt_24 rfl rfl hF
theorem c_M_toldAt (hg : GO g) (hM : Md g m0 m a B sc ar) {n : Nat} {v : Nat → Fw} (hn : sc 22 = nI n) (hn2 : n ≤ 26) (hv : ∀ j, j < n → ar 23 (8 * j) = v j 0) (c : Int32) : CT g m_M_toldAt 0 0 0 0 [.ref a, .int c] m (Re (some (.int (mA (fndF v c n 0)))) m) := by
  refine CT_go (lo := [(0, .ref a), (1, .int c)]) rfl rfl rfl rfl hg ?_
  refine V_iconst (v := 0) d_M_toldAt_0 (by decide) ?_
  refine V_istore_n d_M_toldAt_1 rfl rfl ?_
  exact l_M_toldAt hg hM hn hn2 hv c n 0 _ (by omega) ⟨rfl, rfl, rfl, trivial⟩ ⟨rfl, rfl⟩
end M2
