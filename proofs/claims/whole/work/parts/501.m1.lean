/-! the reference: one object, its numbers sc, its rows ar (both by the field's place) -/
def mdN (k : Nat) : Nat := match k with
  | 1 => 500 | 4 => 4 | 6 => 4 | 7 => 32 | 8 => 32 | 9 => 32 | 10 => 32 | 11 => 32 | 12 => 32 | 13 => 32 | 14 => 32 | 15 => 32 | 16 => 4 | 17 => 32 | 18 => 32 | 19 => 32 | 23 => 208 | 25 => 8 | 26 => 8 | 27 => 8 | 30 => 8 | 32 => 64 | 34 => 20 | _ => 0
def mdL (B : Nat → Nat) (sc : Fw) : List Value := [.int (sc 0), .ref (B 1), .int (sc 2), .int (sc 3), .ref (B 4), .int (sc 5), .ref (B 6), .ref (B 7), .ref (B 8), .ref (B 9), .ref (B 10), .ref (B 11), .ref (B 12), .ref (B 13), .ref (B 14), .ref (B 15), .ref (B 16), .ref (B 17), .ref (B 18), .ref (B 19), .int (sc 20), .int (sc 21), .int (sc 22), .ref (B 23), .int (sc 24), .ref (B 25), .ref (B 26), .ref (B 27), .int (sc 28), .int (sc 29), .ref (B 30), .int (sc 31), .ref (B 32), .int (sc 33), .ref (B 34)]
abbrev Ar : Type := Nat → Fw
def upA (ar : Ar) (k i : Nat) (x : Int32) : Ar := fun l => if l = k then upd (ar k) i x else ar l
def Md (g : GG) (m0 m : Mm) (a : Nat) (B : Nat → Nat) (sc : Fw) (ar : Ar) : Prop := Ob m a 6 (mdL B sc) ∧ (∀ k, mdN k ≠ 0 → Ia g m (B k) (mdN k) (ar k)) ∧ (∀ k l, mdN k ≠ 0 → mdN l ≠ 0 → B k = B l → k = l) ∧ Fr (fun b => b = a ∨ ∃ k, mdN k ≠ 0 ∧ b = B k) m0 m
def Pm (g : GG) (m0 : Mm) (a : Nat) (B : Nat → Nat) (r : Option Value) (sc : Fw) (ar : Ar) : Ou → Mm → Prop := fun o m' => o = .inl r ∧ Md g m0 m' a B sc ar
theorem mdN_lt : ∀ k, mdN k < 2 ^ 31 := fun k => by
  unfold mdN
  split <;> omega
section M1
variable {g : GG} {t : Mt} {fr lc bc bs pc : Nat} {lo : List (Nat × Value)} {st : List Value} {m0 m : Mm} {a : Nat} {B : Nat → Nat} {sc : Fw} {ar : Ar} {Fi : Ou → Mm → Prop}
theorem Mput {idx k : Nat} {x : Int32} (hF : PL t.1.cls idx 6 k .int) (hd : decode t.2.1 pc = .ok (.putfield idx, 3)) (h : Md g m0 m a B sc ar) (hn : narrow .int (.int x) = .int x) (hs : (mdL B sc).set k (.int x) = mdL B (upd sc k x)) (kk : ∀ m', Md g m0 m' a B (upd sc k x) ar → V g t fr lc bc bs (pc + 3) lo st m' Fi) : V g t fr lc bc bs pc lo (.int x :: .ref a :: st) m Fi := by
  obtain ⟨h1, h2, h3, h4⟩ := h
  by_cases hk : k < (mdL B sc).length
  · refine Vput hF hd h1 hn rfl hk (kk _ ⟨?_, fun l hl => Ia_n (h2 l hl) (Ne.symm (Ob_neI h1 (h2 l hl))), h3, Fr_up h4 (Or.inl rfl)⟩)
    rw [hs]
    exact Ob_s h1
  · exfalso
    obtain ⟨C, T, N, ty0, ⟨⟨e1, -⟩, -, -⟩, hkN, -⟩ := hF
    have e2 : vwCl[6]? = some ("CarrierTextModel", TM, 35) := rfl
    rw [e2] at e1
    injection e1 with e1
    have e3 := congrArg (fun z => z.2.2) e1
    have e4 : N = 35 := e3.symm
    rw [e4] at hkN
    exact hk hkN
theorem Miald {k : Nat} {i : Int32} (hd : decode t.2.1 pc = .ok (.iaload, 1)) (h : Md g m0 m a B sc ar) (hk : mdN k ≠ 0) (hi : vp_in i (mdN k)) (kk : V g t fr lc bc bs (pc + 1) lo (.int (ar k i.toNatClampNeg) :: st) m Fi) : V g t fr lc bc bs pc lo (.int i :: .ref (B k) :: st) m Fi := Viald hd (h.2.1 k hk) hi kk
theorem Md_ast {k i : Nat} {x : Int32} (h : Md g m0 m a B sc ar) (hk : mdN k ≠ 0) : Md g m0 (up m (B k) (.inl (g.2.2.2.2 0, mdN k, .inl (upd (ar k) i x)))) a B sc (upA ar k i x) := by
  obtain ⟨h1, h2, h3, h4⟩ := h
  refine ⟨Ob_n h1 (Ob_neI h1 (h2 k hk)), fun l hl => ?_, h3, Fr_up h4 (Or.inr ⟨k, hk, rfl⟩)⟩
  unfold upA
  by_cases e : l = k
  · subst e
    rw [if_pos rfl]
    exact Ia_s (h2 l hl)
  · rw [if_neg e]
    exact Ia_n (h2 l hl) (fun z => e (h3 l k hl hk z))
theorem Miast {k : Nat} {i x : Int32} (hd : decode t.2.1 pc = .ok (.iastore, 1)) (h : Md g m0 m a B sc ar) (hk : mdN k ≠ 0) (hi : vp_in i (mdN k)) (kk : ∀ m', Md g m0 m' a B sc (upA ar k i.toNatClampNeg x) → V g t fr lc bc bs (pc + 1) lo st m' Fi) : V g t fr lc bc bs pc lo (.int x :: .int i :: .ref (B k) :: st) m Fi := Viast hd (h.2.1 k hk) hi (kk _ (Md_ast h hk))
end M1
/-! how the reference stands to the class -/
def RSv (ar : Ar) (x : Nat) (v : Fw) : Prop := ar 7 x = v 0 ∧ ar 8 x = v 1 ∧ ar 9 x = v 4 ||| 1 ∧ ar 10 x = v 2 ∧ ar 11 x = v 3 ∧ ar 12 x = v 5 ∧ ar 13 x = v 6 ∧ (0 < v 8 → ar 14 x = v 7 ∧ ar 15 x = v 8 ∧ ¬ v 7 < 0) ∧ (¬ 0 < v 8 → ar 14 x = -1)
def SvOk (v : Fw) : Prop := wi (v 0) 65 90 = true ∧ wi (v 2) 1 1000 = true ∧ wi (v 3) 1 500 = true ∧ wi (v 5) 0 999 = true ∧ wi (v 6) 0 99 = true
def REd (ar : Ar) (i : Nat) (d : Edd) : Prop := ar 4 i = d.2.2.2.2.2.2 ∧ ¬ d.2.2.2.2.2.2 < 0 ∧ ar 6 i = nI d.1 ∧ ar 16 i = nI d.2.2.1 ∧ d.1 ≤ 8 ∧ d.2.2.1 ≤ 8 ∧ (∀ j, j < d.1 → RSv ar (8 * i + j) (d.2.1 j) ∧ SvOk (d.2.1 j)) ∧ (∀ x y, x < d.1 → y < d.1 → d.2.1 x 0 = d.2.1 y 0 → x = y) ∧ ∀ j, j < d.2.2.1 → ar 17 (8 * i + j) = d.2.2.2.1 j ∧ ar 18 (8 * i + j) = d.2.2.2.2.1 j ∧ ar 19 (8 * i + j) = d.2.2.2.2.2.1 j ∧ wi (d.2.2.2.2.2.1 j) 1 9 = true
def RQ (c : Int32) (f : Fw) (s : Sq) (k : Nat) : Prop := c = nI s.2 ∧ s.2 ≤ k ∧ ∀ j, j < s.2 → f j = s.1 j
def RM (sc : Fw) (ar : Ar) (tx lb pr : Sq) (n : Nat) (day : Int32) (len : Nat) (ft : Fw) (ed : Nat → Edd) : Prop := RQ (sc 2) (ar 1) tx 500 ∧ RQ (sc 33) (ar 34) lb 20 ∧ (RQ (sc 31) (ar 32) pr 37 ∧ ∀ j, j < pr.2 → ¬ pr.1 j < 0) ∧ (sc 3 = nI n ∧ n ≤ 4) ∧ sc 5 = day ∧ RQ (sc 29) (ar 30) (ft, len) 8 ∧ ∀ i, i < n → REd ar i (ed i)
def mA : Option Nat → Int32
  | none => -1
  | some i => nI i
theorem nI8 (n : Nat) : 8 * nI n = nI (8 * n) := (Int32.ofNat_mul 8 n).symm
theorem nI_c8 (n j : Nat) : nI (8 * n + j) + 1 = nI (8 * n + (j + 1)) := nI_add _ 1
section M1b
variable {g : GG} {m0 m : Mm} {a : Nat} {B : Nat → Nat} {sc : Fw} {ar : Ar}
theorem c_M_not (hg : GO g) (n x y : Int32) : CT g m_M_not 0 0 0 0 [.int n, .int x, .int y] m (Re (some (.int (bi (!wi n x y)))) m) := by
  refine CT_go (lo := [(0, .int n), (1, .int x), (2, .int y)]) rfl rfl rfl rfl hg ?_
  refine V_iload_n d_M_not_0 rfl rfl ?_
  refine V_iload_n d_M_not_1 rfl rfl ?_
  refine V_icmp_lt (tgt := 10) d_M_not_2 (by decide) (fun h_2 => ?_) (fun h_2 => ?_)
  · refine V_iconst (v := 1) d_M_not_10 (by decide) ?_
    refine V_goto (tgt := 15) d_M_not_11 (by decide) ?_
    exact V_iret d_M_not_15 rfl rfl ⟨by simp [wi, bi, *], rfl⟩
  · refine V_iload_n d_M_not_5 rfl rfl ?_
    refine V_iload_n d_M_not_6 rfl rfl ?_
    refine V_icmp_le (tgt := 14) d_M_not_7 (by decide) (fun h_7 => ?_) (fun h_7 => ?_)
    · refine V_iconst (v := 0) d_M_not_14 (by decide) ?_
      have q := i_le_lt h_7
      exact V_iret d_M_not_15 rfl rfl ⟨by simp [wi, bi, *], rfl⟩
    · refine V_iconst (v := 1) d_M_not_10 (by decide) ?_
      refine V_goto (tgt := 15) d_M_not_11 (by decide) ?_
      have q := i_nle h_7
      exact V_iret d_M_not_15 rfl rfl ⟨by simp [wi, bi, *], rfl⟩
theorem c_M_digit (hg : GO g) (n : Int32) : CT g m_M_digit 0 0 0 0 [.int n] m (Re (some (.int (bi (dg n)))) m) := by
  refine CT_go (lo := [(0, .int n)]) rfl rfl rfl rfl hg ?_
  refine V_iload_n d_M_digit_0 rfl rfl ?_
  refine V_bipush (v := 48) d_M_digit_1 (by decide) ?_
  refine V_icmp_lt (tgt := 16) d_M_digit_3 (by decide) (fun h_3 => ?_) (fun h_3 => ?_)
  · refine V_iconst (v := 0) d_M_digit_16 (by decide) ?_
    exact V_iret d_M_digit_17 rfl rfl ⟨by simp [dg, wi, bi, *], rfl⟩
  · refine V_iload_n d_M_digit_6 rfl rfl ?_
    refine V_bipush (v := 57) d_M_digit_7 (by decide) ?_
    refine V_icmp_gt (tgt := 16) d_M_digit_9 (by decide) (fun h_9 => ?_) (fun h_9 => ?_)
    · refine V_iconst (v := 0) d_M_digit_16 (by decide) ?_
      exact V_iret d_M_digit_17 rfl rfl ⟨by simp [dg, wi, bi, *], rfl⟩
    · refine V_iconst (v := 1) d_M_digit_12 (by decide) ?_
      refine V_goto (tgt := 17) d_M_digit_13 (by decide) ?_
      exact V_iret d_M_digit_17 rfl rfl ⟨by simp [dg, wi, bi, *], rfl⟩
theorem c_M_thrown (hg : GO g) (hM : Md g m0 m a B sc ar) : CT g m_M_thrown 0 0 0 0 [.ref a] m (Re (some (.int (sc 0))) m) := by
  refine CT_go (lo := [(0, .ref a)]) rfl rfl rfl rfl hg ?_
  first | refine V_aload_n d_M_thrown_0 rfl rfl ?_ | refine V_aloadN_n d_M_thrown_0 rfl rfl ?_
  refine Vget fl_M_7 d_M_thrown_1 hM.1 rfl ?_
  exact V_iret d_M_thrown_4 rfl rfl ⟨rfl, rfl⟩
/-- the edition that acts -/
def lat (dy : Nat → Int32) : Option Nat → Int32
  | none => 0
  | some i => dy i
set_option maxRecDepth 20000 in
theorem l_M_acting (hg : GO g) (hM : Md g m0 m a B sc ar) {n : Nat} {dy : Nat → Int32} (hn : sc 3 = nI n) (hn4 : n ≤ 4) (hd : ∀ i, i < n → ar 4 i = dy i ∧ ¬ dy i < 0) {Fi : Ou → Mm → Prop} : ∀ (k j : Nat) (b : Option Nat) (x : List (Nat × Value)), j + k = n → (∀ i, b = some i → i < j) → chk [(0, .ref a), (1, .int (mA b)), (2, .int (nI j))] x → Fi (.inl (some (.int (mA (acF dy (sc 5) k j (b, lat dy b)))))) m → V g m_M_acting 0 0 0 0 4 x [] m Fi := by
  intro k
  induction k with
  | zero =>
    intro j b x hj hb hx hF
    refine V_lo _ hx ?_
    refine V_iload_n d_M_acting_4 rfl rfl ?_
    first | refine V_aload_n d_M_acting_5 rfl rfl ?_ | refine V_aloadN_n d_M_acting_5 rfl rfl ?_
    refine Vget fl_M_20 d_M_acting_6 hM.1 rfl ?_
    refine V_icmp_ge (tgt := 52) d_M_acting_9 (by decide) (fun h_9 => ?_) (fun h_9 => ?_)
    · refine V_iload_n d_M_acting_52 rfl rfl ?_
      exact V_iret d_M_acting_53 rfl rfl hF
    · rw [hn] at h_9
      exact absurd (nI_le (by omega) (by omega)) h_9
  | succ k ih =>
    intro j b x hj hb hx hF
    refine V_lo _ hx ?_
    have hin : vp_in (nI j) 4 := vp_nI (by omega) (by omega)
    rw [acF] at hF
    -- the edition is taken
    have yes : ¬ sc 5 < dy j → ¬ dy j < lat dy b → V g m_M_acting 0 0 0 0 44 [(0, .ref a), (1, .int (mA b)), (2, .int (nI j))] [] m Fi := by
      intro q1 q2
      rw [if_pos ⟨q1, q2⟩] at hF
      refine V_iload_n d_M_acting_44 rfl rfl ?_
      refine V_istore_n d_M_acting_45 rfl rfl ?_
      refine V_iinc d_M_acting_46 rfl (nI_inc _) rfl ?_
      refine V_goto (tgt := 4) d_M_acting_49 (by decide) ?_
      exact ih (j + 1) (some j) _ (by omega) (fun i hi => by injection hi with hi; omega) ⟨rfl, rfl, rfl, trivial⟩ hF
    have no : ¬ (¬ sc 5 < dy j ∧ ¬ dy j < lat dy b) → V g m_M_acting 0 0 0 0 46 [(0, .ref a), (1, .int (mA b)), (2, .int (nI j))] [] m Fi := by
      intro q
      rw [if_neg q] at hF
      refine V_iinc d_M_acting_46 rfl (nI_inc _) rfl ?_
      refine V_goto (tgt := 4) d_M_acting_49 (by decide) ?_
      exact ih (j + 1) b _ (by omega) (fun i hi => by have := hb i hi; omega) ⟨rfl, rfl, rfl, trivial⟩ hF
    refine V_iload_n d_M_acting_4 rfl rfl ?_
    first | refine V_aload_n d_M_acting_5 rfl rfl ?_ | refine V_aloadN_n d_M_acting_5 rfl rfl ?_
    refine Vget fl_M_20 d_M_acting_6 hM.1 rfl ?_
    refine V_icmp_ge (tgt := 52) d_M_acting_9 (by decide) (fun h_9 => ?_) (fun h_9 => ?_)
    · rw [hn] at h_9
      exact absurd h_9 (nI_ge (by omega) (by omega))
    · first | refine V_aload_n d_M_acting_12 rfl rfl ?_ | refine V_aloadN_n d_M_acting_12 rfl rfl ?_
      refine Vget fl_M_23 d_M_acting_13 hM.1 rfl ?_
      refine V_iload_n d_M_acting_16 rfl rfl ?_
      refine Miald d_M_acting_17 hM (by decide) (by assumption) ?_
      rw [nI_clamp (by omega), (hd j (by omega)).1]
      first | refine V_aload_n d_M_acting_18 rfl rfl ?_ | refine V_aloadN_n d_M_acting_18 rfl rfl ?_
      refine Vget fl_M_26 d_M_acting_19 hM.1 rfl ?_
      refine V_icmp_gt (tgt := 46) d_M_acting_22 (by decide) (fun h_22 => ?_) (fun h_22 => ?_)
      · exact no (fun z => z.1 h_22)
      · refine V_iload_n d_M_acting_25 rfl rfl ?_
        refine V_if_lt (tgt := 44) d_M_acting_26 (by decide) (fun h_26 => ?_) (fun h_26 => ?_)
        · cases b with
          | none => exact yes h_22 (hd j (by omega)).2
          | some i => exact absurd h_26 (nI_pos (by have := hb i rfl; omega))
        · cases b with
          | none => exact absurd (by decide) h_26
          | some i =>
            have hi := hb i rfl
            have hin2 : vp_in (nI i) 4 := vp_nI (by omega) (by omega)
            first | refine V_aload_n d_M_acting_29 rfl rfl ?_ | refine V_aloadN_n d_M_acting_29 rfl rfl ?_
            refine Vget fl_M_23 d_M_acting_30 hM.1 rfl ?_
            refine V_iload_n d_M_acting_33 rfl rfl ?_
            refine Miald d_M_acting_34 hM (by decide) (by assumption) ?_
            rw [nI_clamp (by omega), (hd j (by omega)).1]
            refine ek_v (P := fun z => V g m_M_acting 0 0 0 0 _ z _ _ _) (show _ = [(0, Value.ref a), (1, .int (nI i)), (2, .int (nI j))] from rfl) ?_
            first | refine V_aload_n d_M_acting_35 rfl rfl ?_ | refine V_aloadN_n d_M_acting_35 rfl rfl ?_
            refine Vget fl_M_23 d_M_acting_36 hM.1 rfl ?_
            refine V_iload_n d_M_acting_39 rfl rfl ?_
            refine Miald d_M_acting_40 hM (by decide) (by assumption) ?_
            rw [nI_clamp (by omega), (hd i (by omega)).1]
            refine V_icmp_lt (tgt := 46) d_M_acting_41 (by decide) (fun h_41 => ?_) (fun h_41 => ?_)
            · exact no (fun z => z.2 h_41)
            · exact yes h_22 h_41
theorem c_M_acting (hg : GO g) (hM : Md g m0 m a B sc ar) {tx lb pr : Sq} {n : Nat} {day : Int32} {len : Nat} {ft : Fw} {ed : Nat → Edd} (hR : RM sc ar tx lb pr n day len ft ed) : CT g m_M_acting 0 0 0 0 [.ref a] m (Re (some (.int (mA (acA ed n day)))) m) := by
  obtain ⟨r1, r2, r3, ⟨r4, r5⟩, r6, r7, r8⟩ := hR
  subst r6
  refine CT_go (lo := [(0, .ref a)]) rfl rfl rfl rfl hg ?_
  refine V_iconst (v := -1) d_M_acting_0 (by decide) ?_
  refine V_istore_n d_M_acting_1 rfl rfl ?_
  refine V_iconst (v := 0) d_M_acting_2 (by decide) ?_
  refine V_istore_n d_M_acting_3 rfl rfl ?_
  exact l_M_acting hg hM (dy := fun i => (ed i).2.2.2.2.2.2) r4 r5 (fun i hi => ⟨(r8 i hi).1, (r8 i hi).2.1⟩) n 0 none _ (by omega) (fun _ z => nomatch z) ⟨rfl, rfl, rfl, trivial⟩ ⟨rfl, rfl⟩
def fdO (i : Nat) : Option Nat → Int32
  | none => -1
  | some j => nI (8 * i + j)
set_option maxRecDepth 20000 in
theorem l_M_find (hg : GO g) (hM : Md g m0 m a B sc ar) {i : Nat} {d : Edd} (hi : i < 4) (hR : REd ar i d) (c : Int32) {Fi : Ou → Mm → Prop} : ∀ (k j : Nat) (x : List (Nat × Value)), j + k = d.1 → chk [(0, .ref a), (1, .int (nI i)), (2, .int c), (3, .int (nI (8 * i + j)))] x → Fi (.inl (some (.int (fdO i (fndF d.2.1 c k j))))) m → V g m_M_find 0 0 0 0 5 x [] m Fi := by
  obtain ⟨e1, e2, e3, e4, e5, e6, e7, e8, e9⟩ := hR
  have hin : vp_in (nI i) 4 := vp_nI hi (by omega)
  intro k
  induction k with
  | zero =>
    intro j x hj hx hF
    refine V_lo _ hx ?_
    refine V_iload_n d_M_find_5 rfl rfl ?_
    refine V_bipush (v := 8) d_M_find_6 (by decide) ?_
    refine V_iload_n d_M_find_8 rfl rfl ?_
    refine V_imul d_M_find_9 ?_
    first | refine V_aload_n d_M_find_10 rfl rfl ?_ | refine V_aloadN_n d_M_find_10 rfl rfl ?_
    refine Vget fl_M_29 d_M_find_11 hM.1 rfl ?_
    refine V_iload_n d_M_find_14 rfl rfl ?_
    refine Miald d_M_find_15 hM (by decide) (by assumption) ?_
    rw [nI_clamp (by omega), e3, nI8]
    refine V_iadd d_M_find_16 ?_
    rw [nI_add]
    refine V_icmp_ge (tgt := 38) d_M_find_17 (by decide) (fun h_17 => ?_) (fun h_17 => ?_)
    · refine V_iconst (v := -1) d_M_find_38 (by decide) ?_
      exact V_iret d_M_find_39 rfl rfl hF
    · exact absurd (nI_le (by omega) (by omega)) h_17
  | succ k ih =>
    intro j x hj hx hF
    refine V_lo _ hx ?_
    have hin2 : vp_in (nI (8 * i + j)) 32 := vp_nI (by omega) (by omega)
    rw [fndF] at hF
    refine V_iload_n d_M_find_5 rfl rfl ?_
    refine V_bipush (v := 8) d_M_find_6 (by decide) ?_
    refine V_iload_n d_M_find_8 rfl rfl ?_
    refine V_imul d_M_find_9 ?_
    first | refine V_aload_n d_M_find_10 rfl rfl ?_ | refine V_aloadN_n d_M_find_10 rfl rfl ?_
    refine Vget fl_M_29 d_M_find_11 hM.1 rfl ?_
    refine V_iload_n d_M_find_14 rfl rfl ?_
    refine Miald d_M_find_15 hM (by decide) (by assumption) ?_
    rw [nI_clamp (by omega), e3, nI8]
    refine V_iadd d_M_find_16 ?_
    rw [nI_add]
    refine V_icmp_ge (tgt := 38) d_M_find_17 (by decide) (fun h_17 => ?_) (fun h_17 => ?_)
    · exact absurd h_17 (nI_ge (by omega) (by omega))
    · first | refine V_aload_n d_M_find_20 rfl rfl ?_ | refine V_aloadN_n d_M_find_20 rfl rfl ?_
      refine Vget fl_M_32 d_M_find_21 hM.1 rfl ?_
      refine V_iload_n d_M_find_24 rfl rfl ?_
      refine Miald d_M_find_25 hM (by decide) (by assumption) ?_
      rw [nI_clamp (by omega), (e7 j (by omega)).1.1]
      refine V_iload_n d_M_find_26 rfl rfl ?_
      refine V_icmp_ne (tgt := 32) d_M_find_27 (by decide) (fun h_27 => ?_) (fun h_27 => ?_)
      · rw [if_neg h_27] at hF
        refine V_iinc d_M_find_32 rfl (nI_inc _) rfl ?_
        refine V_goto (tgt := 5) d_M_find_35 (by decide) ?_
        exact ih (j + 1) _ (by omega) ⟨rfl, rfl, rfl, rfl, trivial⟩ hF
      · rw [if_pos h_27] at hF
        refine V_iload_n d_M_find_30 rfl rfl ?_
        exact V_iret d_M_find_31 rfl rfl hF
theorem c_M_find (hg : GO g) (hM : Md g m0 m a B sc ar) {i : Nat} {d : Edd} (hi : i < 4) (hR : REd ar i d) (c : Int32) : CT g m_M_find 0 0 0 0 [.ref a, .int (nI i), .int c] m (Re (some (.int (fdO i (fndF d.2.1 c d.1 0)))) m) := by
  refine CT_go (lo := [(0, .ref a), (1, .int (nI i)), (2, .int c)]) rfl rfl rfl rfl hg ?_
  refine V_bipush (v := 8) d_M_find_0 (by decide) ?_
  refine V_iload_n d_M_find_2 rfl rfl ?_
  refine V_imul d_M_find_3 ?_
  rw [nI8]
  refine V_istore_n d_M_find_4 rfl rfl ?_
  exact l_M_find hg hM hi hR c d.1 0 _ (by omega) ⟨rfl, rfl, rfl, rfl, trivial⟩ ⟨rfl, rfl⟩
set_option maxRecDepth 20000 in
theorem l_M_zoneBy (hg : GO g) (hM : Md g m0 m a B sc ar) {i : Nat} {d : Edd} (hi : i < 4) (hR : REd ar i d) (c : Int32) {Fi : Ou → Mm → Prop} : ∀ (k j : Nat) (x : List (Nat × Value)), j + k = d.2.2.1 → chk [(0, .ref a), (1, .int (nI i)), (2, .int c), (3, .int (nI (8 * i + j)))] x → Fi (.inl (some (.int (znF d.2.2.2.1 d.2.2.2.2.1 d.2.2.2.2.2.1 c k j)))) m → V g m_M_zoneBy 0 0 0 0 5 x [] m Fi := by
  obtain ⟨e1, e2, e3, e4, e5, e6, e7, e8, e9⟩ := hR
  have hin : vp_in (nI i) 4 := vp_nI hi (by omega)
  intro k
  induction k with
  | zero =>
    intro j x hj hx hF
    refine V_lo _ hx ?_
    refine V_iload_n d_M_zoneBy_5 rfl rfl ?_
    refine V_bipush (v := 8) d_M_zoneBy_6 (by decide) ?_
    refine V_iload_n d_M_zoneBy_8 rfl rfl ?_
    refine V_imul d_M_zoneBy_9 ?_
    first | refine V_aload_n d_M_zoneBy_10 rfl rfl ?_ | refine V_aloadN_n d_M_zoneBy_10 rfl rfl ?_
    refine Vget fl_M_59 d_M_zoneBy_11 hM.1 rfl ?_
    refine V_iload_n d_M_zoneBy_14 rfl rfl ?_
    refine Miald d_M_zoneBy_15 hM (by decide) (by assumption) ?_
    rw [nI_clamp (by omega), e4, nI8]
    refine V_iadd d_M_zoneBy_16 ?_
    rw [nI_add]
    refine V_icmp_ge (tgt := 53) d_M_zoneBy_17 (by decide) (fun h_17 => ?_) (fun h_17 => ?_)
    · refine V_iconst (v := 0) d_M_zoneBy_53 (by decide) ?_
      exact V_iret d_M_zoneBy_54 rfl rfl hF
    · exact absurd (nI_le (by omega) (by omega)) h_17
  | succ k ih =>
    intro j x hj hx hF
    refine V_lo _ hx ?_
    have hin2 : vp_in (nI (8 * i + j)) 32 := vp_nI (by omega) (by omega)
    obtain ⟨q1, q2, q3, -⟩ := e9 j (by omega)
    rw [znF] at hF
    have no : ¬ wi c (d.2.2.2.1 j) (d.2.2.2.2.1 j) = true → V g m_M_zoneBy 0 0 0 0 47 [(0, .ref a), (1, .int (nI i)), (2, .int c), (3, .int (nI (8 * i + j)))] [] m Fi := by
      intro q
      rw [if_neg q] at hF
      refine V_iinc d_M_zoneBy_47 rfl (nI_inc _) rfl ?_
      refine V_goto (tgt := 5) d_M_zoneBy_50 (by decide) ?_
      exact ih (j + 1) _ (by omega) ⟨rfl, rfl, rfl, rfl, trivial⟩ hF
    refine V_iload_n d_M_zoneBy_5 rfl rfl ?_
    refine V_bipush (v := 8) d_M_zoneBy_6 (by decide) ?_
    refine V_iload_n d_M_zoneBy_8 rfl rfl ?_
    refine V_imul d_M_zoneBy_9 ?_
    first | refine V_aload_n d_M_zoneBy_10 rfl rfl ?_ | refine V_aloadN_n d_M_zoneBy_10 rfl rfl ?_
    refine Vget fl_M_59 d_M_zoneBy_11 hM.1 rfl ?_
    refine V_iload_n d_M_zoneBy_14 rfl rfl ?_
    refine Miald d_M_zoneBy_15 hM (by decide) (by assumption) ?_
    rw [nI_clamp (by omega), e4, nI8]
    refine V_iadd d_M_zoneBy_16 ?_
    rw [nI_add]
    refine V_icmp_ge (tgt := 53) d_M_zoneBy_17 (by decide) (fun h_17 => ?_) (fun h_17 => ?_)
    · exact absurd h_17 (nI_ge (by omega) (by omega))
    · first | refine V_aload_n d_M_zoneBy_20 rfl rfl ?_ | refine V_aloadN_n d_M_zoneBy_20 rfl rfl ?_
      refine Vget fl_M_62 d_M_zoneBy_21 hM.1 rfl ?_
      refine V_iload_n d_M_zoneBy_24 rfl rfl ?_
      refine Miald d_M_zoneBy_25 hM (by decide) (by assumption) ?_
      rw [nI_clamp (by omega), q1]
      refine V_iload_n d_M_zoneBy_26 rfl rfl ?_
      refine V_icmp_gt (tgt := 47) d_M_zoneBy_27 (by decide) (fun h_27 => ?_) (fun h_27 => ?_)
      · exact no (fun z => by unfold wi at z; rw [decide_eq_true h_27] at z; cases z)
      · refine V_iload_n d_M_zoneBy_30 rfl rfl ?_
        first | refine V_aload_n d_M_zoneBy_31 rfl rfl ?_ | refine V_aloadN_n d_M_zoneBy_31 rfl rfl ?_
        refine Vget fl_M_65 d_M_zoneBy_32 hM.1 rfl ?_
        refine V_iload_n d_M_zoneBy_35 rfl rfl ?_
        refine Miald d_M_zoneBy_36 hM (by decide) (by assumption) ?_
        rw [nI_clamp (by omega), q2]
        refine V_icmp_gt (tgt := 47) d_M_zoneBy_37 (by decide) (fun h_37 => ?_) (fun h_37 => ?_)
        · exact no (fun z => by unfold wi at z; rw [decide_eq_true h_37, Bool.not_true, Bool.and_false] at z; cases z)
        · have q : wi c (d.2.2.2.1 j) (d.2.2.2.2.1 j) = true := by unfold wi; rw [decide_eq_false h_27, decide_eq_false h_37]; rfl
          rw [if_pos q] at hF
          first | refine V_aload_n d_M_zoneBy_40 rfl rfl ?_ | refine V_aloadN_n d_M_zoneBy_40 rfl rfl ?_
          refine Vget fl_M_68 d_M_zoneBy_41 hM.1 rfl ?_
          refine V_iload_n d_M_zoneBy_44 rfl rfl ?_
          refine Miald d_M_zoneBy_45 hM (by decide) (by assumption) ?_
          rw [nI_clamp (by omega), q3]
          exact V_iret d_M_zoneBy_46 rfl rfl hF
theorem c_M_zoneBy (hg : GO g) (hM : Md g m0 m a B sc ar) {i : Nat} {d : Edd} (hi : i < 4) (hR : REd ar i d) (c : Int32) : CT g m_M_zoneBy 0 0 0 0 [.ref a, .int (nI i), .int c] m (Re (some (.int (zC d c))) m) := by
  have h8 : d.2.2.1 ≤ 8 := hR.2.2.2.2.2.1
  unfold zC
  rw [Nat.min_eq_left h8]
  refine CT_go (lo := [(0, .ref a), (1, .int (nI i)), (2, .int c)]) rfl rfl rfl rfl hg ?_
  refine V_bipush (v := 8) d_M_zoneBy_0 (by decide) ?_
  refine V_iload_n d_M_zoneBy_2 rfl rfl ?_
  refine V_imul d_M_zoneBy_3 ?_
  rw [nI8]
  refine V_istore_n d_M_zoneBy_4 rfl rfl ?_
  exact l_M_zoneBy hg hM hi hR c d.2.2.1 0 _ (by omega) ⟨rfl, rfl, rfl, rfl, trivial⟩ ⟨rfl, rfl⟩
theorem c_M_priceOf (hg : GO g) (hM : Md g m0 m a B sc ar) {x : Nat} {v : Fw} (hx : x < 32) (h1 : ar 12 x = v 5) (h2 : ar 13 x = v 6) (w : Int32) : CT g m_M_priceOf 0 0 0 0 [.ref a, .int (nI x), .int w] m (Re (some (.int (prc v w))) m) := by
  have hin : vp_in (nI x) 32 := vp_nI hx (by omega)
  refine CT_go (lo := [(0, .ref a), (1, .int (nI x)), (2, .int w)]) rfl rfl rfl rfl hg ?_
  first | refine V_aload_n d_M_priceOf_0 rfl rfl ?_ | refine V_aloadN_n d_M_priceOf_0 rfl rfl ?_
  refine Vget fl_M_47 d_M_priceOf_1 hM.1 rfl ?_
  refine V_iload_n d_M_priceOf_4 rfl rfl ?_
  refine Miald d_M_priceOf_5 hM (by decide) (by assumption) ?_
  first | refine V_aload_n d_M_priceOf_6 rfl rfl ?_ | refine V_aloadN_n d_M_priceOf_6 rfl rfl ?_
  refine Vget fl_M_50 d_M_priceOf_7 hM.1 rfl ?_
  refine V_iload_n d_M_priceOf_10 rfl rfl ?_
  refine Miald d_M_priceOf_11 hM (by decide) (by assumption) ?_
  refine V_iload_n d_M_priceOf_12 rfl rfl ?_
  refine V_bipush (v := 9) d_M_priceOf_13 (by decide) ?_
  refine V_iadd d_M_priceOf_15 ?_
  refine V_bipush (v := 10) d_M_priceOf_16 (by decide) ?_
  refine V_idiv d_M_priceOf_18 (by decide) ?_
  refine V_imul d_M_priceOf_19 ?_
  refine V_iadd d_M_priceOf_20 ?_
  rw [nI_clamp (by omega), h1, h2]
  exact V_iret d_M_priceOf_21 rfl rfl ⟨rfl, rfl⟩
theorem l_M_check (hg : GO g) {b n : Nat} {f : Fw} (h : Ia g m b n f) (hn : 8 ≤ n) (hn2 : n < 1000) {Fi : Ou → Mm → Prop} : ∀ (k i : Nat) (v : Int32) (x : List (Nat × Value)), i + k = 7 → chk [(0, .ref b), (1, .int v), (2, .int (nI i))] x → Fi (oI (65 + (ckF f k i v - ckF f k i v / 26 * 26))) m → V g m_M_check 0 0 0 0 4 x [] m Fi := by
  intro k
  induction k with
  | zero =>
    intro i v x hi hx hF
    refine V_lo _ hx ?_
    refine V_iload_n d_M_check_4 rfl rfl ?_
    refine V_bipush (v := 7) d_M_check_5 (by decide) ?_
    refine V_icmp_ge (tgt := 26) d_M_check_7 (by decide) (fun h_7 => ?_) (fun h_7 => ?_)
    · refine V_bipush (v := 65) d_M_check_26 (by decide) ?_
      refine V_iload_n d_M_check_28 rfl rfl ?_
      refine V_bipush (v := 26) d_M_check_29 (by decide) ?_
      refine V_irem d_M_check_31 (by decide) ?_
      refine V_iadd d_M_check_32 ?_
      exact V_iret d_M_check_33 rfl rfl hF
    · exact absurd (nI_le (a := 7) (by omega) (by omega)) h_7
  | succ k ih =>
    intro i v x hi hx hF
    refine V_lo _ hx ?_
    refine V_iload_n d_M_check_4 rfl rfl ?_
    refine V_bipush (v := 7) d_M_check_5 (by decide) ?_
    refine V_icmp_ge (tgt := 26) d_M_check_7 (by decide) (fun h_7 => ?_) (fun h_7 => ?_)
    · exact absurd h_7 (nI_ge (b := 7) (by omega) (by omega))
    · refine V_iload_n d_M_check_10 rfl rfl ?_
      refine V_iload_n d_M_check_11 rfl rfl ?_
      refine V_iconst (v := 1) d_M_check_12 (by decide) ?_
      refine V_iadd d_M_check_13 ?_
      first | refine V_aload_n d_M_check_14 rfl rfl ?_ | refine V_aloadN_n d_M_check_14 rfl rfl ?_
      refine V_iload_n d_M_check_15 rfl rfl ?_
      refine Viald d_M_check_16 h (vp_nI (by omega) (by omega)) ?_
      rw [nI_clamp (by omega)]
      refine V_imul d_M_check_17 ?_
      refine V_iadd d_M_check_18 ?_
      refine V_istore_n d_M_check_19 rfl rfl ?_
      refine V_iinc d_M_check_20 rfl (nI_inc _) rfl ?_
      refine V_goto (tgt := 4) d_M_check_23 (by decide) ?_
      exact ih (i + 1) _ _ (by omega) ⟨rfl, rfl, rfl, trivial⟩ hF
theorem c_M_check (hg : GO g) {b n : Nat} {f : Fw} (h : Ia g m b n f) (hn : 8 ≤ n) (hn2 : n < 1000) : CT g m_M_check 0 0 0 0 [.ref b] m (Re (some (.int (ckL f))) m) := by
  refine CT_go (lo := [(0, .ref b)]) rfl rfl rfl rfl hg ?_
  refine V_iconst (v := 0) d_M_check_0 (by decide) ?_
  refine V_istore_n d_M_check_1 rfl rfl ?_
  refine V_iconst (v := 0) d_M_check_2 (by decide) ?_
  refine V_istore_n d_M_check_3 rfl rfl ?_
  exact l_M_check hg h hn hn2 7 0 0 _ rfl ⟨rfl, rfl, rfl, trivial⟩ ⟨rfl, rfl⟩
end M1b
