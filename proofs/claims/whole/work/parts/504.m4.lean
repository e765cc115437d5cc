/-! class and reference read a line alike -/
theorem vlF_ok {tx : Sq} (hT : tx.2 ≤ 500) {d : Nat} {least most : Int32} {fr : Nat} (hfr : fr ≤ 500) : ∀ (k : Nat) (v : Int32) (n p : Nat), p ≤ 500 → sOk (vlF tx d least most fr k v n p).2
  | 0, v, n, p, hp => by
    unfold vlF vlE
    split
    · exact ⟨hp, fun w z => by injection z with z; omega⟩
    · split
      · exact ⟨hp, fun w z => by injection z with z; omega⟩
      · exact ⟨hp, fun w z => nomatch z⟩
  | k + 1, v, n, p, hp => by
    rw [vlF]
    split
    · rename_i h
      have hlt := dg_lt h.1
      split
      · refine ⟨hp, fun w z => ?_⟩
        injection z with z
        split at z <;> omega
      · exact vlF_ok hT hfr k _ _ _ (by omega)
    · exact vlF_ok hT hfr 0 v n p hp
theorem vl_ok {tx : Sq} {d : Nat} {least most : Int32} {s : PSt} (hT : tx.2 ≤ 500) (h : sOk s) : sOk (vl tx d least most s).2 := by
  obtain ⟨p, o⟩ := s
  cases o with
  | some w => exact h
  | none => exact vlF_ok hT h.1 501 0 0 p h.1
theorem dsF_ok {tx : Sq} (hT : tx.2 ≤ 500) : ∀ (k : Nat) (set last : Int32) (n p : Nat), p ≤ 500 → (dsF tx k set last n p).2.2 ≤ 500
  | 0, _, _, _, _, hp => hp
  | k + 1, set, last, n, p, hp => by
    rw [dsF]
    split
    · rename_i h
      have hlt := dg_lt h.1
      exact dsF_ok hT k _ _ _ _ (by omega)
    · exact hp
theorem ds_ok {tx : Sq} {q : Bool} {s : PSt} (hT : tx.2 ≤ 500) (h : sOk s) : sOk (ds tx q s).2 := by
  obtain ⟨p, o⟩ := s
  cases o with
  | some w => exact h
  | none =>
    have := dsF_ok (tx := tx) hT 501 0 48 0 p h.1
    show sOk (dsE q (dsF tx 501 0 48 0 p)).2
    unfold dsE
    split
    · exact ⟨this, fun w z => by injection z with z; omega⟩
    · exact ⟨this, fun w z => nomatch z⟩
def NSv (ar : Ar) (j : Nat) (v : Fw) : Prop := (∀ i, i < 7 → ar 23 (8 * j + i) = v i) ∧ (0 < v 8 → ar 23 (8 * j + 7) = 100 * v 7 + v 8 ∧ wi (v 7) 0 23 = true ∧ wi (v 8) 1 24 = true) ∧ (¬ 0 < v 8 → ar 23 (8 * j + 7) = -1)
def DM (sc : Fw) (ar : Ar) (D : Dst) (p : Nat) : Prop := sc 22 = nI D.1 ∧ D.1 ≤ 26 ∧ sc 24 = nI D.2.2.1 ∧ D.2.2.1 ≤ p ∧ p ≤ 500 ∧ sc 28 = D.2.2.2.2.2.2 ∧ (∀ j, j < D.1 → NSv ar j (D.2.1 j) ∧ SvOk (D.2.1 j)) ∧ (∀ x y, x < D.1 → y < D.1 → D.2.1 x 0 = D.2.1 y 0 → x = y) ∧ ∀ j, j < D.2.2.1 → j < 8 → ar 25 j = D.2.2.2.1 j ∧ ar 26 j = D.2.2.2.2.1 j ∧ ar 27 j = D.2.2.2.2.2.1 j ∧ wi (D.2.2.2.2.2.1 j) 1 9 = true
def kS (sc0 sc : Fw) : Prop := ∀ i, i ≠ 20 → i ≠ 21 → i ≠ 22 → i ≠ 24 → i ≠ 28 → sc i = sc0 i
def kA (ar0 ar : Ar) : Prop := ∀ k, k ≠ 23 → k ≠ 25 → k ≠ 26 → k ≠ 27 → ar k = ar0 k
/-- how a line ends, but for its mark -/
def Lq (g : GG) (m0 : Mm) (a : Nat) (B : Nat → Nat) (sc : Fw) (ar : Ar) (tx : Sq) (r : Pd) : Ou → Mm → Prop := fun o m' => o = .inl none ∧ ∃ sc' ar' s', Md g m0 m' a B (scP sc' s') ar' ∧ kS sc sc' ∧ kA ar ar' ∧ sOk s' ∧ ((r.1 = true ∧ tkF tx 10 s' = (r.2.2, none) ∧ DM sc' ar' r.2.1 r.2.2) ∨ (r.1 = false ∧ (tkF tx 10 s').2 = some r.2.2))
theorem kS_rf {sc : Fw} : kS sc sc := fun _ _ _ _ _ _ => rfl
theorem kA_rf {ar : Ar} : kA ar ar := fun _ _ _ _ _ => rfl
/-! a service's line -/
def q1 (tx : Sq) (p : Nat) : PSt := tkF tx 58 (p + 1, none)
def q2 (tx : Sq) (p : Nat) : Int32 × PSt := ds tx true (q1 tx p)
def q3 (tx : Sq) (p : Nat) : Int32 × PSt := vl tx 0 1 1000 (tkF tx 58 (q2 tx p).2)
def q4 (tx : Sq) (p : Nat) : Int32 × PSt := vl tx 0 1 500 (tkF tx 58 (q3 tx p).2)
def q5 (tx : Sq) (p : Nat) : Int32 × PSt := ds tx false (tkF tx 58 (q4 tx p).2)
def q6 (tx : Sq) (p : Nat) : Int32 × PSt := vl tx 0 0 999 (tkF tx 58 (q5 tx p).2)
def q7 (tx : Sq) (p : Nat) : Int32 × PSt := vl tx 0 0 99 (tkF tx 43 (q6 tx p).2)
section M4
variable {tx : Sq} {p : Nat}
theorem b6 {w : Nat} (h : (tkF tx 43 (q6 tx p).2).2 = some w) : (q7 tx p).2.2 = some w := by
  unfold q7
  rw [vl_w h]
  exact h
theorem b5 {w : Nat} (h : (tkF tx 58 (q5 tx p).2).2 = some w) : (q7 tx p).2.2 = some w := by
  refine b6 ?_
  unfold q6
  rw [vl_w h, tk_w h]
  exact h
theorem b4 {w : Nat} (h : (tkF tx 58 (q4 tx p).2).2 = some w) : (q7 tx p).2.2 = some w := by
  refine b5 ?_
  unfold q5
  rw [ds_w h, tk_w h]
  exact h
theorem b3 {w : Nat} (h : (tkF tx 58 (q3 tx p).2).2 = some w) : (q7 tx p).2.2 = some w := by
  refine b4 ?_
  unfold q4
  rw [vl_w h, tk_w h]
  exact h
theorem b2 {w : Nat} (h : (tkF tx 58 (q2 tx p).2).2 = some w) : (q7 tx p).2.2 = some w := by
  refine b3 ?_
  unfold q3
  rw [vl_w h, tk_w h]
  exact h
theorem b1 {w : Nat} (h : (q1 tx p).2 = some w) : (q7 tx p).2.2 = some w := by
  refine b2 ?_
  unfold q2
  rw [ds_w h, tk_w h]
  exact h
theorem b7 {w : Nat} (h : (q7 tx p).2.2 = some w) : (tkF tx 10 (q7 tx p).2).2 = some w := by
  rw [tk_w h]
  exact h
/-- what the class makes of a service's line, the reference makes of it too -/
theorem sv_sim (hT : tx.2 ≤ 500) {D : Dst} (hp : p ≤ 500) (h1 : ¬ (wi (hr tx p) 65 90 = false ∨ ¬ fndF D.2.1 (hr tx p) D.1 0 = none)) :
    ((rdS tx D p).1 = false ∧ (tkF tx 10 (q7 tx p).2).2 = some (rdS tx D p).2.2) ∨ ((rdS tx D p).1 = true ∧ (q7 tx p).2.2 = none ∧ tkF tx 10 (q7 tx p).2 = ((rdS tx D p).2.2, none) ∧ (rdS tx D p).2.1 = (D.1 + 1, setR D.2.1 D.1 (upd (upd (upd (upd (upd (upd (upd (fun _ => 0) 0 (hr tx p)) 1 (q2 tx p).1) 2 (q3 tx p).1) 3 (q4 tx p).1) 4 (q5 tx p).1) 5 (q6 tx p).1) 6 (q7 tx p).1), D.2.2) ∧ wi (q3 tx p).1 1 1000 = true ∧ wi (q4 tx p).1 1 500 = true ∧ wi (q6 tx p).1 0 999 = true ∧ wi (q7 tx p).1 0 99 = true ∧ p < (rdS tx D p).2.2 ∧ (rdS tx D p).2.2 ≤ 500) := by
  unfold rdS
  rw [if_neg h1]
  by_cases a1 : hr tx (p + 1) = 58
  · have e1 : q1 tx p = (p + 2, none) := by
      unfold q1 tkF
      exact if_pos a1
    have k1 : p + 2 ≤ 500 := ps_le hT a1 (by decide)
    rw [if_neg (fun z => z a1)]
    unfold cap1
    by_cases a2 : (upD tx (p + 2)).1 = 0 ∨ ¬ hr tx (upD tx (p + 2)).2 = 58
    · rw [if_pos a2]
      refine Or.inl ⟨rfl, b7 (b2 ?_)⟩
      unfold q2
      rw [e1]
      exact dt_bad (a2.elim (fun z => Or.inl ⟨rfl, z⟩) Or.inr)
    · rw [if_neg a2]
      have a2' : ¬ (true = true ∧ (upD tx (p + 2)).1 = 0) ∧ hr tx (upD tx (p + 2)).2 = 58 := ⟨fun z => a2 (Or.inl z.2), Classical.not_not.mp (fun z => a2 (Or.inr z))⟩
      have d2 := dt_ok (tx := tx) a2'
      rw [← e1] at d2
      have e2 : (q2 tx p).1 = (upD tx (p + 2)).1 := d2.1
      have e2' : tkF tx 58 (q2 tx p).2 = ((upD tx (p + 2)).2 + 1, none) := d2.2
      have k2 : (upD tx (p + 2)).2 + 1 ≤ 500 := ps_le hT a2'.2 (by decide)
      have g2 : p + 2 < (upD tx (p + 2)).2 + 1 := Nat.lt_succ_of_le (udF_ge _ _ _ _)
      rw [← e2]
      generalize (upD tx (p + 2)).2 + 1 = p2 at e2' k2 g2 ⊢
      unfold cap2
      by_cases a3 : (freeN tx 1 1000 p2).1 = -1 ∨ ¬ hr tx (freeN tx 1 1000 p2).2 = 58
      · rw [if_pos a3]
        refine Or.inl ⟨rfl, b7 (b3 ?_)⟩
        unfold q3
        rw [e2']
        exact vft_bad (lst := 1) (most := 1000) (by omega) (by omega) hT k2 a3
      · rw [if_neg a3]
        have a3' : ¬ (freeN tx 1 1000 p2).1 = -1 ∧ hr tx (freeN tx 1 1000 p2).2 = 58 := ⟨fun z => a3 (Or.inl z), Classical.not_not.mp (fun z => a3 (Or.inr z))⟩
        have d3 := vft_ok (tx := tx) (lst := 1) (most := 1000) (by omega) (by omega) hT k2 (c := 58) rfl a3'
        have w3 : wi (freeN tx 1 1000 p2).1 1 1000 = true := by
          rcases vf (tx := tx) (lst := 1) (most := 1000) (by omega) (by omega) hT k2 with ⟨-, h, -⟩ | ⟨h, -⟩
          · exact h
          · exact absurd h a3'.1
        have e3 : (q3 tx p).1 = (freeN tx 1 1000 p2).1 := by unfold q3; rw [e2']; exact d3.1
        have e3' : tkF tx 58 (q3 tx p).2 = ((freeN tx 1 1000 p2).2 + 1, none) := by unfold q3; rw [e2']; exact d3.2
        have k3 : (freeN tx 1 1000 p2).2 + 1 ≤ 500 := ps_le hT a3'.2 (by decide)
        have g3 : p2 < (freeN tx 1 1000 p2).2 + 1 := Nat.lt_succ_of_le freeN_ge
        rw [← e3] at w3 ⊢
        generalize (freeN tx 1 1000 p2).2 + 1 = p3 at e3' k3 g3 ⊢
        unfold cap3
        by_cases a4 : (freeN tx 1 500 p3).1 = -1 ∨ ¬ hr tx (freeN tx 1 500 p3).2 = 58
        · rw [if_pos a4]
          refine Or.inl ⟨rfl, b7 (b4 ?_)⟩
          unfold q4
          rw [e3']
          exact vft_bad (lst := 1) (most := 500) (by omega) (by omega) hT k3 a4
        · rw [if_neg a4]
          have a4' : ¬ (freeN tx 1 500 p3).1 = -1 ∧ hr tx (freeN tx 1 500 p3).2 = 58 := ⟨fun z => a4 (Or.inl z), Classical.not_not.mp (fun z => a4 (Or.inr z))⟩
          have d4 := vft_ok (tx := tx) (lst := 1) (most := 500) (by omega) (by omega) hT k3 (c := 58) rfl a4'
          have w4 : wi (freeN tx 1 500 p3).1 1 500 = true := by
            rcases vf (tx := tx) (lst := 1) (most := 500) (by omega) (by omega) hT k3 with ⟨-, h, -⟩ | ⟨h, -⟩
            · exact h
            · exact absurd h a4'.1
          have e4 : (q4 tx p).1 = (freeN tx 1 500 p3).1 := by unfold q4; rw [e3']; exact d4.1
          have e4' : tkF tx 58 (q4 tx p).2 = ((freeN tx 1 500 p3).2 + 1, none) := by unfold q4; rw [e3']; exact d4.2
          have k4 : (freeN tx 1 500 p3).2 + 1 ≤ 500 := ps_le hT a4'.2 (by decide)
          have g4 : p3 < (freeN tx 1 500 p3).2 + 1 := Nat.lt_succ_of_le freeN_ge
          rw [← e4] at w4 ⊢
          generalize (freeN tx 1 500 p3).2 + 1 = p4 at e4' k4 g4 ⊢
          unfold cap4
          by_cases a5 : hr tx (upD tx p4).2 = 58
          · rw [if_pos a5]
            have d5 := dt_ok (tx := tx) (q := false) (c := 58) (p := p4) ⟨(fun z => nomatch z.1), a5⟩
            have e5 : (q5 tx p).1 = (upD tx p4).1 := by unfold q5; rw [e4']; exact d5.1
            have e5' : tkF tx 58 (q5 tx p).2 = ((upD tx p4).2 + 1, none) := by unfold q5; rw [e4']; exact d5.2
            have k5 : (upD tx p4).2 + 1 ≤ 500 := ps_le hT a5 (by decide)
            have g5 : p4 < (upD tx p4).2 + 1 := Nat.lt_succ_of_le (udF_ge _ _ _ _)
            rw [← e5]
            generalize (upD tx p4).2 + 1 = p5 at e5' k5 g5 ⊢
            unfold se2
            rw [if_neg (show ¬ (true : Bool) = false by decide)]
            show ((se3 tx D (pr1 tx _ p5)).1 = false ∧ _ = some (se3 tx D (pr1 tx _ p5)).2.2) ∨ _
            unfold pr1
            by_cases a6 : (freeN tx 0 999 p5).1 = -1 ∨ ¬ hr tx (freeN tx 0 999 p5).2 = 43
            · rw [if_pos a6]
              unfold se3
              rw [if_pos (Or.inl rfl)]
              refine Or.inl ⟨rfl, b7 (b6 ?_)⟩
              unfold q6
              rw [e5']
              exact vft_bad (lst := 0) (most := 999) (by omega) (by omega) hT k5 a6
            · rw [if_neg a6]
              have a6' : ¬ (freeN tx 0 999 p5).1 = -1 ∧ hr tx (freeN tx 0 999 p5).2 = 43 := ⟨fun z => a6 (Or.inl z), Classical.not_not.mp (fun z => a6 (Or.inr z))⟩
              have d6 := vft_ok (tx := tx) (lst := 0) (most := 999) (by omega) (by omega) hT k5 (c := 43) rfl a6'
              have w6 : wi (freeN tx 0 999 p5).1 0 999 = true := by
                rcases vf (tx := tx) (lst := 0) (most := 999) (by omega) (by omega) hT k5 with ⟨-, h, -⟩ | ⟨h, -⟩
                · exact h
                · exact absurd h a6'.1
              have e6 : (q6 tx p).1 = (freeN tx 0 999 p5).1 := by unfold q6; rw [e5']; exact d6.1
              have e6' : tkF tx 43 (q6 tx p).2 = ((freeN tx 0 999 p5).2 + 1, none) := by unfold q6; rw [e5']; exact d6.2
              have k6 : (freeN tx 0 999 p5).2 + 1 ≤ 500 := ps_le hT a6'.2 (by decide)
              have g6 : p5 < (freeN tx 0 999 p5).2 + 1 := Nat.lt_succ_of_le freeN_ge
              rw [← e6] at w6 ⊢
              generalize (freeN tx 0 999 p5).2 + 1 = p6 at e6' k6 g6 ⊢
              have e7 : q7 tx p = vl tx 0 (nI 0) (nI 99) (p6, none) := by
                unfold q7
                rw [e6']
                rfl
              unfold se3 pr2
              show ((if (!decide ((freeN tx 0 99 p6).1 = -1)) = false ∨ ¬ hr tx (freeN tx 0 99 p6).2 = 10 then (false, D, (freeN tx 0 99 p6).2) else (true, (D.1 + 1, setR D.2.1 D.1 _, D.2.2), (freeN tx 0 99 p6).2 + 1) : Pd).1 = false ∧ _ = some (if (!decide ((freeN tx 0 99 p6).1 = -1)) = false ∨ ¬ hr tx (freeN tx 0 99 p6).2 = 10 then (false, D, (freeN tx 0 99 p6).2) else (true, (D.1 + 1, setR D.2.1 D.1 _, D.2.2), (freeN tx 0 99 p6).2 + 1) : Pd).2.2) ∨ _
              by_cases a7 : (freeN tx 0 99 p6).1 = -1 ∨ ¬ hr tx (freeN tx 0 99 p6).2 = 10
              · have a7' : (!decide ((freeN tx 0 99 p6).1 = -1)) = false ∨ ¬ hr tx (freeN tx 0 99 p6).2 = 10 := a7.elim (fun z => Or.inl (by rw [decide_eq_true z]; rfl)) Or.inr
                rw [if_pos a7']
                refine Or.inl ⟨rfl, ?_⟩
                rw [e7]
                exact vft_bad (lst := 0) (most := 99) (by omega) (by omega) hT k6 a7
              · have a7' : ¬ ((!decide ((freeN tx 0 99 p6).1 = -1)) = false ∨ ¬ hr tx (freeN tx 0 99 p6).2 = 10) := fun z => a7 (z.elim (fun q => Or.inl (of_decide_eq_true (by simpa using q))) Or.inr)
                have a8 : ¬ (freeN tx 0 99 p6).1 = -1 ∧ hr tx (freeN tx 0 99 p6).2 = 10 := ⟨fun z => a7 (Or.inl z), Classical.not_not.mp (fun z => a7 (Or.inr z))⟩
                rw [if_neg a7']
                have d7 := vft_ok (tx := tx) (lst := 0) (most := 99) (by omega) (by omega) hT k6 (c := 10) rfl a8
                have w7 : wi (freeN tx 0 99 p6).1 0 99 = true := by
                  rcases vf (tx := tx) (lst := 0) (most := 99) (by omega) (by omega) hT k6 with ⟨-, h, -⟩ | ⟨h, -⟩
                  · exact h
                  · exact absurd h a8.1
                have g7 : p6 ≤ (freeN tx 0 99 p6).2 := freeN_ge
                have e7n : (vl tx 0 (nI 0) (nI 99) (p6, none)).2.2 = none := by
                  cases hh : (vl tx 0 (nI 0) (nI 99) (p6, none)).2.2 with
                  | none => rfl
                  | some w =>
                    have := d7.2
                    rw [tk_w hh] at this
                    rw [this] at hh
                    cases hh
                rw [e7]
                refine Or.inr ⟨rfl, e7n, d7.2, ?_, w3, w4, w6, by rw [d7.1]; exact w7, ?_, ?_⟩
                · rw [d7.1]
                  rfl
                · show p < (freeN tx 0 99 p6).2 + 1
                  omega
                · exact ps_le hT a8.2 (by decide)
          · rw [if_neg a5]
            unfold se2
            rw [if_pos rfl]
            refine Or.inl ⟨rfl, b7 (b5 ?_)⟩
            unfold q5
            rw [e4']
            exact dt_bad (Or.inr a5)
  · rw [if_pos a1]
    refine Or.inl ⟨rfl, b7 (b1 ?_)⟩
    unfold q1 tkF
    show ((if hr tx (p + 1) = 58 then _ else _ : PSt)).2 = _
    rw [if_neg a1]
end M4
