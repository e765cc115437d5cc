/-! ranges and hours alike; the reference's lines walked -/
def w1 (tx : Sq) (lk : Int32) (p : Nat) : Int32 × PSt := vl tx 4 (lk + 1) 9999 (p + 1, none)
def w2 (tx : Sq) (lk : Int32) (p : Nat) : Int32 × PSt := vl tx 4 (w1 tx lk p).1 9999 (tkF tx 45 (w1 tx lk p).2)
def w3 (tx : Sq) (lk : Int32) (p : Nat) : Int32 × PSt := vl tx 1 1 9 (tkF tx 58 (w2 tx lk p).2)
def h1 (tx : Sq) (p : Nat) : Int32 × PSt := vl tx 2 0 23 (tkF tx 58 (p + 2, none))
def h2 (tx : Sq) (p : Nat) : Int32 × PSt := vl tx 2 ((h1 tx p).1 + 1) 24 (tkF tx 45 (h1 tx p).2)
section M5
variable {tx : Sq} {p : Nat}
theorem vn_ok {d : Nat} {least most c : Int32} {s : PSt} {q : Nat} (h : tkF tx c (vl tx d least most s).2 = (q, none)) : (vl tx d least most s).2.2 = none := by
  cases hh : (vl tx d least most s).2.2 with
  | none => rfl
  | some w =>
    rw [tk_w hh] at h
    rw [h] at hh
    cases hh
theorem rg_sim (hT : tx.2 ≤ 500) {D : Dst} (hp : p + 1 ≤ 500) :
    ((rdR tx D p).1 = false ∧ (tkF tx 10 (w3 tx D.2.2.2.2.2.2 p).2).2 = some (rdR tx D p).2.2) ∨ ((rdR tx D p).1 = true ∧ (w3 tx D.2.2.2.2.2.2 p).2.2 = none ∧ tkF tx 10 (w3 tx D.2.2.2.2.2.2 p).2 = ((rdR tx D p).2.2, none) ∧ (rdR tx D p).2.1 = (D.1, D.2.1, D.2.2.1 + 1, (if D.2.2.1 < 8 then upd D.2.2.2.1 D.2.2.1 (w1 tx D.2.2.2.2.2.2 p).1 else D.2.2.2.1), (if D.2.2.1 < 8 then upd D.2.2.2.2.1 D.2.2.1 (w2 tx D.2.2.2.2.2.2 p).1 else D.2.2.2.2.1), (if D.2.2.1 < 8 then upd D.2.2.2.2.2.1 D.2.2.1 (w3 tx D.2.2.2.2.2.2 p).1 else D.2.2.2.2.2.1), (w2 tx D.2.2.2.2.2.2 p).1) ∧ wi (w3 tx D.2.2.2.2.2.2 p).1 1 9 = true ∧ p < (rdR tx D p).2.2 ∧ (rdR tx D p).2.2 ≤ 500) := by
  generalize hlk : D.2.2.2.2.2.2 = lk
  unfold rdR
  rw [hlk]
  by_cases a1 : (countN tx 4 (lk + 1) 9999 (p + 1)).1 = -1 ∨ ¬ hr tx (countN tx 4 (lk + 1) 9999 (p + 1)).2 = 45
  · rw [if_pos a1]
    refine Or.inl ⟨rfl, ?_⟩
    have e : (tkF tx 45 (w1 tx lk p).2).2 = some (countN tx 4 (lk + 1) 9999 (p + 1)).2 := vct_bad (by omega) (by omega) a1
    have e2 : w2 tx lk p = (-1, tkF tx 45 (w1 tx lk p).2) := vl_w e
    have e3 : w3 tx lk p = (-1, tkF tx 45 (w1 tx lk p).2) := by
      unfold w3
      rw [e2, tk_w e]
      exact vl_w e
    rw [e3, tk_w e]
    exact e
  · rw [if_neg a1]
    have a1' : ¬ (countN tx 4 (lk + 1) 9999 (p + 1)).1 = -1 ∧ hr tx (countN tx 4 (lk + 1) 9999 (p + 1)).2 = 45 := ⟨fun z => a1 (Or.inl z), Classical.not_not.mp (fun z => a1 (Or.inr z))⟩
    have d1 := vct_ok (tx := tx) (by omega) (by omega) a1'
    have e1 : (w1 tx lk p).1 = (countN tx 4 (lk + 1) 9999 (p + 1)).1 := d1.1
    have e1' : tkF tx 45 (w1 tx lk p).2 = ((countN tx 4 (lk + 1) 9999 (p + 1)).2 + 1, none) := d1.2
    have k1 : (countN tx 4 (lk + 1) 9999 (p + 1)).2 + 1 ≤ 500 := ps_le hT a1'.2 (by decide)
    have g1 : p + 1 < (countN tx 4 (lk + 1) 9999 (p + 1)).2 + 1 := Nat.lt_succ_of_le (countN_ge hT)
    rw [← e1]
    generalize (countN tx 4 (lk + 1) 9999 (p + 1)).2 + 1 = p1 at e1' k1 g1 ⊢
    unfold rg2
    by_cases a2 : (countN tx 4 (w1 tx lk p).1 9999 p1).1 = -1 ∨ ¬ hr tx (countN tx 4 (w1 tx lk p).1 9999 p1).2 = 58
    · rw [if_pos a2]
      refine Or.inl ⟨rfl, ?_⟩
      have e : (tkF tx 58 (w2 tx lk p).2).2 = some (countN tx 4 (w1 tx lk p).1 9999 p1).2 := by
        unfold w2
        rw [e1']
        exact vct_bad (by omega) (by omega) a2
      have e3 : w3 tx lk p = (-1, tkF tx 58 (w2 tx lk p).2) := vl_w e
      rw [e3, tk_w e]
      exact e
    · rw [if_neg a2]
      have a2' : ¬ (countN tx 4 (w1 tx lk p).1 9999 p1).1 = -1 ∧ hr tx (countN tx 4 (w1 tx lk p).1 9999 p1).2 = 58 := ⟨fun z => a2 (Or.inl z), Classical.not_not.mp (fun z => a2 (Or.inr z))⟩
      have d2 := vct_ok (tx := tx) (by omega) (by omega) a2'
      have e2 : (w2 tx lk p).1 = (countN tx 4 (w1 tx lk p).1 9999 p1).1 := by unfold w2; rw [e1']; exact d2.1
      have e2' : tkF tx 58 (w2 tx lk p).2 = ((countN tx 4 (w1 tx lk p).1 9999 p1).2 + 1, none) := by unfold w2; rw [e1']; exact d2.2
      have k2 : (countN tx 4 (w1 tx lk p).1 9999 p1).2 + 1 ≤ 500 := ps_le hT a2'.2 (by decide)
      have g2 : p1 < (countN tx 4 (w1 tx lk p).1 9999 p1).2 + 1 := Nat.lt_succ_of_le (countN_ge hT)
      rw [← e2]
      generalize (countN tx 4 (w1 tx lk p).1 9999 p1).2 + 1 = p2 at e2' k2 g2 ⊢
      have e3 : w3 tx lk p = vl tx 1 1 9 (p2, none) := by unfold w3; rw [e2']
      unfold rg3
      by_cases a3 : (countN tx 1 1 9 p2).1 = -1 ∨ ¬ hr tx (countN tx 1 1 9 p2).2 = 10
      · rw [if_pos a3]
        refine Or.inl ⟨rfl, ?_⟩
        rw [e3]
        exact vct_bad (by omega) (by omega) a3
      · rw [if_neg a3]
        have a3' : ¬ (countN tx 1 1 9 p2).1 = -1 ∧ hr tx (countN tx 1 1 9 p2).2 = 10 := ⟨fun z => a3 (Or.inl z), Classical.not_not.mp (fun z => a3 (Or.inr z))⟩
        have d3 := vct_ok (tx := tx) (by omega) (by omega) a3'
        have wz : wi (countN tx 1 1 9 p2).1 1 9 = true := by
          rcases vc (tx := tx) (d := 1) (least := 1) (most := 9) (p := p2) (by omega) (by omega) with ⟨-, -, w, hw, -, hh⟩ | ⟨h, -⟩
          · rw [hw]; exact hh
          · exact absurd h a3'.1
        have g3 : p2 ≤ (countN tx 1 1 9 p2).2 := countN_ge hT
        rw [e3]
        refine Or.inr ⟨rfl, vn_ok d3.2, d3.2, ?_, by rw [d3.1]; exact wz, ?_, ps_le hT a3'.2 (by decide)⟩
        · rw [d3.1]
        · show p < (countN tx 1 1 9 p2).2 + 1
          omega
theorem ho_sim (hT : tx.2 ≤ 500) {D : Dst} {j : Nat} (hf : fndF D.2.1 (hr tx (p + 1)) D.1 0 = some j) (h8 : ¬ 0 < D.2.1 j 8) (hp : p + 2 ≤ 500) :
    ((rdH tx D p).1 = false ∧ (tkF tx 10 (h2 tx p).2).2 = some (rdH tx D p).2.2) ∨ ((rdH tx D p).1 = true ∧ (h2 tx p).2.2 = none ∧ tkF tx 10 (h2 tx p).2 = ((rdH tx D p).2.2, none) ∧ (rdH tx D p).2.1 = (D.1, setR D.2.1 j (upd (upd (D.2.1 j) 7 (h1 tx p).1) 8 (h2 tx p).1), D.2.2) ∧ (∃ x y : Nat, (h1 tx p).1 = nI x ∧ (h2 tx p).1 = nI y ∧ x < y ∧ y ≤ 24) ∧ p < (rdH tx D p).2.2 ∧ (rdH tx D p).2.2 ≤ 500) := by
  unfold rdH
  rw [hf, ho1, if_neg h8]
  by_cases a0 : hr tx (p + 2) = 58
  · have e0 : tkF tx 58 (p + 2, none) = (p + 3, none) := by
      unfold tkF
      exact if_pos a0
    have k0 : p + 3 ≤ 500 := ps_le hT a0 (by decide)
    rw [if_neg (fun z => z a0)]
    have e1 : h1 tx p = vl tx 2 0 23 (p + 3, none) := by unfold h1; rw [e0]
    unfold ho2
    by_cases a1 : (countN tx 2 0 23 (p + 3)).1 = -1 ∨ ¬ hr tx (countN tx 2 0 23 (p + 3)).2 = 45
    · rw [if_pos a1]
      refine Or.inl ⟨rfl, ?_⟩
      have e : (tkF tx 45 (h1 tx p).2).2 = some (countN tx 2 0 23 (p + 3)).2 := by
        rw [e1]
        exact vct_bad (by omega) (by omega) a1
      have e2 : h2 tx p = (-1, tkF tx 45 (h1 tx p).2) := vl_w e
      rw [e2, tk_w e]
      exact e
    · rw [if_neg a1]
      have a1' : ¬ (countN tx 2 0 23 (p + 3)).1 = -1 ∧ hr tx (countN tx 2 0 23 (p + 3)).2 = 45 := ⟨fun z => a1 (Or.inl z), Classical.not_not.mp (fun z => a1 (Or.inr z))⟩
      have d1 := vct_ok (tx := tx) (by omega) (by omega) a1'
      have v1 : ∃ x, (countN tx 2 0 23 (p + 3)).1 = nI x ∧ x ≤ 23 := by
        rcases vc (tx := tx) (d := 2) (least := 0) (most := 23) (p := p + 3) (by omega) (by omega) with ⟨-, -, w, hw, hw2, hh⟩ | ⟨h, -⟩
        · exact ⟨w, hw, ((wi_nI (l := 0) (h := 23) (by omega) (by omega) (by omega)).mp hh).2⟩
        · exact absurd h a1'.1
      have e1v : (h1 tx p).1 = (countN tx 2 0 23 (p + 3)).1 := by rw [e1]; exact d1.1
      have e1' : tkF tx 45 (h1 tx p).2 = ((countN tx 2 0 23 (p + 3)).2 + 1, none) := by rw [e1]; exact d1.2
      have k1 : (countN tx 2 0 23 (p + 3)).2 + 1 ≤ 500 := ps_le hT a1'.2 (by decide)
      have g1 : p + 3 < (countN tx 2 0 23 (p + 3)).2 + 1 := Nat.lt_succ_of_le (countN_ge hT)
      rw [← e1v] at v1 ⊢
      generalize (countN tx 2 0 23 (p + 3)).2 + 1 = p1 at e1' k1 g1 ⊢
      obtain ⟨x, hx, hx23⟩ := v1
      have e2 : h2 tx p = vl tx 2 ((h1 tx p).1 + 1) 24 (p1, none) := by unfold h2; rw [e1']
      unfold ho3
      by_cases a2 : (countN tx 2 ((h1 tx p).1 + 1) 24 p1).1 = -1 ∨ ¬ hr tx (countN tx 2 ((h1 tx p).1 + 1) 24 p1).2 = 10
      · rw [if_pos a2]
        refine Or.inl ⟨rfl, ?_⟩
        rw [e2]
        exact vct_bad (by omega) (by omega) a2
      · rw [if_neg a2]
        have a2' : ¬ (countN tx 2 ((h1 tx p).1 + 1) 24 p1).1 = -1 ∧ hr tx (countN tx 2 ((h1 tx p).1 + 1) 24 p1).2 = 10 := ⟨fun z => a2 (Or.inl z), Classical.not_not.mp (fun z => a2 (Or.inr z))⟩
        have d2 := vct_ok (tx := tx) (by omega) (by omega) a2'
        have v2 : ∃ y, (countN tx 2 ((h1 tx p).1 + 1) 24 p1).1 = nI y ∧ x < y ∧ y ≤ 24 := by
          rcases vc (tx := tx) (d := 2) (least := (h1 tx p).1 + 1) (most := 24) (p := p1) (by omega) (by omega) with ⟨-, -, w, hw, hw2, hh⟩ | ⟨h, -⟩
          · rw [hx, nI_1] at hh
            have := (wi_nI (h := 24) (by omega) (by omega) (by omega)).mp hh
            exact ⟨w, hw, by omega, by omega⟩
          · exact absurd h a2'.1
        obtain ⟨y, hy, hxy, hy24⟩ := v2
        have g2 : p1 ≤ (countN tx 2 ((h1 tx p).1 + 1) 24 p1).2 := countN_ge hT
        rw [e2]
        refine Or.inr ⟨rfl, vn_ok d2.2, d2.2, ?_, ⟨x, y, hx, by rw [d2.1]; exact hy, hxy, hy24⟩, ?_, ps_le hT a2'.2 (by decide)⟩
        · rw [d2.1]
        · show p < (countN tx 2 ((h1 tx p).1 + 1) 24 p1).2 + 1
          omega
  · rw [if_pos a0]
    refine Or.inl ⟨rfl, ?_⟩
    have e0 : tkF tx 58 (p + 2, none) = (p + 2, some (p + 2)) := by
      unfold tkF
      exact if_neg a0
    have e1 : h1 tx p = (-1, (p + 2, some (p + 2))) := by unfold h1; rw [e0]; exact vl_w rfl
    have e2 : h2 tx p = (-1, (p + 2, some (p + 2))) := by
      unfold h2
      rw [e1, tk_w rfl]
      exact vl_w rfl
    rw [e2]
    rfl
end M5
/-- a row of the reference is another -/
def stA (ar : Ar) (k : Nat) (F : Fw) : Ar := fun l => if l = k then F else ar l
theorem upA_st {ar : Ar} {k i : Nat} {x : Int32} : upA ar k i x = stA ar k (upd (ar k) i x) := rfl
theorem stA_st {ar : Ar} {k i : Nat} {x : Int32} {F : Fw} : upA (stA ar k F) k i x = stA ar k (upd F i x) := by
  funext l
  unfold upA stA
  by_cases e : l = k
  · rw [if_pos e, if_pos e, if_pos rfl]
  · rw [if_neg e, if_neg e, if_neg e]
theorem stA_s {ar : Ar} {k : Nat} {F : Fw} : stA ar k F k = F := if_pos rfl
theorem stA_n {ar : Ar} {k l : Nat} {F : Fw} (h : l ≠ k) : stA ar k F l = ar l := if_neg h
theorem scP_o {sc : Fw} {s : PSt} {k : Nat} {x : Int32} (h20 : k ≠ 20) (h21 : k ≠ 21) : upd (scP sc s) k x = scP (upd sc k x) s := by
  funext j
  unfold scP upd
  by_cases e : j = k
  · subst e
    rw [if_pos rfl, if_neg h21, if_neg h20, if_pos rfl]
  · rw [if_neg e]
    by_cases e1 : j = 21
    · rw [if_pos e1, if_pos e1]
    · rw [if_neg e1, if_neg e1]
      by_cases e2 : j = 20
      · rw [if_pos e2, if_pos e2]
      · rw [if_neg e2, if_neg e2, if_neg e]
def ns8 (F : Fw) (k : Nat) (x0 x1 x2 x3 x4 x5 x6 x7 : Int32) : Fw := upd (upd (upd (upd (upd (upd (upd (upd F (8 * k) x0) (8 * k + 1) x1) (8 * k + 2) x2) (8 * k + 3) x3) (8 * k + 4) x4) (8 * k + 5) x5) (8 * k + 6) x6) (8 * k + 7) x7
theorem ns8_o {F : Fw} {k y : Nat} {x0 x1 x2 x3 x4 x5 x6 x7 : Int32} (h : y < 8 * k) : ns8 F k x0 x1 x2 x3 x4 x5 x6 x7 y = F y := by
  unfold ns8 upd
  rw [if_neg (by omega), if_neg (by omega), if_neg (by omega), if_neg (by omega), if_neg (by omega), if_neg (by omega), if_neg (by omega), if_neg (by omega)]
section M5b
variable {g : GG} {m0 m : Mm} {a : Nat} {B : Nat → Nat} {sc : Fw} {ar : Ar} {tx : Sq} {p : Nat}
theorem q_ok (hT : tx.2 ≤ 500) (hp : p + 1 ≤ 500) : sOk (q1 tx p) ∧ sOk (q2 tx p).2 ∧ sOk (q3 tx p).2 ∧ sOk (q4 tx p).2 ∧ sOk (q5 tx p).2 ∧ sOk (q6 tx p).2 ∧ sOk (q7 tx p).2 := by
  have a1 : sOk (q1 tx p) := tk_ok (by decide) hT ⟨hp, fun _ z => nomatch z⟩
  have a2 : sOk (q2 tx p).2 := ds_ok hT a1
  have a3 : sOk (q3 tx p).2 := vl_ok hT (tk_ok (by decide) hT a2)
  have a4 : sOk (q4 tx p).2 := vl_ok hT (tk_ok (by decide) hT a3)
  have a5 : sOk (q5 tx p).2 := ds_ok hT (tk_ok (by decide) hT a4)
  have a6 : sOk (q6 tx p).2 := vl_ok hT (tk_ok (by decide) hT a5)
  exact ⟨a1, a2, a3, a4, a5, a6, vl_ok hT (tk_ok (by decide) hT a6)⟩
set_option maxRecDepth 20000 in
set_option maxHeartbeats 1000000 in
theorem c_M_service (hg : GO g) (hM : Md g m0 m a B (scP sc (p, none)) ar) (hT : RQ (sc 2) (ar 1) tx 500) {D : Dst} (hD : DM sc ar D p) (hc : wi (hr tx p) 65 90 = true) : CT g m_M_service 2 47 0 0 [.ref a] m (Lq g m0 a B sc ar tx (rdS tx D p)) := by
  have hT2 := hT.2.1
  obtain ⟨c1, c2, c3, c4, c5, c6, c7, c8, c9⟩ := hD
  have hp1 : p + 1 ≤ 500 := by
    have : hr tx p ≠ -1 := fun z => by rw [z] at hc; exact absurd hc (by decide)
    have := hr_lt this
    omega
  obtain ⟨o1, o2, o3, o4, o5, o6, o7⟩ := q_ok (tx := tx) hT2 hp1
  refine CT_go (lo := [(0, .ref a)]) rfl rfl rfl rfl hg ?_
  first | refine V_aload_n d_M_service_0 rfl rfl ?_ | refine V_aloadN_n d_M_service_0 rfl rfl ?_
  refine VcallV cb_M_here mv_M_116 rfl (ci := 6) rfl rfl d_M_service_1 (c_M_here hg hM hT c5) ⟨by decide, by decide⟩ rfl hM.1 rfl (Nat.le_of_ble_eq_true rfl) (fun _ _ h => nomatch h.1) (fun v m2 hR => ?_)
  obtain ⟨hv9, e9⟩ := hR
  cases hv9
  subst m2
  refine V_istore_n d_M_service_4 rfl rfl ?_
  first | refine V_aload_n d_M_service_5 rfl rfl ?_ | refine V_aloadN_n d_M_service_5 rfl rfl ?_
  refine V_iload_n d_M_service_6 rfl rfl ?_
  refine VcallV cb_M_toldAt mv_M_129 rfl (ci := 6) rfl rfl d_M_service_7 (c_M_toldAt hg hM (v := D.2.1) c1 c2 (fun j hj => ((c7 j hj).1.1 0 (by omega))) _) ⟨by decide, by decide⟩ rfl hM.1 rfl (Nat.le_of_ble_eq_true rfl) (fun _ _ h => nomatch h.1) (fun v m2 hR => ?_)
  obtain ⟨hv9, e9⟩ := hR
  cases hv9
  subst m2
  cases hf : fndF D.2.1 (hr tx p) D.1 0 with
  | some j =>
    have hj := fndF_some hf
    have er : rdS tx D p = (false, D, p) := by
      unfold rdS
      rw [if_pos (Or.inr (fun z => by rw [hf] at z; cases z))]
    refine V_if_lt (tgt := 22) d_M_service_10 (by decide) (fun h_10 => ?_) (fun h_10 => ?_)
    · exact absurd h_10 (show ¬ nI j < 0 from nI_pos (by omega))
    · first | refine V_aload_n d_M_service_13 rfl rfl ?_ | refine V_aloadN_n d_M_service_13 rfl rfl ?_
      first | refine V_aload_n d_M_service_14 rfl rfl ?_ | refine V_aloadN_n d_M_service_14 rfl rfl ?_
      refine Vget fl_M_71 d_M_service_15 hM.1 rfl ?_
      refine ek_v (P := fun z => V g m_M_service 2 47 0 0 _ _ z _ _) (show _ = [Value.int (nI p), .ref a] from rfl) ?_
      refine VcallV cb_M_fail mv_M_120 rfl (ci := 6) rfl rfl d_M_service_18 (c_M_fail hg hM ⟨c5, fun _ z => nomatch z⟩ p) ⟨by decide, by decide⟩ rfl hM.1 rfl (Nat.le_of_ble_eq_true rfl) (fun _ _ h => nomatch h.1) (fun v m2 hR => ?_)
      obtain ⟨hv9, hM⟩ := hR
      cases hv9
      refine V_vret d_M_service_21 rfl ⟨rfl, sc, ar, _, hM, kS_rf, kA_rf, ⟨c5, fun w z => by injection z with z; omega⟩, Or.inr ⟨by rw [er], ?_⟩⟩
      rw [er]
      rfl
  | none =>
    have hnew := fndF_none hf
    have hk : D.1 < 26 := pigL (v := D.2.1) (fun i hi => (c7 i hi).2.1) c8 hc (fun i hi => hnew i (Nat.zero_le _) (by omega))
    have hsim := sv_sim (tx := tx) hT2 (D := D) c5 (fun z => z.elim (fun q => by rw [hc] at q; cases q) (fun q => q hf))
    refine V_if_lt (tgt := 22) d_M_service_10 (by decide) (fun h_10 => ?_) (fun h_10 => ?_)
    · refine V_bipush (v := 8) d_M_service_22 (by decide) ?_
      first | refine V_aload_n d_M_service_24 rfl rfl ?_ | refine V_aloadN_n d_M_service_24 rfl rfl ?_
      refine Vget fl_M_77 d_M_service_25 hM.1 rfl ?_
      refine V_imul d_M_service_28 ?_
      refine ek_v (P := fun z => V g m_M_service 2 47 0 0 _ _ z _ _) (show _ = [Value.int (nI (8 * D.1))] by rw [← nI8, ← c1]; rfl) ?_
      refine V_istore_n d_M_service_29 rfl rfl ?_
      first | refine V_aload_n d_M_service_30 rfl rfl ?_ | refine V_aloadN_n d_M_service_30 rfl rfl ?_
      refine V_dup d_M_service_31 rfl ?_
      refine Vget fl_M_71 d_M_service_32 hM.1 rfl ?_
      refine V_iconst (v := 1) d_M_service_35 (by decide) ?_
      refine V_iadd d_M_service_36 ?_
      refine ek_v (P := fun z => V g m_M_service 2 47 0 0 _ _ z _ _) (show _ = [Value.int (nI (p + 1)), .ref a] by rw [← nI_1]; rfl) ?_
      refine Mput (k := 20) pl_M_71 d_M_service_37 hM rfl rfl (fun m hM => ?_)
      rw [scP_at] at hM
      first | refine V_aload_n d_M_service_40 rfl rfl ?_ | refine V_aloadN_n d_M_service_40 rfl rfl ?_
      refine V_bipush (v := 58) d_M_service_41 (by decide) ?_
      refine VcallV cb_M_take mv_M_133 rfl (ci := 6) rfl rfl d_M_service_43 (c_M_take hg hM hT ⟨hp1, fun _ z => nomatch z⟩ 58) ⟨by decide, by decide⟩ rfl hM.1 rfl (Nat.le_of_ble_eq_true rfl) (fun _ _ h => nomatch h.1) (fun v m2 hR => ?_)
      obtain ⟨hv9, hM⟩ := hR
      cases hv9
      first | refine V_aload_n d_M_service_46 rfl rfl ?_ | refine V_aloadN_n d_M_service_46 rfl rfl ?_
      refine V_iconst (v := 1) d_M_service_47 (by decide) ?_
      refine VcallV cb_M_digits mv_M_136 rfl (ci := 6) rfl rfl d_M_service_48 (c_M_digits hg hM hT o1 true) ⟨by decide, by decide⟩ rfl hM.1 rfl (Nat.le_of_ble_eq_true rfl) (fun _ _ h => nomatch h.1) (fun v m2 hR => ?_)
      obtain ⟨hv9, hM⟩ := hR
      cases hv9
      refine V_istore_n d_M_service_51 rfl rfl ?_
      first | refine V_aload_n d_M_service_52 rfl rfl ?_ | refine V_aloadN_n d_M_service_52 rfl rfl ?_
      refine V_bipush (v := 58) d_M_service_53 (by decide) ?_
      refine VcallV cb_M_take mv_M_133 rfl (ci := 6) rfl rfl d_M_service_55 (c_M_take hg hM hT o2 58) ⟨by decide, by decide⟩ rfl hM.1 rfl (Nat.le_of_ble_eq_true rfl) (fun _ _ h => nomatch h.1) (fun v m2 hR => ?_)
      obtain ⟨hv9, hM⟩ := hR
      cases hv9
      first | refine V_aload_n d_M_service_58 rfl rfl ?_ | refine V_aloadN_n d_M_service_58 rfl rfl ?_
      refine V_iconst (v := 0) d_M_service_59 (by decide) ?_
      refine V_iconst (v := 1) d_M_service_60 (by decide) ?_
      refine V_sipush (v := 1000) d_M_service_61 (by decide) ?_
      refine VcallV cb_M_value mv_M_140 rfl (ci := 6) rfl rfl d_M_service_64 (c_M_value (d := 0) hg hM hT (tk_ok (by decide) hT2 o2) (by omega) 1 1000) ⟨by decide, by decide⟩ rfl hM.1 rfl (Nat.le_of_ble_eq_true rfl) (fun _ _ h => nomatch h.1) (fun v m2 hR => ?_)
      obtain ⟨hv9, hM⟩ := hR
      cases hv9
      refine V_istore d_M_service_67 rfl ?_
      first | refine V_aload_n d_M_service_69 rfl rfl ?_ | refine V_aloadN_n d_M_service_69 rfl rfl ?_
      refine V_bipush (v := 58) d_M_service_70 (by decide) ?_
      refine VcallV cb_M_take mv_M_133 rfl (ci := 6) rfl rfl d_M_service_72 (c_M_take hg hM hT o3 58) ⟨by decide, by decide⟩ rfl hM.1 rfl (Nat.le_of_ble_eq_true rfl) (fun _ _ h => nomatch h.1) (fun v m2 hR => ?_)
      obtain ⟨hv9, hM⟩ := hR
      cases hv9
      first | refine V_aload_n d_M_service_75 rfl rfl ?_ | refine V_aloadN_n d_M_service_75 rfl rfl ?_
      refine V_iconst (v := 0) d_M_service_76 (by decide) ?_
      refine V_iconst (v := 1) d_M_service_77 (by decide) ?_
      refine V_sipush (v := 500) d_M_service_78 (by decide) ?_
      refine VcallV cb_M_value mv_M_140 rfl (ci := 6) rfl rfl d_M_service_81 (c_M_value (d := 0) hg hM hT (tk_ok (by decide) hT2 o3) (by omega) 1 500) ⟨by decide, by decide⟩ rfl hM.1 rfl (Nat.le_of_ble_eq_true rfl) (fun _ _ h => nomatch h.1) (fun v m2 hR => ?_)
      obtain ⟨hv9, hM⟩ := hR
      cases hv9
      refine V_istore d_M_service_84 rfl ?_
      first | refine V_aload_n d_M_service_86 rfl rfl ?_ | refine V_aloadN_n d_M_service_86 rfl rfl ?_
      refine V_bipush (v := 58) d_M_service_87 (by decide) ?_
      refine VcallV cb_M_take mv_M_133 rfl (ci := 6) rfl rfl d_M_service_89 (c_M_take hg hM hT o4 58) ⟨by decide, by decide⟩ rfl hM.1 rfl (Nat.le_of_ble_eq_true rfl) (fun _ _ h => nomatch h.1) (fun v m2 hR => ?_)
      obtain ⟨hv9, hM⟩ := hR
      cases hv9
      first | refine V_aload_n d_M_service_92 rfl rfl ?_ | refine V_aloadN_n d_M_service_92 rfl rfl ?_
      refine V_iconst (v := 0) d_M_service_93 (by decide) ?_
      refine VcallV cb_M_digits mv_M_136 rfl (ci := 6) rfl rfl d_M_service_94 (c_M_digits hg hM hT (tk_ok (by decide) hT2 o4) false) ⟨by decide, by decide⟩ rfl hM.1 rfl (Nat.le_of_ble_eq_true rfl) (fun _ _ h => nomatch h.1) (fun v m2 hR => ?_)
      obtain ⟨hv9, hM⟩ := hR
      cases hv9
      refine V_istore d_M_service_97 rfl ?_
      first | refine V_aload_n d_M_service_99 rfl rfl ?_ | refine V_aloadN_n d_M_service_99 rfl rfl ?_
      refine V_bipush (v := 58) d_M_service_100 (by decide) ?_
      refine VcallV cb_M_take mv_M_133 rfl (ci := 6) rfl rfl d_M_service_102 (c_M_take hg hM hT o5 58) ⟨by decide, by decide⟩ rfl hM.1 rfl (Nat.le_of_ble_eq_true rfl) (fun _ _ h => nomatch h.1) (fun v m2 hR => ?_)
      obtain ⟨hv9, hM⟩ := hR
      cases hv9
      first | refine V_aload_n d_M_service_105 rfl rfl ?_ | refine V_aloadN_n d_M_service_105 rfl rfl ?_
      refine V_iconst (v := 0) d_M_service_106 (by decide) ?_
      refine V_iconst (v := 0) d_M_service_107 (by decide) ?_
      refine V_sipush (v := 999) d_M_service_108 (by decide) ?_
      refine VcallV cb_M_value mv_M_140 rfl (ci := 6) rfl rfl d_M_service_111 (c_M_value (d := 0) hg hM hT (tk_ok (by decide) hT2 o5) (by omega) 0 999) ⟨by decide, by decide⟩ rfl hM.1 rfl (Nat.le_of_ble_eq_true rfl) (fun _ _ h => nomatch h.1) (fun v m2 hR => ?_)
      obtain ⟨hv9, hM⟩ := hR
      cases hv9
      refine V_istore d_M_service_114 rfl ?_
      first | refine V_aload_n d_M_service_116 rfl rfl ?_ | refine V_aloadN_n d_M_service_116 rfl rfl ?_
      refine V_bipush (v := 43) d_M_service_117 (by decide) ?_
      refine VcallV cb_M_take mv_M_133 rfl (ci := 6) rfl rfl d_M_service_119 (c_M_take hg hM hT o6 43) ⟨by decide, by decide⟩ rfl hM.1 rfl (Nat.le_of_ble_eq_true rfl) (fun _ _ h => nomatch h.1) (fun v m2 hR => ?_)
      obtain ⟨hv9, hM⟩ := hR
      cases hv9
      first | refine V_aload_n d_M_service_122 rfl rfl ?_ | refine V_aloadN_n d_M_service_122 rfl rfl ?_
      refine V_iconst (v := 0) d_M_service_123 (by decide) ?_
      refine V_iconst (v := 0) d_M_service_124 (by decide) ?_
      refine V_bipush (v := 99) d_M_service_125 (by decide) ?_
      refine VcallV cb_M_value mv_M_140 rfl (ci := 6) rfl rfl d_M_service_127 (c_M_value (d := 0) hg hM hT (tk_ok (by decide) hT2 o6) (by omega) 0 99) ⟨by decide, by decide⟩ rfl hM.1 rfl (Nat.le_of_ble_eq_true rfl) (fun _ _ h => nomatch h.1) (fun v m2 hR => ?_)
      obtain ⟨hv9, hM⟩ := hR
      cases hv9
      change Md g m0 _ a B (scP sc (q7 tx p).2) ar at hM
      refine V_istore (x := (q7 tx p).1) d_M_service_130 rfl ?_
      refine V_lo [(0, .ref a), (1, .int (hr tx p)), (2, .int (nI (8 * D.1))), (3, .int (q2 tx p).1), (4, .int (q3 tx p).1), (5, .int (q4 tx p).1), (6, .int (q5 tx p).1), (7, .int (q6 tx p).1), (8, .int (q7 tx p).1)] ⟨rfl, rfl, rfl, rfl, rfl, rfl, rfl, rfl, rfl, trivial⟩ ?_
      cases ho : (q7 tx p).2.2 with
      | some w =>
        have e21 : (scP sc (q7 tx p).2) 21 = nI w := by
          show mw (q7 tx p).2.2 = _
          rw [ho]
          rfl
        first | refine V_aload_n d_M_service_132 rfl rfl ?_ | refine V_aloadN_n d_M_service_132 rfl rfl ?_
        refine Vget fl_M_74 d_M_service_133 hM.1 rfl ?_
        refine V_if_lt (tgt := 140) d_M_service_136 (by decide) (fun h_136 => ?_) (fun h_136 => ?_)
        · rw [e21] at h_136
          exact absurd h_136 (nI_pos (by have := o7.2 w ho; omega))
        · refine V_vret d_M_service_139 rfl ⟨rfl, sc, ar, _, hM, kS_rf, kA_rf, o7, ?_⟩
          rcases hsim with ⟨z1, z2⟩ | ⟨-, z2, -⟩
          · exact Or.inr ⟨z1, z2⟩
          · rw [ho] at z2
            cases z2
      | none =>
        have e21 : (scP sc (q7 tx p).2) 21 = -1 := by
          show mw (q7 tx p).2.2 = _
          rw [ho]
          rfl
        first | refine V_aload_n d_M_service_132 rfl rfl ?_ | refine V_aloadN_n d_M_service_132 rfl rfl ?_
        refine Vget fl_M_74 d_M_service_133 hM.1 rfl ?_
        refine V_if_lt (tgt := 140) d_M_service_136 (by decide) (fun h_136 => ?_) (fun h_136 => ?_)
        · have i0 : vp_in (nI (8 * D.1)) 208 := vp_nI (by omega) (by omega)
          first | refine V_aload_n d_M_service_140 rfl rfl ?_ | refine V_aloadN_n d_M_service_140 rfl rfl ?_
          refine Vget fl_M_80 d_M_service_141 hM.1 rfl ?_
          refine V_iload_n d_M_service_144 rfl rfl ?_
          refine V_iload_n d_M_service_145 rfl rfl ?_
          refine Miast d_M_service_146 hM (by decide) (by assumption) (fun m hM => ?_)
          rw [nI_clamp (by omega), upA_st] at hM
          have i1 : vp_in (nI (8 * D.1 + 1)) 208 := vp_nI (by omega) (by omega)
          first | refine V_aload_n d_M_service_147 rfl rfl ?_ | refine V_aloadN_n d_M_service_147 rfl rfl ?_
          refine Vget fl_M_80 d_M_service_148 hM.1 rfl ?_
          refine V_iload_n d_M_service_151 rfl rfl ?_
          refine V_iconst (v := 1) d_M_service_152 (by decide) ?_
          refine V_iadd d_M_service_153 ?_
          rw [show nI (8 * D.1) + 1 = nI (8 * D.1 + 1) from nI_add _ 1]
          refine V_iload_n d_M_service_154 rfl rfl ?_
          refine Miast d_M_service_155 hM (by decide) (by assumption) (fun m hM => ?_)
          rw [nI_clamp (by omega), stA_st] at hM
          have i2 : vp_in (nI (8 * D.1 + 2)) 208 := vp_nI (by omega) (by omega)
          first | refine V_aload_n d_M_service_156 rfl rfl ?_ | refine V_aloadN_n d_M_service_156 rfl rfl ?_
          refine Vget fl_M_80 d_M_service_157 hM.1 rfl ?_
          refine V_iload_n d_M_service_160 rfl rfl ?_
          refine V_iconst (v := 2) d_M_service_161 (by decide) ?_
          refine V_iadd d_M_service_162 ?_
          rw [show nI (8 * D.1) + 2 = nI (8 * D.1 + 2) from nI_add _ 2]
          refine V_iload d_M_service_163 rfl ?_
          refine Miast d_M_service_165 hM (by decide) (by assumption) (fun m hM => ?_)
          rw [nI_clamp (by omega), stA_st] at hM
          have i3 : vp_in (nI (8 * D.1 + 3)) 208 := vp_nI (by omega) (by omega)
          first | refine V_aload_n d_M_service_166 rfl rfl ?_ | refine V_aloadN_n d_M_service_166 rfl rfl ?_
          refine Vget fl_M_80 d_M_service_167 hM.1 rfl ?_
          refine V_iload_n d_M_service_170 rfl rfl ?_
          refine V_iconst (v := 3) d_M_service_171 (by decide) ?_
          refine V_iadd d_M_service_172 ?_
          rw [show nI (8 * D.1) + 3 = nI (8 * D.1 + 3) from nI_add _ 3]
          refine V_iload d_M_service_173 rfl ?_
          refine Miast d_M_service_175 hM (by decide) (by assumption) (fun m hM => ?_)
          rw [nI_clamp (by omega), stA_st] at hM
          have i4 : vp_in (nI (8 * D.1 + 4)) 208 := vp_nI (by omega) (by omega)
          first | refine V_aload_n d_M_service_176 rfl rfl ?_ | refine V_aloadN_n d_M_service_176 rfl rfl ?_
          refine Vget fl_M_80 d_M_service_177 hM.1 rfl ?_
          refine V_iload_n d_M_service_180 rfl rfl ?_
          refine V_iconst (v := 4) d_M_service_181 (by decide) ?_
          refine V_iadd d_M_service_182 ?_
          rw [show nI (8 * D.1) + 4 = nI (8 * D.1 + 4) from nI_add _ 4]
          refine V_iload d_M_service_183 rfl ?_
          refine Miast d_M_service_185 hM (by decide) (by assumption) (fun m hM => ?_)
          rw [nI_clamp (by omega), stA_st] at hM
          have i5 : vp_in (nI (8 * D.1 + 5)) 208 := vp_nI (by omega) (by omega)
          first | refine V_aload_n d_M_service_186 rfl rfl ?_ | refine V_aloadN_n d_M_service_186 rfl rfl ?_
          refine Vget fl_M_80 d_M_service_187 hM.1 rfl ?_
          refine V_iload_n d_M_service_190 rfl rfl ?_
          refine V_iconst (v := 5) d_M_service_191 (by decide) ?_
          refine V_iadd d_M_service_192 ?_
          rw [show nI (8 * D.1) + 5 = nI (8 * D.1 + 5) from nI_add _ 5]
          refine V_iload d_M_service_193 rfl ?_
          refine Miast d_M_service_195 hM (by decide) (by assumption) (fun m hM => ?_)
          rw [nI_clamp (by omega), stA_st] at hM
          have i6 : vp_in (nI (8 * D.1 + 6)) 208 := vp_nI (by omega) (by omega)
          first | refine V_aload_n d_M_service_196 rfl rfl ?_ | refine V_aloadN_n d_M_service_196 rfl rfl ?_
          refine Vget fl_M_80 d_M_service_197 hM.1 rfl ?_
          refine V_iload_n d_M_service_200 rfl rfl ?_
          refine V_bipush (v := 6) d_M_service_201 (by decide) ?_
          refine V_iadd d_M_service_203 ?_
          rw [show nI (8 * D.1) + 6 = nI (8 * D.1 + 6) from nI_add _ 6]
          refine V_iload d_M_service_204 rfl ?_
          refine Miast d_M_service_206 hM (by decide) (by assumption) (fun m hM => ?_)
          rw [nI_clamp (by omega), stA_st] at hM
          have i7 : vp_in (nI (8 * D.1 + 7)) 208 := vp_nI (by omega) (by omega)
          first | refine V_aload_n d_M_service_207 rfl rfl ?_ | refine V_aloadN_n d_M_service_207 rfl rfl ?_
          refine Vget fl_M_80 d_M_service_208 hM.1 rfl ?_
          refine V_iload_n d_M_service_211 rfl rfl ?_
          refine V_bipush (v := 7) d_M_service_212 (by decide) ?_
          refine V_iadd d_M_service_214 ?_
          rw [show nI (8 * D.1) + 7 = nI (8 * D.1 + 7) from nI_add _ 7]
          refine V_iconst (v := -1) d_M_service_215 (by decide) ?_
          refine Miast d_M_service_216 hM (by decide) (by assumption) (fun m hM => ?_)
          rw [nI_clamp (by omega), stA_st] at hM
          first | refine V_aload_n d_M_service_217 rfl rfl ?_ | refine V_aloadN_n d_M_service_217 rfl rfl ?_
          refine V_dup d_M_service_218 rfl ?_
          refine Vget fl_M_77 d_M_service_219 hM.1 rfl ?_
          refine V_iconst (v := 1) d_M_service_222 (by decide) ?_
          refine V_iadd d_M_service_223 ?_
          refine ek_v (P := fun z => V g m_M_service 2 47 0 0 _ _ z _ _) (show _ = [Value.int (nI (D.1 + 1)), .ref a] by rw [← nI_1, ← c1]; rfl) ?_
          refine Mput (k := 22) pl_M_77 d_M_service_224 hM rfl rfl (fun m hM => ?_)
          rw [scP_o (by decide) (by decide)] at hM
          change Md g m0 m a B (scP (upd sc 22 (nI (D.1 + 1))) (q7 tx p).2) (stA ar 23 (ns8 (ar 23) D.1 (hr tx p) (q2 tx p).1 (q3 tx p).1 (q4 tx p).1 (q5 tx p).1 (q6 tx p).1 (q7 tx p).1 (-1))) at hM
          refine V_vret d_M_service_227 rfl ⟨rfl, _, _, _, hM, ?_, ?_, o7, ?_⟩
          · intro i e1 e2 e3 e4 e5
            exact if_neg e3
          · intro k e1 e2 e3 e4
            exact stA_n e1
          · rcases hsim with ⟨z1, z2⟩ | ⟨z1, -, z3, z4, z5, z6, z7, z8, z9, z10⟩
            · exact Or.inr ⟨z1, z2⟩
            · refine Or.inl ⟨z1, z3, ?_⟩
              rw [z4]
              refine ⟨rfl, hk, c3, Nat.le_trans c4 (Nat.le_of_lt z9), z10, c6, fun j hj => ?_, fun x y hx hy e => ?_, fun j hj hj8 => ?_⟩
              · have hj' : j < D.1 + 1 := hj
                show NSv _ j (setR D.2.1 D.1 _ j) ∧ SvOk (setR D.2.1 D.1 _ j)
                unfold setR
                by_cases e : j = D.1
                · subst e
                  rw [if_pos rfl]
                  refine ⟨⟨fun i hi => ?_, fun z => absurd z (show ¬ (0 : Int32) < 0 by decide), fun _ => ?_⟩, hc, z5, z6, z7, z8⟩
                  · rw [stA_s]
                    have hii : i = 0 ∨ i = 1 ∨ i = 2 ∨ i = 3 ∨ i = 4 ∨ i = 5 ∨ i = 6 := by omega
                    unfold ns8 upd
                    rcases hii with rfl | rfl | rfl | rfl | rfl | rfl | rfl <;> simp
                  · rw [stA_s]
                    unfold ns8 upd
                    rw [if_pos rfl]
                · rw [if_neg e]
                  obtain ⟨⟨n1, n2, n3⟩, n4⟩ := c7 j (by omega)
                  refine ⟨⟨fun i hi => ?_, fun z => ?_, fun z => ?_⟩, n4⟩
                  · rw [stA_s, ns8_o (by omega)]
                    exact n1 i hi
                  · rw [stA_s, ns8_o (by omega)]
                    exact n2 z
                  · rw [stA_s, ns8_o (by omega)]
                    exact n3 z
              · have hx' : x < D.1 + 1 := hx
                have hy' : y < D.1 + 1 := hy
                have e' : setR D.2.1 D.1 (upd (upd (upd (upd (upd (upd (upd (fun _ => 0) 0 (hr tx p)) 1 (q2 tx p).1) 2 (q3 tx p).1) 3 (q4 tx p).1) 4 (q5 tx p).1) 5 (q6 tx p).1) 6 (q7 tx p).1) x 0 = setR D.2.1 D.1 (upd (upd (upd (upd (upd (upd (upd (fun _ => 0) 0 (hr tx p)) 1 (q2 tx p).1) 2 (q3 tx p).1) 3 (q4 tx p).1) 4 (q5 tx p).1) 5 (q6 tx p).1) 6 (q7 tx p).1) y 0 := e
                unfold setR at e'
                split at e' <;> split at e'
                · omega
                · exact absurd e'.symm (hnew y (Nat.zero_le _) (by omega))
                · exact absurd e' (hnew x (Nat.zero_le _) (by omega))
                · exact c8 x y (by omega) (by omega) e'
              · rw [stA_n (by decide), stA_n (by decide), stA_n (by decide)]
                exact c9 j hj hj8
        · rw [e21] at h_136
          exact absurd (show (-1 : Int32) < 0 by decide) h_136
    · exact absurd (show (-1 : Int32) < 0 by decide) h_10
end M5b
