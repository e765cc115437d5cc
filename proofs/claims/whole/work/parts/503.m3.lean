/-! class and reference read numbers and digits alike -/
theorem nI_subC (a b : Nat) : nI (a + b) - nI b = nI a := by rw [← nI_add, Int32.add_sub_cancel]
theorem nI_mulC (a b : Nat) : nI a * nI b = nI (a * b) := (Int32.ofNat_mul a b).symm
theorem dg_ex {c : Int32} (h : dg c = true) : ∃ i, i < 10 ∧ c = nI (48 + i) := by
  have := wi_to (show wi c 48 57 = true from h)
  rw [show (48 : Int32).toInt = 48 from rfl, show (57 : Int32).toInt = 57 from rfl] at this
  obtain ⟨j, h1, h2, -⟩ := nI_ex (x := c) (by omega)
  obtain ⟨i, rfl⟩ : ∃ i, j = 48 + i := ⟨j - 48, by omega⟩
  exact ⟨i, by omega, h1⟩
theorem dg_nI {i : Nat} (h : i < 10) : dg (nI (48 + i)) = true := by
  have : ∀ i, i < 10 → dg (nI (48 + i)) = true := by decide
  exact this i h
theorem dstep (w i : Nat) : nI w * 10 + nI (48 + i) - 48 = nI (w * 10 + i) := by
  show nI w * nI 10 + nI (48 + i) - nI 48 = _
  rw [nI_mulC, nI_add, show w * 10 + (48 + i) = (w * 10 + i) + 48 by omega, nI_subC]
theorem dstep' (w i : Nat) : 10 * nI w + nI (48 + i) - 48 = nI (w * 10 + i) := by rw [Int32.mul_comm]; exact dstep w i
theorem wi_nI {a l h : Nat} (ha : a < 2 ^ 31) (hl : l < 2 ^ 31) (hh : h < 2 ^ 31) : wi (nI a) (nI l) (nI h) = true ↔ l ≤ a ∧ a ≤ h := by
  unfold wi
  rw [Bool.and_eq_true, Bool.not_eq_true', Bool.not_eq_true', decide_eq_false_iff_not, decide_eq_false_iff_not, nI_ltI ha hl, nI_ltI hh ha]
  omega
theorem or_z {x y : Int32} (h : x ||| y = 0) : x = 0 ∧ y = 0 := by
  have h1 : (x ||| y).toBitVec = 0#32 := by rw [h]; rfl
  rw [Int32.toBitVec_or, BitVec.or_eq_zero_iff] at h1
  exact ⟨Int32.toBitVec_inj.mp (h1.1.trans rfl), Int32.toBitVec_inj.mp (h1.2.trans rfl)⟩
theorem bit_nz : ∀ i, i < 10 → ¬ (1 : Int32) <<< ((nI (48 + i) - 48) &&& 31) = 0 := by decide
section M3
variable {tx : Sq}
theorem ud_ok {j : Nat} {c : Int32} (h48 : 48 ≤ j) (h57 : j ≤ 57) : wi c (nI j + 1) 57 = true ↔ dg c = true ∧ ¬ c ≤ nI j := by
  rw [nI_1]
  constructor
  · intro h
    have q := wi_to h
    rw [nI_toInt (by omega), show (57 : Int32).toInt = 57 from rfl] at q
    obtain ⟨i, rfl, h2, h3⟩ := nI_ex (x := c) (by omega)
    refine ⟨(wi_nI (l := 48) (h := 57) h3 (by omega) (by omega)).mpr (by omega), fun z => ?_⟩
    rw [nI_leI h3 (by omega)] at z
    omega
  · intro h
    obtain ⟨i, hi, rfl⟩ := dg_ex h.1
    have := h.2
    rw [nI_leI (by omega) (by omega)] at this
    exact (wi_nI (h := 57) (by omega) (by omega) (by omega)).mpr (by omega)
theorem ds_ud : ∀ (n k : Nat) (set : Int32) (j c p : Nat), n < k → 48 ≤ j → j ≤ 57 → 57 ≤ n + j → udF tx n set (nI j) p = ((dsF tx k set (nI j) c p).1, (dsF tx k set (nI j) c p).2.2)
  | 0, k, set, j, c, p, hk, h1, h2, h3 => by
    obtain ⟨k', rfl⟩ : ∃ k', k = k' + 1 := ⟨k - 1, by omega⟩
    have hno : ¬ (dg (hr tx p) = true ∧ ¬ hr tx p ≤ nI j) := fun z => by
      obtain ⟨i, hi, e⟩ := dg_ex z.1
      apply z.2
      rw [e, nI_leI (by omega) (by omega)]
      omega
    rw [dsF, if_neg hno]
    rfl
  | n + 1, k, set, j, c, p, hk, h1, h2, h3 => by
    obtain ⟨k', rfl⟩ : ∃ k', k = k' + 1 := ⟨k - 1, by omega⟩
    rw [dsF, udF]
    by_cases hw : wi (hr tx p) (nI j + 1) 57 = true
    · have q := (ud_ok h1 h2).mp hw
      obtain ⟨i, hi, e⟩ := dg_ex q.1
      have q2 := q.2
      rw [e, nI_leI (by omega) (by omega)] at q2
      rw [if_pos hw, if_pos q, e]
      exact ds_ud n k' _ (48 + i) (c + 1) (p + 1) (by omega) (by omega) (by omega) (by omega)
    · rw [if_neg hw, if_neg (fun z => hw ((ud_ok h1 h2).mpr z))]
theorem ds_keep : ∀ (k : Nat) (set last : Int32) (c p : Nat), ¬ set = 0 → ¬ (dsF tx k set last c p).1 = 0
  | 0, _, _, _, _, h => h
  | k + 1, set, last, c, p, h => by
    rw [dsF]
    split
    · exact ds_keep k _ _ _ _ (fun z => h (or_z z).1)
    · exact h
theorem ds_nge : ∀ (k : Nat) (set last : Int32) (c p : Nat), c ≤ (dsF tx k set last c p).2.1
  | 0, _, _, _, _ => Nat.le_refl _
  | k + 1, set, last, c, p => by
    rw [dsF]
    split
    · exact Nat.le_trans (Nat.le_succ _) (ds_nge k _ _ _ _)
    · exact Nat.le_refl _
theorem ds_zero (k : Nat) (last : Int32) (p : Nat) : (dsF tx k 0 last 0 p).1 = 0 ↔ (dsF tx k 0 last 0 p).2.1 = 0 := by
  cases k with
  | zero => exact ⟨fun _ => rfl, fun _ => rfl⟩
  | succ k =>
    rw [dsF]
    split
    · rename_i h
      obtain ⟨i, hi, e⟩ := dg_ex h.1
      have h1 := ds_keep (tx := tx) k ((0 : Int32) ||| (1 <<< ((hr tx p - 48) &&& 31))) (hr tx p) (0 + 1) (p + 1) (fun z => by
        have := (or_z z).2
        rw [e] at this
        exact bit_nz i hi this)
      have h2 := ds_nge (tx := tx) k ((0 : Int32) ||| (1 <<< ((hr tx p - 48) &&& 31))) (hr tx p) (0 + 1) (p + 1)
      exact ⟨fun z => absurd z h1, fun z => by omega⟩
    · exact ⟨fun _ => rfl, fun _ => rfl⟩
/-- digits, then a mark -/
theorem dt_ok {q : Bool} {c : Int32} {p : Nat} (h : ¬ (q = true ∧ (upD tx p).1 = 0) ∧ hr tx (upD tx p).2 = c) : (ds tx q (p, none)).1 = (upD tx p).1 ∧ tkF tx c (ds tx q (p, none)).2 = ((upD tx p).2 + 1, none) := by
  have e : upD tx p = ((dsF tx 501 0 48 0 p).1, (dsF tx 501 0 48 0 p).2.2) := ds_ud 9 501 0 48 0 p (by omega) (by omega) (by omega) (by omega)
  have z := ds_zero (tx := tx) 501 48 p
  rw [e] at h ⊢
  have hn : ¬ (q = true ∧ (dsF tx 501 0 48 0 p).2.1 = 0) := fun w => h.1 ⟨w.1, z.mpr w.2⟩
  show (dsE q (dsF tx 501 0 48 0 p)).1 = _ ∧ tkF tx c (dsE q (dsF tx 501 0 48 0 p)).2 = _
  unfold dsE
  rw [if_neg hn]
  refine ⟨rfl, ?_⟩
  unfold tkF
  exact if_pos h.2
theorem dt_bad {q : Bool} {c : Int32} {p : Nat} (h : (q = true ∧ (upD tx p).1 = 0) ∨ ¬ hr tx (upD tx p).2 = c) : (tkF tx c (ds tx q (p, none)).2).2 = some (upD tx p).2 := by
  have e : upD tx p = ((dsF tx 501 0 48 0 p).1, (dsF tx 501 0 48 0 p).2.2) := ds_ud 9 501 0 48 0 p (by omega) (by omega) (by omega) (by omega)
  have z := ds_zero (tx := tx) 501 48 p
  rw [e] at h ⊢
  show (tkF tx c (dsE q (dsF tx 501 0 48 0 p)).2).2 = _
  unfold dsE
  by_cases hq : q = true ∧ (dsF tx 501 0 48 0 p).2.1 = 0
  · rw [if_pos hq]
    rfl
  · rw [if_neg hq]
    have h2 : ¬ hr tx (dsF tx 501 0 48 0 p).2.2 = c := h.elim (fun w => absurd ⟨w.1, z.mp w.2⟩ hq) id
    unfold tkF
    show ((if hr tx (dsF tx 501 0 48 0 p).2.2 = c then _ else _ : PSt)).2 = _
    rw [if_neg h2]
/-- a number of so many digits -/
def cnR (least most : Int32) (fr : Nat) (r : Option Int32 × Nat) : Int32 × PSt := match r.1 with
  | some u => if wi u least most = true then (u, (r.2, none)) else (-1, (r.2, some fr))
  | none => (-1, (r.2, some r.2))
theorem vlE_wi {d : Nat} {least most : Int32} {fr : Nat} {v : Int32} {n p : Nat} (hn : ¬ (n = 0 ∨ n < d)) : vlE d least most fr v n p = if wi v least most = true then (v, (p, none)) else (-1, (p, some fr)) := by
  unfold vlE wi
  rw [if_neg hn]
  by_cases h1 : v < least
  · rw [if_pos (Or.inl h1), if_neg (by rw [decide_eq_true h1]; simp)]
  · by_cases h2 : most < v
    · rw [if_pos (Or.inr h2), if_neg (by rw [decide_eq_true h2, Bool.not_true, Bool.and_false]; decide)]
    · rw [if_neg (fun z => z.elim h1 h2), if_pos (by rw [decide_eq_false h1, decide_eq_false h2]; rfl)]
theorem vl_cnL {d : Nat} {least most : Int32} {fr : Nat} (hd0 : 0 < d) (hd : d ≤ 4) : ∀ (r k w n p : Nat), r < k → n + r = d → w < 10 ^ n → vlF tx d least most fr k (nI w) n p = cnR least most fr (cnL tx r (nI w) p)
  | 0, k, w, n, p, hk, hr', hw => by
    obtain ⟨k', rfl⟩ : ∃ k', k = k' + 1 := ⟨k - 1, by omega⟩
    rw [vlF, if_neg (fun z => z.2.elim (by omega) (by omega)), vlE_wi (by omega)]
    rfl
  | r + 1, k, w, n, p, hk, hr', hw => by
    obtain ⟨k', rfl⟩ : ∃ k', k = k' + 1 := ⟨k - 1, by omega⟩
    rw [vlF, cnL]
    by_cases h : dg (hr tx p) = true
    · obtain ⟨i, hi, e⟩ := dg_ex h
      have hw5 : w < 100000 := by
        have hn : n = 0 ∨ n = 1 ∨ n = 2 ∨ n = 3 := by omega
        rcases hn with rfl | rfl | rfl | rfl <;> omega
      have h5 : ¬ (100000 : Int32) ≤ nI w := nI_ge (b := 100000) hw5 (by omega)
      rw [if_pos ⟨h, Or.inr (by omega)⟩, if_neg (by omega), if_neg h5, if_pos h, e, dstep', dstep]
      refine vl_cnL hd0 hd r k' _ (n + 1) (p + 1) (by omega) (by omega) ?_
      rw [Nat.pow_succ]
      omega
    · rw [if_neg (fun z => h z.1), if_neg h]
      unfold vlE
      rw [if_pos (by omega)]
      rfl
theorem cnL_nn : ∀ (r w p n : Nat), w < 10 ^ n → n + r ≤ 4 → ∀ u, (cnL tx r (nI w) p).1 = some u → ∃ w', u = nI w' ∧ w' < 10000
  | 0, w, p, n, hw, hn, u, h => by
    injection h with h
    refine ⟨w, h.symm, ?_⟩
    have hn : n = 0 ∨ n = 1 ∨ n = 2 ∨ n = 3 ∨ n = 4 := by omega
    rcases hn with rfl | rfl | rfl | rfl | rfl <;> omega
  | r + 1, w, p, n, hw, hn, u, h => by
    rw [cnL] at h
    by_cases h2 : dg (hr tx p) = true
    · obtain ⟨i, hi, e⟩ := dg_ex h2
      rw [if_pos h2, e, dstep] at h
      refine cnL_nn r _ (p + 1) (n + 1) ?_ (by omega) u h
      rw [Nat.pow_succ]
      omega
    · rw [if_neg h2] at h
      cases h
theorem nI_nm1 {w : Nat} (h : w < 2 ^ 31) : ¬ nI w = -1 := fun z => by
  have := congrArg Int32.toInt z
  rw [nI_toInt h, show (-1 : Int32).toInt = -1 from rfl] at this
  omega
/-- the count of digits, and what the reference makes of it -/
theorem vc {d : Nat} {least most : Int32} {p : Nat} (hd0 : 0 < d) (hd : d ≤ 4) : (¬ (countN tx d least most p).1 = -1 ∧ vl tx d least most (p, none) = ((countN tx d least most p).1, ((countN tx d least most p).2, none)) ∧ ∃ w, (countN tx d least most p).1 = nI w ∧ w < 10000 ∧ wi (nI w) least most = true) ∨ ((countN tx d least most p).1 = -1 ∧ (vl tx d least most (p, none)).1 = -1 ∧ (vl tx d least most (p, none)).2.2 = some (countN tx d least most p).2) := by
  have e : vl tx d least most (p, none) = cnR least most p (cnL tx d 0 p) := vl_cnL hd0 hd d 501 0 0 p (by omega) (by omega) (by omega)
  have nn := cnL_nn (tx := tx) d 0 p 0 (by omega) (by omega)
  rw [e]
  unfold countN cnR
  cases hc : (cnL tx d 0 p).1 with
  | none => exact Or.inr ⟨rfl, rfl, rfl⟩
  | some u =>
    obtain ⟨w, rfl, hw⟩ := nn u hc
    show (¬ (nir (nI w) least most p (cnL tx d 0 p).2).1 = -1 ∧ (if wi (nI w) least most = true then (nI w, ((cnL tx d 0 p).2, none)) else (-1, ((cnL tx d 0 p).2, some p))) = ((nir (nI w) least most p (cnL tx d 0 p).2).1, ((nir (nI w) least most p (cnL tx d 0 p).2).2, none)) ∧ _) ∨ ((nir (nI w) least most p (cnL tx d 0 p).2).1 = -1 ∧ (if wi (nI w) least most = true then (nI w, ((cnL tx d 0 p).2, none)) else (-1, ((cnL tx d 0 p).2, some p)) : Int32 × PSt).1 = -1 ∧ (if wi (nI w) least most = true then (nI w, ((cnL tx d 0 p).2, none)) else (-1, ((cnL tx d 0 p).2, some p)) : Int32 × PSt).2.2 = some (nir (nI w) least most p (cnL tx d 0 p).2).2)
    by_cases hwi : wi (nI w) least most = true
    · have e1 : nir (nI w) least most p (cnL tx d 0 p).2 = (nI w, (cnL tx d 0 p).2) := by unfold nir; rw [if_pos hwi]
      rw [e1, if_pos hwi]
      exact Or.inl ⟨nI_nm1 (by omega), rfl, w, congrArg Prod.fst e1, hw, hwi⟩
    · have e1 : nir (nI w) least most p (cnL tx d 0 p).2 = (-1, p) := by unfold nir; rw [if_neg hwi]
      rw [e1, if_neg hwi]
      exact Or.inr ⟨rfl, rfl, rfl⟩
/-- .. then a mark -/
theorem vct_ok {d : Nat} {least most c : Int32} {p : Nat} (hd0 : 0 < d) (hd : d ≤ 4) (h : ¬ (countN tx d least most p).1 = -1 ∧ hr tx (countN tx d least most p).2 = c) : (vl tx d least most (p, none)).1 = (countN tx d least most p).1 ∧ tkF tx c (vl tx d least most (p, none)).2 = ((countN tx d least most p).2 + 1, none) := by
  rcases vc (tx := tx) (least := least) (most := most) (p := p) hd0 hd with ⟨-, h2, -⟩ | ⟨h1, -⟩
  · rw [h2]
    refine ⟨rfl, ?_⟩
    unfold tkF
    exact if_pos h.2
  · exact absurd h1 h.1
theorem vct_bad {d : Nat} {least most c : Int32} {p : Nat} (hd0 : 0 < d) (hd : d ≤ 4) (h : (countN tx d least most p).1 = -1 ∨ ¬ hr tx (countN tx d least most p).2 = c) : (tkF tx c (vl tx d least most (p, none)).2).2 = some (countN tx d least most p).2 := by
  rcases vc (tx := tx) (least := least) (most := most) (p := p) hd0 hd with ⟨h1, h2, -⟩ | ⟨h1, h2, h3⟩
  · rw [h2]
    have h4 := h.resolve_left h1
    unfold tkF
    show ((if hr tx (countN tx d least most p).2 = c then _ else _ : PSt)).2 = _
    rw [if_neg h4]
  · unfold tkF
    rw [h3]
    exact h3
/-- a number as far as its digits go -/
theorem fn_sim {most : Nat} (hm : most ≤ 1000) (hT : tx.2 ≤ 500) {least : Int32} {fr : Nat} : ∀ (k f p wc wm n : Nat), 501 ≤ k + p → 500 ≤ f + p → p ≤ 500 → 0 < n → 0 < wm → (wc = wm ∨ most < wc ∧ most < wm) → wc < 2000000 → wm < 2000000 → ∃ wc' wm', (fnL tx (nI most) f (nI wc) p).1 = nI wc' ∧ (wc' = wm' ∨ most < wc' ∧ most < wm') ∧ wc' < 2000000 ∧ wm' < 2000000 ∧ vlF tx 0 least (nI most) fr k (nI wm) n p = (if wi (nI wm') least (nI most) = true then (nI wm', ((fnL tx (nI most) f (nI wc) p).2, none)) else (-1, ((fnL tx (nI most) f (nI wc) p).2, some fr)))
  | 0, f, p, wc, wm, n, h1, h2, h3, h4, h5, h6, h7, h8 => by omega
  | k + 1, f, p, wc, wm, n, h1, h2, h3, h4, h5, h6, h7, h8 => by
    rw [vlF]
    by_cases hdg : dg (hr tx p) = true
    · have hlt := dg_lt hdg
      obtain ⟨f', rfl⟩ : ∃ f', f = f' + 1 := ⟨f - 1, by omega⟩
      obtain ⟨i, hi, e⟩ := dg_ex hdg
      have hz : ¬ (0 = 0 ∧ n = 1 ∧ nI wm = 0) := fun z => by
        have := (nI_eq (b := 0) (by omega) (by omega)).mp z.2.2
        omega
      rw [if_pos ⟨hdg, Or.inl rfl⟩, if_neg hz, fnL, if_pos hdg, e, dstep', dstep]
      -- the next numbers
      obtain ⟨wc2, hc2, hc2'⟩ : ∃ wc2, (if nI most < nI wc then nI wc else nI (wc * 10 + i)) = nI wc2 ∧ wc2 = if most < wc then wc else wc * 10 + i := by
        by_cases q : most < wc
        · exact ⟨wc, by rw [if_pos ((nI_ltI (by omega) (by omega)).mpr q)], by rw [if_pos q]⟩
        · exact ⟨wc * 10 + i, by rw [if_neg (fun z => q ((nI_ltI (by omega) (by omega)).mp z))], by rw [if_neg q]⟩
      obtain ⟨wm2, hm2, hm2'⟩ : ∃ wm2, (if 100000 ≤ nI wm then nI wm else nI (wm * 10 + i)) = nI wm2 ∧ wm2 = if 100000 ≤ wm then wm else wm * 10 + i := by
        by_cases q : 100000 ≤ wm
        · exact ⟨wm, if_pos ((nI_leI (a := 100000) (by omega) (by omega)).mpr q), by rw [if_pos q]⟩
        · exact ⟨wm * 10 + i, if_neg (fun z => q ((nI_leI (a := 100000) (by omega) (by omega)).mp z)), by rw [if_neg q]⟩
      rw [hc2, hm2]
      refine fn_sim hm hT k f' (p + 1) wc2 wm2 (n + 1) (by omega) (by omega) (by omega) (by omega) ?_ ?_ ?_ ?_
      · rw [hm2']; split <;> omega
      · rw [hc2', hm2']; split <;> split <;> omega
      · rw [hc2']; split <;> omega
      · rw [hm2']; split <;> omega
    · rw [if_neg (fun z => hdg z.1)]
      have ef : fnL tx (nI most) f (nI wc) p = (nI wc, p) := by
        cases f with
        | zero => rfl
        | succ f => rw [fnL, if_neg hdg]
      rw [ef, vlE_wi (by omega)]
      exact ⟨wc, wm, rfl, h6, h7, h8, rfl⟩
theorem vf {lst most : Nat} (hl : lst ≤ 1) (hm : most ≤ 1000) (hT : tx.2 ≤ 500) {p : Nat} (hp : p ≤ 500) : (¬ (freeN tx (nI lst) (nI most) p).1 = -1 ∧ wi (freeN tx (nI lst) (nI most) p).1 (nI lst) (nI most) = true ∧ (vl tx 0 (nI lst) (nI most) (p, none) = ((freeN tx (nI lst) (nI most) p).1, ((freeN tx (nI lst) (nI most) p).2, none)) ∨ (dg (hr tx (freeN tx (nI lst) (nI most) p).2) = true ∧ (vl tx 0 (nI lst) (nI most) (p, none)).2.2 = some (freeN tx (nI lst) (nI most) p).2))) ∨ ((freeN tx (nI lst) (nI most) p).1 = -1 ∧ (vl tx 0 (nI lst) (nI most) (p, none)).2.2 = some (freeN tx (nI lst) (nI most) p).2) := by
  show (_ ∧ _ ∧ (vlF tx 0 (nI lst) (nI most) p 501 0 0 p = _ ∨ (_ ∧ (vlF tx 0 (nI lst) (nI most) p 501 0 0 p).2.2 = _))) ∨ (_ ∧ (vlF tx 0 (nI lst) (nI most) p 501 0 0 p).2.2 = _)
  have hz0 : ¬ (0 = 0 ∧ (0 : Nat) = 1 ∧ (0 : Int32) = 0) := by omega
  have h100 : ¬ (100000 : Int32) ≤ 0 := by decide
  have hm0 : ¬ nI most < 0 := nI_pos (by omega)
  rw [vlF]
  by_cases hdg : dg (hr tx p) = true
  · obtain ⟨i, hi, e⟩ := dg_ex hdg
    have hlt := dg_lt hdg
    rw [if_pos ⟨hdg, Or.inl rfl⟩, if_neg hz0, if_neg h100]
    by_cases h48 : i = 0
    · subst h48
      have e48 : hr tx p = 48 := e
      rw [e48, show (10 * 0 + 48 - 48 : Int32) = 0 by decide, vlF]
      have hlst : lst = 0 ∨ lst = 1 := by omega
      rcases hlst with rfl | rfl
      · -- a free 0
        have ef : freeN tx (nI 0) (nI most) p = (0, p + 1) := by
          unfold freeN
          rw [if_pos ⟨e48, rfl⟩]
        rw [ef]
        refine Or.inl ⟨show ¬ (0 : Int32) = -1 by decide, (wi_nI (a := 0) (l := 0) (by omega) (by omega) (by omega)).mpr (by omega), ?_⟩
        by_cases h2 : dg (hr tx (p + 1)) = true
        · rw [if_pos ⟨h2, Or.inl rfl⟩, if_pos ⟨rfl, rfl, rfl⟩]
          refine Or.inr ⟨h2, ?_⟩
          rw [if_pos (show nI 0 ≤ 0 by decide)]
        · rw [if_neg (fun z => h2 z.1), vlE_wi (by omega)]
          have hw : wi 0 (nI 0) (nI most) = true := (wi_nI (a := 0) (l := 0) (by omega) (by omega) (by omega)).mpr (by omega)
          rw [if_pos hw]
          exact Or.inl rfl
      · -- no 0 may stand here
        have ef : freeN tx (nI 1) (nI most) p = (-1, p) := by
          unfold freeN
          rw [if_neg (fun z => absurd z.2 (by decide)), if_pos (Or.inr e48)]
        rw [ef]
        refine Or.inr ⟨rfl, ?_⟩
        by_cases h2 : dg (hr tx (p + 1)) = true
        · rw [if_pos ⟨h2, Or.inl rfl⟩, if_pos ⟨rfl, rfl, rfl⟩, if_neg (show ¬ nI 1 ≤ 0 by decide)]
        · rw [if_neg (fun z => h2 z.1), vlE_wi (by omega)]
          have hw : ¬ wi 0 (nI 1) (nI most) = true := fun z => by
            have := (wi_nI (a := 0) (l := 1) (by omega) (by omega) (by omega)).mp z
            omega
          rw [if_neg hw]
    · have e49 : ¬ hr tx p = 48 := fun z => h48 (by
        rw [e] at z
        have := nI_ij (a := 48 + i) (b := 48) (by omega) (by omega) z
        omega)
      have ef : freeN tx (nI lst) (nI most) p = nir (fnL tx (nI most) 500 0 p).1 (nI lst) (nI most) p (fnL tx (nI most) 500 0 p).2 := by
        unfold freeN
        rw [if_neg (fun z => e49 z.1), if_neg (fun z => z.elim (fun q => by rw [hdg] at q; cases q) e49)]
      rw [e, show 10 * (0 : Int32) + nI (48 + i) - 48 = nI i from (dstep' 0 i).trans (by rw [Nat.zero_mul, Nat.zero_add])]
      have efn : fnL tx (nI most) 500 0 p = fnL tx (nI most) 499 (nI i) (p + 1) := by
        rw [fnL, if_pos hdg, if_neg hm0, e, show (0 : Int32) * 10 + nI (48 + i) - 48 = nI i from (dstep 0 i).trans (by rw [Nat.zero_mul, Nat.zero_add])]
      obtain ⟨wc, wm, s1, s2, s3, s4, s5⟩ := fn_sim hm hT (least := nI lst) (fr := p) 500 499 (p + 1) i i (0 + 1) (by omega) (by omega) (by omega) (by omega) (by omega) (Or.inl rfl) (by omega) (by omega)
      rw [s5, ef, efn, s1]
      unfold nir
      have heq : wi (nI wc) (nI lst) (nI most) = true ↔ wi (nI wm) (nI lst) (nI most) = true := by
        rw [wi_nI (by omega) (by omega) (by omega), wi_nI (by omega) (by omega) (by omega)]
        omega
      by_cases hw : wi (nI wc) (nI lst) (nI most) = true
      · have hw2 := heq.mp hw
        have hcm : wc = wm := by
          have := (wi_nI (by omega) (by omega) (by omega)).mp hw
          omega
        subst hcm
        rw [if_pos hw, if_pos hw]
        exact Or.inl ⟨nI_nm1 (by omega), hw, Or.inl rfl⟩
      · have hw2 : ¬ wi (nI wm) (nI lst) (nI most) = true := fun z => hw (heq.mpr z)
        rw [if_neg hw, if_neg hw2]
        exact Or.inr ⟨rfl, rfl⟩
  · have ef : freeN tx (nI lst) (nI most) p = (-1, p) := by
      unfold freeN
      rw [if_neg (fun z => hdg (by rw [z.1]; decide)), if_pos (Or.inl (by simpa using hdg))]
    rw [if_neg (fun z => hdg z.1), ef]
    exact Or.inr ⟨rfl, rfl⟩
theorem vft_ok {lst most : Nat} (hl : lst ≤ 1) (hm : most ≤ 1000) (hT : tx.2 ≤ 500) {p : Nat} (hp : p ≤ 500) {c : Int32} (hc : dg c = false) (h : ¬ (freeN tx (nI lst) (nI most) p).1 = -1 ∧ hr tx (freeN tx (nI lst) (nI most) p).2 = c) : (vl tx 0 (nI lst) (nI most) (p, none)).1 = (freeN tx (nI lst) (nI most) p).1 ∧ tkF tx c (vl tx 0 (nI lst) (nI most) (p, none)).2 = ((freeN tx (nI lst) (nI most) p).2 + 1, none) := by
  rcases vf (tx := tx) hl hm hT hp with ⟨h1, -, h2 | ⟨h2, -⟩⟩ | ⟨h1, -⟩
  · rw [h2]
    refine ⟨rfl, ?_⟩
    unfold tkF
    exact if_pos h.2
  · rw [h.2, hc] at h2
    cases h2
  · exact absurd h1 h.1
theorem vft_bad {lst most : Nat} (hl : lst ≤ 1) (hm : most ≤ 1000) (hT : tx.2 ≤ 500) {p : Nat} (hp : p ≤ 500) {c : Int32} (h : (freeN tx (nI lst) (nI most) p).1 = -1 ∨ ¬ hr tx (freeN tx (nI lst) (nI most) p).2 = c) : (tkF tx c (vl tx 0 (nI lst) (nI most) (p, none)).2).2 = some (freeN tx (nI lst) (nI most) p).2 := by
  rcases vf (tx := tx) hl hm hT hp with ⟨h1, -, h2 | ⟨-, h2⟩⟩ | ⟨-, h2⟩
  · rw [h2]
    have h4 := h.resolve_left h1
    unfold tkF
    show ((if hr tx (freeN tx (nI lst) (nI most) p).2 = c then _ else _ : PSt)).2 = _
    rw [if_neg h4]
  · unfold tkF
    rw [h2]
    exact h2
  · unfold tkF
    rw [h2]
    exact h2
/-- what was wrong stays so -/
theorem tk_w {c : Int32} {s : PSt} {w : Nat} (h : s.2 = some w) : tkF tx c s = s := by unfold tkF; rw [h]
theorem vl_w {d : Nat} {least most : Int32} {s : PSt} {w : Nat} (h : s.2 = some w) : vl tx d least most s = (-1, s) := by unfold vl; rw [h]
theorem ds_w {q : Bool} {s : PSt} {w : Nat} (h : s.2 = some w) : ds tx q s = (0, s) := by unfold ds; rw [h]
theorem tk_ok {c : Int32} {s : PSt} (hc : c ≠ -1) (hT : tx.2 ≤ 500) (h : sOk s) : sOk (tkF tx c s) := by
  obtain ⟨p, o⟩ := s
  cases o with
  | some w => exact h
  | none =>
    have hp : p ≤ 500 := h.1
    unfold tkF
    show sOk (if hr tx p = c then (p + 1, none) else (p, some p))
    by_cases e : hr tx p = c
    · rw [if_pos e]
      have := ps_le hT e hc
      exact ⟨this, fun _ z => nomatch z⟩
    · rw [if_neg e]
      exact ⟨hp, fun w z => by injection z with z; omega⟩
end M3
