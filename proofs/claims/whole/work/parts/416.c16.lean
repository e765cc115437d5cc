/-! a text is kept -/
section C16
variable {g : GG} {mm m' : Mm} {A : Nat → Nat} {E : Nat → Nat → Nat} {col : Nat → Nat} {tx lb pr : Sq} {n : Nat} {day : Int32} {len : Nat} {ft : Fw} {ed : Nat → Edd}
theorem CR_mem (h : CR g mm A E col tx lb pr n day len ft ed) : (∀ r, r < 12 → A r ∈ mm.2) ∧ (∀ i r, i ≤ n → r < 5 → E i r ∈ mm.2) ∧ ∀ i j, i < n → j < (ed i).1 → E i (5 + j) ∈ mm.2 := by
  obtain ⟨⟨a1, a2, a3, a4⟩, h2, h3, h4, ⟨k1, k2, ⟨f, k3⟩, k4⟩, ⟨⟨p, lk, d1⟩, ⟨k, q, d, d2⟩, ⟨rf, d3⟩, f1, f2, f3, d4⟩, h7⟩ := h
  refine ⟨fun r hr => ?_, fun i r hi hr => ?_, fun i j hi hj => ?_⟩
  · have hrr : r = 0 ∨ r = 1 ∨ r = 2 ∨ r = 3 ∨ r = 4 ∨ r = 5 ∨ r = 6 ∨ r = 7 ∨ r = 8 ∨ r = 9 ∨ r = 10 ∨ r = 11 := by omega
    rcases hrr with rfl | rfl | rfl | rfl | rfl | rfl | rfl | rfl | rfl | rfl | rfl | rfl
    · exact a1.1
    · exact h2.1.1
    · exact h2.2.1.1
    · exact h3.1.1
    · exact h3.2.1.1
    · exact h4.1.1
    · exact h4.2.1.1
    · exact d1.1
    · exact k1.1
    · exact k2.1
    · exact k3.1
    · exact a3.1
  · have hrr : r = 0 ∨ r = 1 ∨ r = 2 ∨ r = 3 ∨ r = 4 := by omega
    rcases Nat.lt_or_ge i n with q | q
    · obtain ⟨b1, ⟨rf, b2, b3, b4⟩, b5, b6, b7⟩ := a4 i q
      rcases hrr with rfl | rfl | rfl | rfl | rfl
      · exact b1.1
      · exact b2.1
      · exact b5.1.1
      · exact b5.2.1.1
      · exact b5.2.2.1
    · obtain rfl : i = n := by omega
      rcases hrr with rfl | rfl | rfl | rfl | rfl
      · exact d2.1
      · exact d3.1
      · exact d4.1.1
      · exact d4.2.1.1
      · exact d4.2.2.1
  · obtain ⟨b1, ⟨rf, b2, b3, b4⟩, b5, b6, b7⟩ := a4 i hi
    exact (b4 j hj).2.1
def n5 (e sa fa la za r : Nat) : Nat := if r = 0 then e else if r = 1 then sa else if r = 2 then fa else if r = 3 then la else za
def colN (mm : Mm) (col : Nat → Nat) (n e sa fa la za : Nat) (sv : Nat → Nat) (k : Nat) (b : Nat) : Nat := if b ∈ mm.2 then col b else if b = e then 100 * (n + 2) else if b = sa then 100 * (n + 2) + 1 else if b = fa then 100 * (n + 2) + 2 else if b = la then 100 * (n + 2) + 3 else if b = za then 100 * (n + 2) + 4 else 100 * (n + 1) + 5 + ixF sv k b
def eN (E : Nat → Nat → Nat) (n : Nat) (sv : Nat → Nat) (e sa fa la za : Nat) (i r : Nat) : Nat := if i = n then (if r < 5 then E n r else sv (r - 5)) else if i = n + 1 then n5 e sa fa la za r else E i r
set_option maxHeartbeats 1000000 in
theorem CR_keep {m2 m3 : Mm} {k q p : Nat} {lk d0 dy : Int32} {sv : Nat → Nat} {v : Nat → Fw} {f1 f2 f3 : Fw} {rf : Nat → Option Nat} (h0 : CR g mm A E col tx lb pr n day len ft ed) (hmm : ∀ b, b ∈ mm.2 → b ∈ m2.2) {t0 : Sq} (h : CR g m2 A E col t0 lb pr n day len ft ed)
    (hE : Ob m2 (E n 0) 0 (edL (E n 1) (E n 2) (E n 3) (E n 4) k q d0)) (hS : Svs g m2 (E n 1) k rf sv v) (hR : Rgs g m2 (E n 2) (E n 3) (E n 4) f1 f2 f3) (hk : k ≤ 8) (hq : q ≤ 8) (hi : ∀ i j, i < k → j < k → sv i = sv j → i = j) (hnew : ∀ j, j < k → sv j ∉ mm.2) (hn : n < 4) (hN : RdN g m2 (A 7) (A 1) p lk m3) :
    ∃ E' col', CR g (kpM g m3 A (E n 0) (E n 1) (E n 2) (E n 3) (E n 4) k q n dy day (fun i => if i < n then some (E i 0) else none)) A E' col' t0 lb pr (n + 1) day 0 ft (edU ed n (k, v, q, f1, f2, f3, dy)) ∧ Fr (fun b => col b < 900) m2 (kpM g m3 A (E n 0) (E n 1) (E n 2) (E n 3) (E n 4) k q n dy day (fun i => if i < n then some (E i 0) else none)) ∧ ∀ b, b ∈ mm.2 → col' b = col b := by
  obtain ⟨M1, M2, M3⟩ := CR_mem h0
  obtain ⟨⟨a1, a2, a3, a4⟩, h2, h3, h4, ⟨k1, k2, ⟨fk, k3⟩, k4⟩, -, h7⟩ := h
  obtain ⟨e, sa, fa, la, za, r1, r2, r3, r4, ⟨r5, r6, r7⟩, ⟨s1, s2, s3, s4, s5⟩, r8⟩ := hN
  have hlt : ∀ r, r < 5 → col (E n r) = 100 * (n + 1) + r := fun r hr => h7.2.1 n r (Nat.le_refl _) hr
  -- the cells that change
  have hSm : ∀ b, (b = A 7 ∨ b = E n 0 ∨ b = A 11 ∨ b = A 0 ∨ b = A 8) → b ∈ mm.2 := fun b hb => by
    rcases hb with rfl | rfl | rfl | rfl | rfl
    · exact M1 7 (by omega)
    · exact M2 n 0 (Nat.le_refl _) (by omega)
    · exact M1 11 (by omega)
    · exact M1 0 (by omega)
    · exact M1 8 (by omega)
  have hF4 : Fr (fun b => b = E n 0 ∨ b = A 11 ∨ b = A 0 ∨ b = A 8) m3 (kpM g m3 A (E n 0) (E n 1) (E n 2) (E n 3) (E n 4) k q n dy day (fun i => if i < n then some (E i 0) else none)) := Fr_up (Fr_up (Fr_up (Fr_up Fr_rf (Or.inl rfl)) (Or.inr (Or.inl rfl))) (Or.inr (Or.inr (Or.inl rfl)))) (Or.inr (Or.inr (Or.inr rfl)))
  have hF : Fr (fun b => b = A 7 ∨ b = E n 0 ∨ b = A 11 ∨ b = A 0 ∨ b = A 8) m2 (kpM g m3 A (E n 0) (E n 1) (E n 2) (E n 3) (E n 4) k q n dy day (fun i => if i < n then some (E i 0) else none)) := Fr_tr (Fr_mono r8 (fun b z => Or.inl z)) hF4 (fun b _ z => Or.inr z)
  have cA : ∀ r, r < 12 → r ≠ 7 → r ≠ 11 → r ≠ 0 → r ≠ 8 → ¬ (A r = A 7 ∨ A r = E n 0 ∨ A r = A 11 ∨ A r = A 0 ∨ A r = A 8) := fun r hr n1 n2 n3 n4 z => by
    have z' : col (A r) = col (A 7) ∨ col (A r) = col (E n 0) ∨ col (A r) = col (A 11) ∨ col (A r) = col (A 0) ∨ col (A r) = col (A 8) := by
      rcases z with z | z | z | z | z <;> rw [z] <;> simp
    rw [h7.1 r hr, h7.1 7 (by omega), h7.1 11 (by omega), h7.1 0 (by omega), h7.1 8 (by omega), hlt 0 (by omega)] at z'
    omega
  have cX : ∀ b, 100 ≤ col b → col b ≠ 100 * (n + 1) → ¬ (b = A 7 ∨ b = E n 0 ∨ b = A 11 ∨ b = A 0 ∨ b = A 8) := fun b h1 h2 z => by
    rcases z with rfl | rfl | rfl | rfl | rfl
    · rw [h7.1 7 (by omega)] at h1; omega
    · exact h2 (hlt 0 (by omega))
    · rw [h7.1 11 (by omega)] at h1; omega
    · rw [h7.1 0 (by omega)] at h1; omega
    · rw [h7.1 8 (by omega)] at h1; omega
  have cS : ∀ b, b ∉ mm.2 → ¬ (b = A 7 ∨ b = E n 0 ∨ b = A 11 ∨ b = A 0 ∨ b = A 8) := fun b hb z => hb (hSm b z)
  have cT : ∀ b, b ∉ m2.2 → ¬ (b = E n 0 ∨ b = A 11 ∨ b = A 0 ∨ b = A 8) := fun b hb z => hb (hmm b (hSm b (Or.inr z)))
  have n70 : A 7 ≠ E n 0 ∧ A 7 ≠ A 11 ∧ A 7 ≠ A 0 ∧ A 7 ≠ A 8 := by
    refine ⟨fun z => ?_, fun z => ?_, fun z => ?_, fun z => ?_⟩ <;> have z' := congrArg col z
    · rw [h7.1 7 (by omega), hlt 0 (by omega)] at z'; omega
    · rw [h7.1 7 (by omega), h7.1 11 (by omega)] at z'; omega
    · rw [h7.1 7 (by omega), h7.1 0 (by omega)] at z'; omega
    · rw [h7.1 7 (by omega), h7.1 8 (by omega)] at z'; omega
  have n08 : A 0 ≠ A 8 := fun z => by
    have z' := congrArg col z
    rw [h7.1 0 (by omega), h7.1 8 (by omega)] at z'; omega
  have n0e : A 0 ≠ E n 0 := fun z => by
    have z' := congrArg col z
    rw [h7.1 0 (by omega), hlt 0 (by omega)] at z'; omega
  have n0q : A 0 ≠ A 11 := Ob_neQ a1 a3
  have neq : E n 0 ≠ A 11 := Ob_neQ hE a3
  have n8q : A 8 ≠ A 11 := Ob_neQ k1 a3
  have n8e : A 8 ≠ E n 0 := fun z => by
    have z' := congrArg col z
    rw [h7.1 8 (by omega), hlt 0 (by omega)] at z'; omega
  -- the cells at m3
  have x0 : Ob m3 (A 0) 5 (ctL A n day) := Ob_f a1 r8 (fun z => n70.2.2.1 z.symm)
  have x11 : Qa g m3 3 (A 11) 4 (fun i => if i < n then some (E i 0) else none) := Qa_f a3 r8 (fun z => n70.2.1 z.symm)
  have xe : Ob m3 (E n 0) 0 (edL (E n 1) (E n 2) (E n 3) (E n 4) k q d0) := Ob_f hE r8 (fun z => n70.1 z.symm)
  have x8 : Ob m3 (A 8) 1 [.ref (A 9), .ref (A 10), .int (nI len)] := Ob_f k1 r8 (fun z => n70.2.2.2 z.symm)
  have y0 : Ob (kpM g m3 A (E n 0) (E n 1) (E n 2) (E n 3) (E n 4) k q n dy day (fun i => if i < n then some (E i 0) else none)) (A 0) 5 (ctL A (n + 1) day) := Ob_n (Ob_s (Ob_n (Ob_n x0 n0e) n0q)) n08
  have y11 : Qa g (kpM g m3 A (E n 0) (E n 1) (E n 2) (E n 3) (E n 4) k q n dy day (fun i => if i < n then some (E i 0) else none)) 3 (A 11) 4 (va_up (fun i => if i < n then some (E i 0) else none) n (some (E n 0))) := Qa_n (Qa_n (Qa_s (Qa_n x11 (Ne.symm neq))) (Ne.symm n0q)) (Ne.symm n8q)
  have ye : Ob (kpM g m3 A (E n 0) (E n 1) (E n 2) (E n 3) (E n 4) k q n dy day (fun i => if i < n then some (E i 0) else none)) (E n 0) 0 (edL (E n 1) (E n 2) (E n 3) (E n 4) k q dy) := Ob_n (Ob_n (Ob_n (Ob_s xe) neq) (Ne.symm n0e)) (Ne.symm n8e)
  have y8 : Ob (kpM g m3 A (E n 0) (E n 1) (E n 2) (E n 3) (E n 4) k q n dy day (fun i => if i < n then some (E i 0) else none)) (A 8) 1 [.ref (A 9), .ref (A 10), .int (nI 0)] := Ob_s (Ob_n (Ob_n (Ob_n x8 n8e) n8q) (Ne.symm n08))
  generalize kpM g m3 A (E n 0) (E n 1) (E n 2) (E n 3) (E n 4) k q n dy day (fun i => if i < n then some (E i 0) else none) = m4 at hF4 hF y0 y11 ye y8 ⊢
  have cE : ∀ r, r < 5 → r ≠ 0 → ¬ (E n r = A 7 ∨ E n r = E n 0 ∨ E n r = A 11 ∨ E n r = A 0 ∨ E n r = A 8) := fun r hr h0' => cX _ (by rw [hlt r hr]; omega) (by rw [hlt r hr]; omega)
  have cI : ∀ i r, i < n → r < 5 → ¬ (E i r = A 7 ∨ E i r = E n 0 ∨ E i r = A 11 ∨ E i r = A 0 ∨ E i r = A 8) := fun i r hi' hr => cX _ (by rw [h7.2.1 i r (by omega) hr]; omega) (by rw [h7.2.1 i r (by omega) hr]; omega)
  refine ⟨eN E n sv e sa fa la za, colN mm col n e sa fa la za sv k, ⟨⟨y0, by omega, ?_, fun i hi' => ?_⟩, Sgm_f h2 hF (cA 1 (by omega) (by omega) (by omega) (by omega) (by omega)) (cA 2 (by omega) (by omega) (by omega) (by omega) (by omega)), Sgm_f h3 hF (cA 3 (by omega) (by omega) (by omega) (by omega) (by omega)) (cA 4 (by omega) (by omega) (by omega) (by omega) (by omega)), Sgm_f h4 hF (cA 5 (by omega) (by omega) (by omega) (by omega) (by omega)) (cA 6 (by omega) (by omega) (by omega) (by omega) (by omega)), ⟨y8, Ia_f k2 hF (cA 9 (by omega) (by omega) (by omega) (by omega) (by omega)), ⟨fk, Ia_f k3 hF (cA 10 (by omega) (by omega) (by omega) (by omega) (by omega))⟩, Nat.zero_le _⟩, ?_, ?_⟩, ?_, fun b hb => if_pos hb⟩
  · -- the row of editions
    have ef : va_up (fun i => if i < n then some (E i 0) else none) n (some (E n 0)) = (fun i => if i < n + 1 then some (eN E n sv e sa fa la za i 0) else none) := by
      funext i
      by_cases e1 : i = n
      · subst e1
        rw [va_up_self, if_pos (by omega)]
        unfold eN
        rw [if_pos rfl, if_pos (by omega)]
      · rw [va_up_ne _ _ e1]
        show (if i < n then some (E i 0) else none) = _
        by_cases e2 : i < n
        · rw [if_pos e2, if_pos (by omega)]
          unfold eN
          rw [if_neg e1, if_neg (by omega)]
        · rw [if_neg e2, if_neg (by omega)]
    rw [← ef]
    exact y11
  · -- an edition
    by_cases e1 : i = n
    · subst e1
      have u5 : ∀ r, r < 5 → eN E i sv e sa fa la za i r = E i r := fun r hr => by unfold eN; rw [if_pos rfl, if_pos hr]
      have u6 : ∀ j, eN E i sv e sa fa la za i (5 + j) = sv j := fun j => by unfold eN; rw [if_pos rfl, if_neg (by omega), Nat.add_sub_cancel_left]
      show EdK g m4 (eN E i sv e sa fa la za i) (edU ed i (k, v, q, f1, f2, f3, dy) i)
      rw [show edU ed i (k, v, q, f1, f2, f3, dy) i = (k, v, q, f1, f2, f3, dy) from if_pos rfl]
      unfold EdK
      rw [u5 0 (by omega), u5 1 (by omega), u5 2 (by omega), u5 3 (by omega), u5 4 (by omega)]
      refine ⟨ye, ⟨rf, Qa_f hS.1 hF (cE 1 (by omega) (by omega)), hS.2.1, fun j hj => ?_⟩, ⟨Ia_f hR.1 hF (cE 2 (by omega) (by omega)), Ia_f hR.2.1 hF (cE 3 (by omega) (by omega)), Ia_f hR.2.2 hF (cE 4 (by omega) (by omega))⟩, hq, hk⟩
      show rf j = some (eN E i sv e sa fa la za i (5 + j)) ∧ Ob m4 (eN E i sv e sa fa la za i (5 + j)) 3 (svL (v j))
      rw [u6]
      exact ⟨(hS.2.2 j hj).1, Ob_f (hS.2.2 j hj).2 hF (cS _ (hnew j hj))⟩
    · have hi2 : i < n := by omega
      have ue : eN E n sv e sa fa la za i = E i := funext fun r => by unfold eN; rw [if_neg e1, if_neg (by omega)]
      rw [ue, show edU ed n (k, v, q, f1, f2, f3, dy) i = ed i from if_neg e1]
      obtain ⟨b1, ⟨rf', b2, b3, b4⟩, b5, b6, b7⟩ := a4 i hi2
      refine ⟨Ob_f b1 hF (cI i 0 hi2 (by omega)), ⟨rf', Qa_f b2 hF (cI i 1 hi2 (by omega)), b3, fun j hj => ⟨(b4 j hj).1, Ob_f (b4 j hj).2 hF ?_⟩⟩, ⟨Ia_f b5.1 hF (cI i 2 hi2 (by omega)), Ia_f b5.2.1 hF (cI i 3 hi2 (by omega)), Ia_f b5.2.2 hF (cI i 4 hi2 (by omega))⟩, b6, b7⟩
      exact cX _ (by rw [h7.2.2 i j hi2 hj]; omega) (by rw [h7.2.2 i j hi2 hj]; omega)
  · -- the new draft
    have ud : ∀ r, eN E n sv e sa fa la za (n + 1) r = n5 e sa fa la za r := fun r => by unfold eN; rw [if_neg (by omega), if_pos rfl]
    unfold CRd
    rw [ud, ud, ud, ud, ud]
    refine ⟨⟨p, lk, Ob_f r1 hF4 (fun z => ?_)⟩, ⟨0, 0, 0, Ob_f r2 hF4 (cT e s1)⟩, ⟨_, Qa_f r3 hF4 (cT sa s2)⟩, _, _, _, Ia_f r4.1 hF4 (cT fa s3), Ia_f r4.2.1 hF4 (cT la s4), Ia_f r4.2.2 hF4 (cT za s5)⟩
    rcases z with z | z | z | z
    · exact n70.1 z
    · exact n70.2.1 z
    · exact n70.2.2.1 z
    · exact n70.2.2.2 z
  · -- the colours
    have old : ∀ b, b ∈ mm.2 → colN mm col n e sa fa la za sv k b = col b := fun b hb => if_pos hb
    have t1 : e ∉ mm.2 := fun z => s1 (hmm _ z)
    have t2 : sa ∉ mm.2 := fun z => s2 (hmm _ z)
    have t3 : fa ∉ mm.2 := fun z => s3 (hmm _ z)
    have t4 : la ∉ mm.2 := fun z => s4 (hmm _ z)
    have t5 : za ∉ mm.2 := fun z => s5 (hmm _ z)
    have z1 : sa ≠ e := Ne.symm (Ob_neQ r2 r3)
    have z2 : fa ≠ e := Ne.symm (Ob_neI r2 r4.1)
    have z3 : la ≠ e := Ne.symm (Ob_neI r2 r4.2.1)
    have z4 : za ≠ e := Ne.symm (Ob_neI r2 r4.2.2)
    have z5 : fa ≠ sa := Ia_neQ r4.1 r3
    have z6 : la ≠ sa := Ia_neQ r4.2.1 r3
    have z7 : za ≠ sa := Ia_neQ r4.2.2 r3
    refine ⟨fun r hr => (old _ (M1 r hr)).trans (h7.1 r hr), fun i r hi' hr => ?_, fun i j hi' hj => ?_⟩
    · by_cases e1 : i = n + 1
      · subst e1
        rw [show eN E n sv e sa fa la za (n + 1) r = n5 e sa fa la za r by unfold eN; rw [if_neg (by omega), if_pos rfl]]
        have hrr : r = 0 ∨ r = 1 ∨ r = 2 ∨ r = 3 ∨ r = 4 := by omega
        rcases hrr with rfl | rfl | rfl | rfl | rfl
        · rw [show n5 e sa fa la za 0 = e from rfl, colN, if_neg t1, if_pos rfl]; try omega
        · rw [show n5 e sa fa la za 1 = sa from rfl, colN, if_neg t2, if_neg z1, if_pos rfl]; try omega
        · rw [show n5 e sa fa la za 2 = fa from rfl, colN, if_neg t3, if_neg z2, if_neg z5, if_pos rfl]; try omega
        · rw [show n5 e sa fa la za 3 = la from rfl, colN, if_neg t4, if_neg z3, if_neg z6, if_neg (Ne.symm r5), if_pos rfl]; try omega
        · rw [show n5 e sa fa la za 4 = za from rfl, colN, if_neg t5, if_neg z4, if_neg z7, if_neg (Ne.symm r6), if_neg (Ne.symm r7), if_pos rfl]; try omega
      · have ue : eN E n sv e sa fa la za i r = E i r := by
          unfold eN
          by_cases e2 : i = n
          · subst e2; rw [if_pos rfl, if_pos hr]
          · rw [if_neg e2, if_neg e1]
        rw [ue, old _ (M2 i r (by omega) hr)]
        exact h7.2.1 i r (by omega) hr
    · by_cases e1 : i = n
      · subst e1
        have hj' : j < k := by
          have q9 : j < (edU ed i (k, v, q, f1, f2, f3, dy) i).1 := hj
          rwa [show edU ed i (k, v, q, f1, f2, f3, dy) i = (k, v, q, f1, f2, f3, dy) from if_pos rfl] at q9
        rw [show eN E i sv e sa fa la za i (5 + j) = sv j by unfold eN; rw [if_pos rfl, if_neg (by omega), Nat.add_sub_cancel_left]]
        have hm2 : sv j ∈ m2.2 := (hS.2.2 j hj').2.1
        have w : ∀ b, b ∉ m2.2 → ¬ sv j = b := fun b hb z => hb (z ▸ hm2)
        unfold colN
        rw [if_neg (hnew j hj'), if_neg (w e s1), if_neg (w sa s2), if_neg (w fa s3), if_neg (w la s4), if_neg (w za s5), ixF_at hi hj']
      · have hi2 : i < n := by omega
        have hj' : j < (ed i).1 := by
          have q9 : j < (edU ed n (k, v, q, f1, f2, f3, dy) i).1 := hj
          rwa [show edU ed n (k, v, q, f1, f2, f3, dy) i = ed i from if_neg e1] at q9
        rw [show eN E n sv e sa fa la za i (5 + j) = E i (5 + j) by unfold eN; rw [if_neg e1, if_neg (by omega)], old _ (M3 i j hi2 hj')]
        exact h7.2.2 i j hi2 hj'
  · refine Fr_mono hF (fun b hb => ?_)
    show col b < 900
    rcases hb with rfl | rfl | rfl | rfl | rfl
    · rw [h7.1 7 (by omega)]; omega
    · rw [hlt 0 (by omega)]; omega
    · rw [h7.1 11 (by omega)]; omega
    · rw [h7.1 0 (by omega)]; omega
    · rw [h7.1 8 (by omega)]; omega
set_option maxRecDepth 20000 in
theorem c_T_read (hg : GO g) (h : CR g mm A E col tx lb pr n day len ft ed) (dy : Int32) : CT g m_T_read 6 137 506 4566 [.ref (A 0), .int dy] mm (PoR g mm A col tx lb pr n day len ft ed dy) := by
  have h1 := h.1.1
  obtain ⟨⟨p0, lk0, d1⟩, ⟨k0, q0, d0, d2⟩, ⟨rf0, d3⟩, f1, f2, f3, d4⟩ := h.2.2.2.2.2.1
  have h7 := h.2.2.2.2.2.2
  have hlt : ∀ r, r < 5 → col (E n r) = 100 * (n + 1) + r := fun r hr => h7.2.1 n r (Nat.le_refl _) hr
  have nEE : ∀ r s, r < 5 → s < 5 → r ≠ s → E n r ≠ E n s := fun r s hr hs hne z => by
    have z' := congrArg col z
    rw [hlt r hr, hlt s hs] at z'
    omega
  have nAE : ∀ r, r < 5 → A 2 ≠ E n r := fun r hr z => by
    have z' := congrArg col z
    rw [hlt r hr, h7.1 2 (by omega)] at z'
    omega
  unfold PoR
  refine CT_go (lo := [(0, .ref (A 0)), (1, .int dy)]) rfl rfl rfl rfl hg ?_
  refine V_iload_n d_T_read_0 rfl rfl ?_
  refine V_iconst (v := 0) d_T_read_1 (by decide) ?_
  refine V_sipush (v := 1000) d_T_read_2 (by decide) ?_
  refine V_bud (bc' := 506 + 0) (bs' := 4566 + 0) (by omega) (by omega) ?_
  refine V_callS cb_T_isWithin ms_T_65 rfl rfl d_T_read_5 (c_T_isWithin hg _ dy 0 1000) ⟨by decide, by decide⟩ rfl rfl (Nat.le_of_ble_eq_true rfl) (fun _ _ h => nomatch h.1) (fun v m2 hR => ?_)
  obtain ⟨hv9, e9⟩ := hR
  cases hv9
  subst m2
  refine V_if_ne (tgt := 21) d_T_read_8 (by decide) (fun h_8 => ?_) (fun h_8 => ?_)
  · rw [bi_ne0] at h_8
    have cw := c_R_readsWholeText hg d1 h.2.1 d2 d3 d4 ⟨nEE 2 3 (by omega) (by omega) (by omega), nEE 2 4 (by omega) (by omega) (by omega), nEE 3 4 (by omega) (by omega) (by omega), nAE 2 (by omega), nAE 3 (by omega), nAE 4 (by omega)⟩
    first | refine V_aload_n d_T_read_21 rfl rfl ?_ | refine V_aloadN_n d_T_read_21 rfl rfl ?_
    refine Vget fl_T_29 d_T_read_22 (by repeat first | assumption | apply Ob_s | apply Ob_n) rfl ?_
    refine V_bud (bc' := 5 + 501) (bs' := 57 + 4509) (by omega) (by omega) ?_
    refine VcallV cb_R_readsWholeText mv_T_71 rfl (ci := 2) rfl rfl d_T_read_25 cw ⟨by decide, by decide⟩ rfl d1 rfl (Nat.le_of_ble_eq_true rfl) (fun _ _ h => nomatch h.1) (fun v m1 hR => ?_)
    change Wt g mm (A 7) (A 1) (A 2) (E n 0) (E n 1) (E n 2) (E n 3) (E n 4) d0 tx (rdZ tx f1 f2 f3) (.inl v) m1 at hR
    obtain ⟨hv9, sv, hD, hF, hnew⟩ := hR
    cases hv9
    obtain ⟨hC, hFm⟩ := CR_read h hD hF
    obtain ⟨e1, e2, e3, ⟨rf, e4⟩, e5, e6, e7, e8, e9, -⟩ := hD
    have hmm : ∀ b, b ∈ mm.2 → b ∈ (sgUp g m1 (A 1) (A 2) 500 (tx.1, 0)).2 := fun b hb => hF.1 b hb
    have t0 : Ob m1 (A 0) 5 (ctL A n day) := by
      refine Ob_f h1 hF (fun z => ?_)
      rcases z with z | z | z | z | z | z <;> have z' := congrArg col z <;> rw [h7.1 0 (by omega)] at z'
      · rw [h7.1 7 (by omega)] at z'; omega
      · rw [hlt 0 (by omega)] at z'; omega
      · rw [hlt 1 (by omega)] at z'; omega
      · rw [hlt 2 (by omega)] at z'; omega
      · rw [hlt 3 (by omega)] at z'; omega
      · rw [hlt 4 (by omega)] at z'; omega
    have t1 := e2.1
    refine V_istore_n d_T_read_28 rfl rfl ?_
    first | refine V_aload_n d_T_read_29 rfl rfl ?_ | refine V_aloadN_n d_T_read_29 rfl rfl ?_
    refine Vget fl_T_14 d_T_read_30 (by repeat first | assumption | apply Ob_s | apply Ob_n) rfl ?_
    refine V_bud (bc' := 5 + 0) (bs' := 57 + 0) (by omega) (by omega) ?_
    refine VcallV cb_G_clear mv_T_75 rfl (ci := 4) rfl rfl d_T_read_33 (c_G_clear hg e2) ⟨by decide, by decide⟩ rfl (by repeat first | assumption | apply Ob_s | apply Ob_n) rfl (Nat.le_of_ble_eq_true rfl) (fun _ _ h => nomatch h.1) (fun v m2 hR => ?_)
    obtain ⟨hv9, e9⟩ := hR
    cases hv9
    subst m2
    have u1 : Ob (sgUp g m1 (A 1) (A 2) 500 (tx.1, 0)) (A 7) 2 (rdL (A 1) (E n 0) (rdZ tx f1 f2 f3).2.2 (rdZ tx f1 f2 f3).2.1.2.2.2.2.2.2) := Ob_n (Ob_n e1 (Ob_neI e1 e2.2.1)) (Ob_neC e1 e2.1 (by decide))
    have u2 : Ob (sgUp g m1 (A 1) (A 2) 500 (tx.1, 0)) (E n 0) 0 (edL (E n 1) (E n 2) (E n 3) (E n 4) (rdZ tx f1 f2 f3).2.1.1 (rdZ tx f1 f2 f3).2.1.2.2.1 d0) := Ob_n (Ob_n e3 (Ob_neI e3 e2.2.1)) (Ob_neC e3 e2.1 (by decide))
    have u3 : Svs g (sgUp g m1 (A 1) (A 2) 500 (tx.1, 0)) (E n 1) (rdZ tx f1 f2 f3).2.1.1 rf sv (rdZ tx f1 f2 f3).2.1.2.1 := ⟨Qa_n (Qa_n e4.1 (Ne.symm (Ia_neQ e2.2.1 e4.1))) (Ne.symm (Ob_neQ e2.1 e4.1)), e4.2.1, fun j hj => ⟨(e4.2.2 j hj).1, Ob_n (Ob_n (e4.2.2 j hj).2 (Ob_neI (e4.2.2 j hj).2 e2.2.1)) (Ob_neC (e4.2.2 j hj).2 e2.1 (by decide))⟩⟩
    have u4 : Rgs g (sgUp g m1 (A 1) (A 2) 500 (tx.1, 0)) (E n 2) (E n 3) (E n 4) (rdZ tx f1 f2 f3).2.1.2.2.2.1 (rdZ tx f1 f2 f3).2.1.2.2.2.2.1 (rdZ tx f1 f2 f3).2.1.2.2.2.2.2.1 := ⟨Ia_n (Ia_n e5.1 (Ne.symm e6.2.2.2.1)) (Ne.symm (Ob_neI e2.1 e5.1)), Ia_n (Ia_n e5.2.1 (Ne.symm e6.2.2.2.2.1)) (Ne.symm (Ob_neI e2.1 e5.2.1)), Ia_n (Ia_n e5.2.2 (Ne.symm e6.2.2.2.2.2)) (Ne.symm (Ob_neI e2.1 e5.2.2))⟩
    have u0 := hC.1.1
    have ur := hC.2.2.2.2.1.1
    have uq := hC.1.2.2.1
    have hk26 := e4.2.1
    generalize sgUp g m1 (A 1) (A 2) 500 (tx.1, 0) = m2 at hC hFm hmm u1 u2 u3 u4 u0 ur uq ⊢
    refine V_iload_n d_T_read_36 rfl rfl ?_
    refine V_if_ne (tgt := 50) d_T_read_37 (by decide) (fun h_37 => ?_) (fun h_37 => ?_)
    · rw [bi_ne0] at h_37
      first | refine V_aload_n d_T_read_50 rfl rfl ?_ | refine V_aloadN_n d_T_read_50 rfl rfl ?_
      refine Vget fl_T_29 d_T_read_51 (by repeat first | assumption | apply Ob_s | apply Ob_n) rfl ?_
      refine Vget fl_T_82 d_T_read_54 (by repeat first | assumption | apply Ob_s | apply Ob_n) rfl ?_
      refine V_bud (bc' := 5 + 0) (bs' := 57 + 0) (by omega) (by omega) ?_
      refine VcallV cb_E_isOverfull mv_T_86 rfl (ci := 0) rfl rfl d_T_read_57 (c_E_isOverfull hg u2 (by omega) (by omega)) ⟨by decide, by decide⟩ rfl (by repeat first | assumption | apply Ob_s | apply Ob_n) rfl (Nat.le_of_ble_eq_true rfl) (fun _ _ h => nomatch h.1) (fun v m2 hR => ?_)
      obtain ⟨hv9, e9⟩ := hR
      cases hv9
      subst m2
      have ov : ((8 < (rdZ tx f1 f2 f3).2.1.1 ∨ 8 < (rdZ tx f1 f2 f3).2.1.2.2.1) ∨ 4 ≤ n) → V g m_T_read 6 137 5 57 75 [(2, .int (bi (rdZ tx f1 f2 f3).1)), (0, .ref (A 0)), (1, .int dy)] [] m2 (PoR g mm A col tx lb pr n day len ft ed dy) := by
        intro hov
        refine V_bud (bc' := 4 + 1) (bs' := 51 + 6) (by omega) (by omega) ?_
        exact V_throw th_T_92 rfl d_T_read_75 d_T_read_78 d_T_read_79 d_T_read_81 d_T_read_84 ⟨by decide, by decide⟩ (Nat.le_of_ble_eq_true rfl) (Or.inr ⟨h_8, f1, f2, f3, Or.inr ⟨h_37, Or.inl ⟨hov, rfl, E, col, hC, hFm, fun _ _ => rfl⟩⟩⟩)
      refine V_if_ne (tgt := 75) d_T_read_60 (by decide) (fun h_60 => ?_) (fun h_60 => ?_)
      · refine ov (Or.inl ?_)
        have q := bi_ne0.mp h_60
        simp only [Bool.or_eq_true, decide_eq_true_eq] at q
        exact q
      · have q := bi_eq0.mp h_60
        simp only [Bool.or_eq_false_iff, decide_eq_false_iff_not] at q
        first | refine V_aload_n d_T_read_63 rfl rfl ?_ | refine V_aloadN_n d_T_read_63 rfl rfl ?_
        refine Vget fl_T_89 d_T_read_64 (by repeat first | assumption | apply Ob_s | apply Ob_n) rfl ?_
        first | refine V_aload_n d_T_read_67 rfl rfl ?_ | refine V_aloadN_n d_T_read_67 rfl rfl ?_
        refine Vget fl_T_42 d_T_read_68 (by repeat first | assumption | apply Ob_s | apply Ob_n) rfl ?_
        refine ValenQ (j := 3) d_T_read_71 (fun _ => rfl) (by repeat first | assumption | apply Qa_s | apply Qa_n) ?_
        refine V_icmp_lt (tgt := 85) d_T_read_72 (by decide) (fun h_72 => ?_) (fun h_72 => ?_)
        · have hn4 : n < 4 := (nI_ltI (b := 4) (by have := hC.1.2.1; omega) (by omega)).mp h_72
          first | refine V_aload_n d_T_read_85 rfl rfl ?_ | refine V_aloadN_n d_T_read_85 rfl rfl ?_
          first | refine V_aload_n d_T_read_86 rfl rfl ?_ | refine V_aloadN_n d_T_read_86 rfl rfl ?_
          refine Vget fl_T_29 d_T_read_87 (by repeat first | assumption | apply Ob_s | apply Ob_n) rfl ?_
          refine V_bud (bc' := 0 + 5) (bs' := 0 + 57) (by omega) (by omega) ?_
          refine VcallV cb_R_handOverDraft mv_T_94 rfl (ci := 2) rfl rfl d_T_read_90 (c_R_handOverDraft hg u1) ⟨by decide, by decide⟩ rfl u1 rfl (Nat.le_of_ble_eq_true rfl) (fun _ _ h => nomatch h.1) (fun v m3 hR => ?_)
          obtain ⟨hv9, hN⟩ := hR
          cases hv9
          obtain ⟨E', col', w1, w2, w3⟩ := CR_keep (dy := dy) h hmm hC u2 u3 u4 (by omega) (by omega) e7 hnew hn4 hN
          have n7 : ∀ b, b ∈ mm.2 → col b ≠ 7 → b ≠ A 7 := fun b _ hb z => hb (by rw [z]; exact h7.1 7 (by omega))
          obtain ⟨-, -, -, -, -, -, -, -, -, -, -, r8⟩ := hN
          have x0 : Ob m3 (A 0) 5 (ctL A n day) := Ob_f u0 r8 (fun z => by have z' := congrArg col z; rw [h7.1 0 (by omega), h7.1 7 (by omega)] at z'; omega)
          have x11 : Qa g m3 3 (A 11) 4 (fun i => if i < n then some (E i 0) else none) := Qa_f uq r8 (fun z => by have z' := congrArg col z; rw [h7.1 11 (by omega), h7.1 7 (by omega)] at z'; omega)
          have xe := Ob_f u2 r8 (fun z => by have z' := congrArg col z; rw [hlt 0 (by omega), h7.1 7 (by omega)] at z'; omega)
          have x8 := Ob_f ur r8 (fun z => by have z' := congrArg col z; rw [h7.1 8 (by omega), h7.1 7 (by omega)] at z'; omega)
          refine V_iload_n d_T_read_93 rfl rfl ?_
          refine VcallV cb_T_keepEdition mv_T_98 rfl (ci := 5) rfl rfl d_T_read_94 (c_T_keepEdition hg x0 x11 hn4 xe x8) ⟨by decide, by decide⟩ rfl (by repeat first | assumption | apply Ob_s | apply Ob_n) rfl (Nat.le_of_ble_eq_true rfl) (fun _ _ h => nomatch h.1) (fun v m2 hR => ?_)
          obtain ⟨hv9, e9⟩ := hR
          cases hv9
          subst m2
          have y0 := w1.1.1
          first | refine V_aload_n d_T_read_97 rfl rfl ?_ | refine V_aloadN_n d_T_read_97 rfl rfl ?_
          refine Vget fl_T_89 d_T_read_98 (by repeat first | assumption | apply Ob_s | apply Ob_n) rfl ?_
          exact V_iret d_T_read_101 rfl rfl (Or.inr ⟨h_8, f1, f2, f3, Or.inr ⟨h_37, Or.inr ⟨fun z => by omega, rfl, E', col', w1, Fr_tr hFm w2 (fun _ _ z => z), w3⟩⟩⟩)
        · exact ov (Or.inr (by
            have hn4 : ¬ n < 4 := fun z => h_72 ((nI_ltI (b := 4) (by omega) (by omega)).mpr z)
            omega))
    · have hb : (rdZ tx f1 f2 f3).1 = false := bi_eq0.mp h_37
      refine V_iconst (v := -1) d_T_read_40 (by decide) ?_
      first | refine V_aload_n d_T_read_41 rfl rfl ?_ | refine V_aloadN_n d_T_read_41 rfl rfl ?_
      refine Vget fl_T_29 d_T_read_42 (by repeat first | assumption | apply Ob_s | apply Ob_n) rfl ?_
      refine Vget fl_T_78 d_T_read_45 (by repeat first | assumption | apply Ob_s | apply Ob_n) rfl ?_
      refine V_isub d_T_read_48 ?_
      exact V_iret d_T_read_49 rfl rfl (Or.inr ⟨h_8, f1, f2, f3, Or.inl ⟨hb, rfl, E, col, hC, hFm, fun _ _ => rfl⟩⟩)
  · have e : wi dy 0 1000 = false := bi_eq0.mp h_8
    refine V_bud (bc' := 505 + 1) (bs' := 4560 + 6) (by omega) (by omega) ?_
    exact V_throw th_T_69 rfl d_T_read_11 d_T_read_14 d_T_read_15 d_T_read_17 d_T_read_20 ⟨by decide, by decide⟩ (Nat.le_of_ble_eq_true rfl) (Or.inl ⟨e, Po_same h eIA⟩)
end C16
