/-! the law: what holds between two calls -/
def Hc (col : Nat → Nat) (a : Nat) (B : Nat → Nat) (ou : Nat) : Prop := col ou = 900 ∧ col a = 1000 ∧ ∀ k, mdN k ≠ 0 → col (B k) = 1001 + k
def LB (g : GG) (m : Mm) (A : Nat → Nat) (E : Nat → Nat → Nat) (col : Nat → Nat) (a : Nat) (B : Nat → Nat) (ou : Nat) (sc : Fw) (ar : Ar) (f : Nat → Int64) (tx lb pr : Sq) (n : Nat) (day : Int32) (len : Nat) (ft : Fw) (ed : Nat → Edd) : Prop := CR g m A E col tx lb pr n day len ft ed ∧ Md g m m a B sc ar ∧ La g m ou 1 f ∧ Hc col a B ou
def LI (g : GG) (m : Mm) (x a ou : Nat) : Prop := ∃ (A : Nat → Nat) (E : Nat → Nat → Nat) (col : Nat → Nat) (B : Nat → Nat) (sc : Fw) (ar : Ar) (f : Nat → Int64) (tx lb pr : Sq) (n : Nat) (day : Int32) (len : Nat) (ft : Fw) (ed : Nat → Edd), A 0 = x ∧ LB g m A E col a B ou sc ar f tx lb pr n day len ft ed ∧ RM sc ar tx lb pr n day len ft ed
def IsO (L : List String) (r : Ou) : Prop := (∃ w, r = oI w) ∨ ∃ E, E ∈ L ∧ r = .inr E
def IsV (L : List String) (r : Ou) : Prop := r = .inl none ∨ ∃ E, E ∈ L ∧ r = .inr E
section L2
variable {g : GG} {m mm m' m1 m2 : Mm} {A : Nat → Nat} {E : Nat → Nat → Nat} {col : Nat → Nat} {a ou : Nat} {B : Nat → Nat} {sc : Fw} {ar : Ar} {f : Nat → Int64} {tx lb pr : Sq} {n : Nat} {day : Int32} {len : Nat} {ft : Fw} {ed : Nat → Edd} {L : List String} {r o : Ou}
variable {tx' lb' pr' : Sq} {n' : Nat} {day' : Int32} {len' : Nat} {ft' : Fw} {ed' : Nat → Edd}
theorem CR_hi (h : CR g mm A E col tx lb pr n day len ft ed) (hF : Fr (fun b => 900 ≤ col b) mm m') : CR g m' A E col tx lb pr n day len ft ed := by
  obtain ⟨⟨a1, a2, a3, a4⟩, h2, h3, h4, ⟨c1, c2, ⟨f9, c3⟩, c4⟩, ⟨⟨p, lk, d1⟩, ⟨k9, q9, d9, d2⟩, ⟨rf9, d3⟩, f1, f2, f3, d4⟩, h7⟩ := h
  have eA : ∀ r, r < 12 → ¬ 900 ≤ col (A r) := fun r hr => by rw [h7.1 r hr]; omega
  have eE : ∀ i r, i ≤ n → r < 5 → ¬ 900 ≤ col (E i r) := fun i r hi hr => by rw [h7.2.1 i r hi hr]; omega
  refine ⟨⟨Ob_f a1 hF (eA 0 (by omega)), a2, Qa_f a3 hF (eA 11 (by omega)), fun i hi => ?_⟩, Sgm_f h2 hF (eA 1 (by omega)) (eA 2 (by omega)), Sgm_f h3 hF (eA 3 (by omega)) (eA 4 (by omega)), Sgm_f h4 hF (eA 5 (by omega)) (eA 6 (by omega)), ⟨Ob_f c1 hF (eA 8 (by omega)), Ia_f c2 hF (eA 9 (by omega)), ⟨f9, Ia_f c3 hF (eA 10 (by omega))⟩, c4⟩, ⟨⟨p, lk, Ob_f d1 hF (eA 7 (by omega))⟩, ⟨k9, q9, d9, Ob_f d2 hF (eE n 0 (by omega) (by omega))⟩, ⟨rf9, Qa_f d3 hF (eE n 1 (by omega) (by omega))⟩, f1, f2, f3, Ia_f d4.1 hF (eE n 2 (by omega) (by omega)), Ia_f d4.2.1 hF (eE n 3 (by omega) (by omega)), Ia_f d4.2.2 hF (eE n 4 (by omega) (by omega))⟩, h7⟩
  obtain ⟨k1, ⟨rf, k2, k3, k4⟩, k5, k6⟩ := a4 i hi
  refine ⟨Ob_f k1 hF (eE i 0 (by omega) (by omega)), ⟨rf, Qa_f k2 hF (eE i 1 (by omega) (by omega)), k3, fun j hj => ⟨(k4 j hj).1, Ob_f (k4 j hj).2 hF ?_⟩⟩, ⟨Ia_f k5.1 hF (eE i 2 (by omega) (by omega)), Ia_f k5.2.1 hF (eE i 3 (by omega) (by omega)), Ia_f k5.2.2 hF (eE i 4 (by omega) (by omega))⟩, k6⟩
  show ¬ 900 ≤ col (E i (5 + j))
  rw [h7.2.2 i j hi hj]
  have := k6.2
  omega
theorem CR_co {col' : Nat → Nat} (h : CR g mm A E col tx lb pr n day len ft ed) (hk : ∀ b, b ∈ mm.2 → col' b = col b) : CR g mm A E col' tx lb pr n day len ft ed := by
  obtain ⟨q1, q2, q3⟩ := CR_mem h
  obtain ⟨h1, h2, h3, h4, h5, h6, h7⟩ := h
  exact ⟨h1, h2, h3, h4, h5, h6, fun r hr => (hk _ (q1 r hr)).trans (h7.1 r hr), fun i r hi hr => (hk _ (q2 i r hi hr)).trans (h7.2.1 i r hi hr), fun i j hi hj => (hk _ (q3 i j hi hj)).trans (h7.2.2 i j hi hj)⟩
theorem Md_fr {S : Nat → Prop} (h : Md g m m a B sc ar) (hF : Fr S m m1) (ha : ¬ S a) (hB : ∀ k, mdN k ≠ 0 → ¬ S (B k)) : Md g m1 m1 a B sc ar := ⟨Ob_f h.1 hF ha, fun k hk => Ia_f (h.2.1 k hk) hF (hB k hk), h.2.2.1, Fr_rf⟩
theorem LB_T (h : LB g m A E col a B ou sc ar f tx lb pr n day len ft ed) (hP : Po g m A col r tx' lb' pr' n' day' len' ft' ed' o m1) : o = r ∧ ∃ E' col', LB g m1 A E' col' a B ou sc ar f tx' lb' pr' n' day' len' ft' ed' := by
  obtain ⟨e, E', col', hc, hF, hk⟩ := hP
  obtain ⟨h1, h2, h3, q1, q2, q3⟩ := h
  refine ⟨e, E', col', hc, Md_fr h2 hF (by rw [q2]; omega) (fun k h9 => by rw [q3 k h9]; omega), La_f h3 hF (by rw [q1]; omega), ?_, ?_, fun k h9 => ?_⟩
  · rw [hk _ h3.1]; exact q1
  · rw [hk _ h2.1.1]; exact q2
  · rw [hk _ (h2.2.1 k h9).1]; exact q3 k h9
theorem LB_ou {f' : Nat → Int64} (h : LB g m A E col a B ou sc ar f tx lb pr n day len ft ed) : LB g (up m ou (.inl (g.2.2.2.2 1, 1, .inr (.inl f')))) A E col a B ou sc ar f' tx lb pr n day len ft ed := by
  obtain ⟨h1, h2, h3, q1, q2, q3⟩ := h
  have hF : Fr (fun b => b = ou) m (up m ou (.inl (g.2.2.2.2 1, 1, .inr (.inl f')))) := Fr_up Fr_rf rfl
  exact ⟨CR_hi h1 (Fr_mono hF (fun b z => by rw [show b = ou from z, q1]; omega)), Md_fr h2 hF (Ob_neL h2.1 h3) (fun k hk => Ia_neL (h2.2.1 k hk) h3), La_s h3, q1, q2, q3⟩
theorem LB_M {sc' : Fw} {ar' : Ar} (h : LB g m A E col a B ou sc ar f tx lb pr n day len ft ed) (hM : Md g m m2 a B sc' ar') : LB g m2 A E col a B ou sc' ar' f tx lb pr n day len ft ed := by
  obtain ⟨h1, h2, h3, q1, q2, q3⟩ := h
  refine ⟨CR_hi h1 (Fr_mono hM.2.2.2 (fun b z => ?_)), ⟨hM.1, hM.2.1, hM.2.2.1, Fr_rf⟩, La_f h3 hM.2.2.2 (fun z => ?_), q1, q2, q3⟩
  · rcases z with rfl | ⟨k, hk, rfl⟩
    · rw [q2]; omega
    · rw [q3 k hk]; omega
  · rcases z with z | ⟨k, hk, z⟩
    · rw [z, q2] at q1; omega
    · rw [z, q3 k hk] at q1; omega
theorem hI_of (io : IsO L r) (h : LB g m A E col a B ou sc ar f tx lb pr n day len ft ed) : ∀ v m1, Po g m A col r tx' lb' pr' n' day' len' ft' ed' (.inl v) m1 → (∃ w, v = some (.int w)) ∧ La g m1 ou 1 f := by
  intro v m1 hP
  obtain ⟨e, E', col', hB⟩ := LB_T h hP
  refine ⟨?_, hB.2.2.1⟩
  rcases io with ⟨w, q⟩ | ⟨E9, -, q⟩
  · rw [q] at e
    exact ⟨w, Sum.inl.inj e⟩
  · rw [q] at e
    cases e
theorem hE_of (io : IsO L r) : ∀ E9 m1, Po g m A col r tx' lb' pr' n' day' len' ft' ed' (.inr E9) m1 → E9 ∈ L := by
  intro E9 m1 hP
  have e := hP.1
  rcases io with ⟨w, q⟩ | ⟨E8, hm, q⟩
  · rw [q] at e
    cases e
  · rw [q] at e
    cases e
    exact hm
theorem vI_of (io : IsV L r) : ∀ v m1, Po g m A col r tx' lb' pr' n' day' len' ft' ed' (.inl v) m1 → v = none := by
  intro v m1 hP
  have e := hP.1
  rcases io with q | ⟨E8, hm, q⟩
  · rw [q] at e
    exact Sum.inl.inj e
  · rw [q] at e
    cases e
theorem vE_of (io : IsV L r) : ∀ E9 m1, Po g m A col r tx' lb' pr' n' day' len' ft' ed' (.inr E9) m1 → E9 ∈ L := by
  intro E9 m1 hP
  have e := hP.1
  rcases io with q | ⟨E8, hm, q⟩
  · rw [q] at e
    cases e
  · rw [q] at e
    cases e
    exact hm
theorem Hq_x {F : Ou → Mm → Prop} {E9 : String} (h : Hq g L F ou f (.inr E9) m1) : False := by
  obtain ⟨r, m9, -, ⟨w, -, e, -⟩ | ⟨E8, -, -, e, -⟩⟩ := h <;> cases e
theorem Hv_x {F : Ou → Mm → Prop} {E9 : String} (h : Hv L F (.inr E9) m1) : False := by
  obtain ⟨r, m9, -, ⟨-, e, -⟩ | ⟨E8, -, -, e, -⟩⟩ := h <;> cases e
theorem Hq_o {F : Ou → Mm → Prop} {v : Option Value} (h : Hq g L F ou f (.inl v) m1) : ∃ code, v = some (.int code) := by
  obtain ⟨r, m9, -, ⟨w, -, e, -⟩ | ⟨E8, -, -, e, -⟩⟩ := h
  · exact ⟨0, Sum.inl.inj e⟩
  · exact ⟨_, Sum.inl.inj e⟩
/-- behind the helper -/
theorem LI_H {code : Int32} (h : LB g m A E col a B ou sc ar f tx lb pr n day len ft ed) (hH : Hq g L (Po g m A col r tx' lb' pr' n' day' len' ft' ed') ou f (oI code) m2) : ∃ E' col' f', LB g m2 A E' col' a B ou sc ar f' tx' lb' pr' n' day' len' ft' ed' ∧ ∀ v c, AG L r v c → c = code ∧ (code = 0 → f' 0 = v.toInt64 ∧ r = oI v) := by
  obtain ⟨r9, m1, hP, ⟨w, e1, e2, e3⟩ | ⟨E9, e1, -, e2, e3⟩⟩ := hH
  · obtain ⟨e, E', col', hB⟩ := LB_T h hP
    subst e3
    refine ⟨E', col', _, LB_ou hB, fun v c hG => ?_⟩
    rw [← e, e1] at hG
    obtain ⟨g1, g2⟩ := (show c = 0 ∧ v = w from hG)
    have e4 : code = 0 := by injection e2 with e2; injection e2 with e2; injection e2
    refine ⟨by rw [g1, e4], fun _ => ⟨?_, by rw [← e, e1, g2]⟩⟩
    rw [g2]
    simp [vp_updL]
  · obtain ⟨e, E', col', hB⟩ := LB_T h hP
    subst e3
    refine ⟨E', col', _, hB, fun v c hG => ?_⟩
    rw [← e, e1] at hG
    obtain ⟨g1, g2⟩ := (show c = kX L E9 ∧ ¬ c = 0 from hG)
    have e4 : code = kX L E9 := by injection e2 with e2; injection e2 with e2; injection e2
    exact ⟨by rw [g1, e4], fun z => absurd (by rw [g1, ← e4, z]) g2⟩
theorem LI_V {code : Int32} (h : LB g m A E col a B ou sc ar f tx lb pr n day len ft ed) (hH : Hv L (Po g m A col r tx' lb' pr' n' day' len' ft' ed') (oI code) m2) : ∃ E' col', LB g m2 A E' col' a B ou sc ar f tx' lb' pr' n' day' len' ft' ed' ∧ ∀ c, AG L r 0 c → c = code := by
  obtain ⟨r9, m1, hP, ⟨e1, e2, e3⟩ | ⟨E9, e1, -, e2, e3⟩⟩ := hH
  · obtain ⟨e, E', col', hB⟩ := LB_T h hP
    subst e3
    refine ⟨E', col', hB, fun c hG => ?_⟩
    rw [← e, e1] at hG
    have e4 : code = 0 := by injection e2 with e2; injection e2 with e2; injection e2
    rw [e4]
    exact hG
  · obtain ⟨e, E', col', hB⟩ := LB_T h hP
    subst e3
    refine ⟨E', col', hB, fun c hG => ?_⟩
    rw [← e, e1] at hG
    have e4 : code = kX L E9 := by injection e2 with e2; injection e2 with e2; injection e2
    rw [e4]
    exact hG.1
theorem Hv_o {F : Ou → Mm → Prop} {v : Option Value} (h : Hv L F (.inl v) m1) : ∃ code, v = some (.int code) := by
  obtain ⟨r, m9, -, ⟨-, e, -⟩ | ⟨E8, -, -, e, -⟩⟩ := h
  · exact ⟨0, Sum.inl.inj e⟩
  · exact ⟨_, Sum.inl.inj e⟩
/-- the outcomes -/
theorem io_i (w : Int32) : IsO L (oI w) := Or.inl ⟨w, rfl⟩
theorem io_sign (c : Int32) : IsV [xIA, xUO] (signO tx c) := by
  unfold signO
  split
  · exact Or.inr ⟨xIA, by simp, rfl⟩
  · split
    · exact Or.inl rfl
    · exact Or.inr ⟨xUO, by simp, rfl⟩
theorem io_number (c : Int32) : IsV [xIA, xUO] (numO lb c) := by
  unfold numO
  split
  · exact Or.inr ⟨xIA, by simp, rfl⟩
  · split
    · exact Or.inl rfl
    · exact Or.inr ⟨xUO, by simp, rfl⟩
theorem io_today (d : Int32) : IsO [xIA] (todO ed n d) := by
  unfold todO
  split
  · exact Or.inr ⟨xIA, by simp, rfl⟩
  · exact io_i _
theorem io_out (i : Int32) : IsO [xIA] (outO pr i) := by
  unfold outO
  split
  · exact Or.inr ⟨xIA, by simp, rfl⟩
  · exact io_i _
theorem io_fits (pc : Fw) (w s z c : Int32) (q : Option Nat) : IsO [xIA, xIS] (fitP ft pc ed w s z c len q).1 := by
  unfold fitP
  split
  · exact Or.inr ⟨xIA, by simp, rfl⟩
  · cases q with
    | none => exact Or.inr ⟨xIS, by simp, rfl⟩
    | some i => exact io_i _
theorem io_zone (c : Int32) (q : Option Nat) : IsO [xIA, xIS] (if wi c 0 9999 = false then eIA else zonO ed c q) := by
  split
  · exact Or.inr ⟨xIA, by simp, rfl⟩
  · cases q with
    | none => exact Or.inr ⟨xIS, by simp, rfl⟩
    | some i => exact io_i _
theorem io_price (c w : Int32) (q : Option Nat) : IsO [xNE, xIA, xIS] (priO ed c w q) := by
  cases q with
  | none => exact Or.inr ⟨xIS, by simp, rfl⟩
  | some i =>
    show IsO _ (priS (ed i) w (fndF (ed i).2.1 c (ed i).1 0))
    cases fndF (ed i).2.1 c (ed i).1 0 with
    | none => exact Or.inr ⟨xNE, by simp, rfl⟩
    | some j =>
      unfold priS
      dsimp only
      split
      · exact Or.inr ⟨xIA, by simp, rfl⟩
      · exact io_i _
theorem io_hours (c w : Int32) (q : Option Nat) : IsO [xNE, xIA, xIS] (houO ed c w q) := by
  cases q with
  | none => exact Or.inr ⟨xIS, by simp, rfl⟩
  | some i =>
    show IsO _ (houS (ed i) w (fndF (ed i).2.1 c (ed i).1 0))
    cases fndF (ed i).2.1 c (ed i).1 0 with
    | none => exact Or.inr ⟨xNE, by simp, rfl⟩
    | some j =>
      unfold houS
      dsimp only
      split
      · exact Or.inr ⟨xIA, by simp, rfl⟩
      · split
        · exact Or.inr ⟨xIS, by simp, rfl⟩
        · exact io_i _
theorem bi_hours {c w v : Int32} {q : Option Nat} (h : houO ed c w q = oI v) : ∃ b, v = bi b := by
  cases q with
  | none => cases h
  | some i =>
    have h' : houS (ed i) w (fndF (ed i).2.1 c (ed i).1 0) = oI v := h
    cases hq : fndF (ed i).2.1 c (ed i).1 0 with
    | none => rw [hq] at h'; cases h'
    | some j =>
      rw [hq] at h'
      unfold houS at h'
      dsimp only at h'
      split at h'
      · cases h'
      · split at h'
        · cases h'
        · injection h' with h'; injection h' with h'; injection h' with h'
          exact ⟨_, h'.symm⟩
theorem io_label (c w : Int32) (q : Option Nat) : IsO [xNE, xIA, xIS] (labO pr ed c w q).1 := by
  cases q with
  | none => exact Or.inr ⟨xIS, by simp, rfl⟩
  | some i =>
    show IsO _ (labS pr (ed i) w (fndF (ed i).2.1 c (ed i).1 0)).1
    cases fndF (ed i).2.1 c (ed i).1 0 with
    | none => exact Or.inr ⟨xNE, by simp, rfl⟩
    | some j =>
      unfold labS
      dsimp only
      split
      · exact Or.inr ⟨xIA, by simp, rfl⟩
      · split
        · exact io_i _
        · exact io_i _
theorem io_print (c : Int32) (q : Option Nat) : IsO [xNE] (prtO pr ed c q).1 := by
  cases q with
  | none => exact Or.inr ⟨xNE, by simp, rfl⟩
  | some i =>
    show IsO _ (prtS pr (ed i) (fndF (ed i).2.1 c (ed i).1 0)).1
    cases fndF (ed i).2.1 c (ed i).1 0 with
    | none => exact Or.inr ⟨xNE, by simp, rfl⟩
    | some j => exact io_i _
theorem io_track (q : Option Nat) : IsO [xIS] (trkO lb ed q).1 := by
  cases q with
  | none => exact Or.inr ⟨xIS, by simp, rfl⟩
  | some i => exact io_i _
theorem io_told (w : Int32) (q : Option Nat) : IsO [xNE, xIA] (tolO ed w q) := by
  cases q with
  | none => exact Or.inr ⟨xNE, by simp, rfl⟩
  | some i =>
    unfold tolO
    dsimp only
    split
    · exact io_i _
    · split
      · exact io_i _
      · split
        · exact io_i _
        · split
          · exact io_i _
          · exact Or.inr ⟨xIA, by simp, rfl⟩
theorem hI_hours {c w : Int32} (h : LB g m A E col a B ou sc ar f tx lb pr n day len ft ed) : ∀ v m1, Po g m A col (houO ed c w (acA ed n day)) tx' lb' pr' n' day' len' ft' ed' (.inl v) m1 → (∃ w9, v = some (.int (bi w9))) ∧ La g m1 ou 1 f := by
  intro v m1 hP
  obtain ⟨⟨w9, e⟩, h2⟩ := hI_of (io_hours c w _) h v m1 hP
  subst e
  obtain ⟨b, hb⟩ := bi_hours (show houO ed c w (acA ed n day) = oI w9 from hP.1.symm)
  exact ⟨⟨b, by rw [hb]⟩, h2⟩
/-- the script's places -/
theorem sc_in {t K c : Nat} (hK : K ≤ 2560) (hi : 5 * t + 5 ≤ K) (hc : c < 5) : vp_in (nI (5 * t) + nI c) K := by
  rw [nI_add]
  exact vp_nI (by omega) (by omega)
theorem lc_ne {x y : Int64} (h : x = y) : lg_cmp x y = 0 := by
  subst h
  simp [lg_cmp]
end L2
abbrev lwo (b x a ou : Nat) (i : Int32) : List (Nat × Value) := [(4, .int i), (3, .ref ou), (2, .ref a), (1, .ref x), (0, .ref b)]
