/-! cells of the memory, told at once: in use, and what they hold -/
def Ob (mm : Mm) (a ci : Nat) (fs : List Value) : Prop := a ∈ mm.2 ∧ mm.1 a = .inr (ci, fs)
def Ia (g : GG) (mm : Mm) (a n : Nat) (f : Nat → Int32) : Prop := a ∈ mm.2 ∧ mm.1 a = .inl (g.2.2.2.2 0, n, .inl f)
def La (g : GG) (mm : Mm) (a n : Nat) (f : Nat → Int64) : Prop := a ∈ mm.2 ∧ mm.1 a = .inl (g.2.2.2.2 1, n, .inr (.inl f))
def Qa (g : GG) (mm : Mm) (j a n : Nat) (f : Nat → Option Nat) : Prop := a ∈ mm.2 ∧ mm.1 a = .inl (g.2.2.2.2 j, n, .inr (.inr (.inr (.inr f))))
def up (mm : Mm) (a : Nat) (e : va_E) : Mm := (va_up mm.1 a e, mm.2)
def ad (mm : Mm) (a : Nat) (e : va_E) : Mm := (va_up mm.1 a e, mm.2 ++ [a])
theorem Ob_n {mm : Mm} {a b ci : Nat} {e : va_E} {fs : List Value} (h : Ob mm b ci fs) (hn : b ≠ a) : Ob (up mm a e) b ci fs := ⟨h.1, (va_up_ne _ _ hn).trans h.2⟩
theorem Ia_n {g : GG} {mm : Mm} {a b n : Nat} {e : va_E} {f : Nat → Int32} (h : Ia g mm b n f) (hn : b ≠ a) : Ia g (up mm a e) b n f := ⟨h.1, (va_up_ne _ _ hn).trans h.2⟩
theorem La_n {g : GG} {mm : Mm} {a b n : Nat} {e : va_E} {f : Nat → Int64} (h : La g mm b n f) (hn : b ≠ a) : La g (up mm a e) b n f := ⟨h.1, (va_up_ne _ _ hn).trans h.2⟩
theorem Qa_n {g : GG} {mm : Mm} {j a b n : Nat} {e : va_E} {f : Nat → Option Nat} (h : Qa g mm j b n f) (hn : b ≠ a) : Qa g (up mm a e) j b n f := ⟨h.1, (va_up_ne _ _ hn).trans h.2⟩
theorem Ob_s {mm : Mm} {a ci ci0 : Nat} {fs fs0 : List Value} (h : Ob mm a ci0 fs0) : Ob (up mm a (.inr (ci, fs))) a ci fs := ⟨h.1, va_up_self _ _ _⟩
theorem Ia_s {g : GG} {mm : Mm} {a n n0 : Nat} {f f0 : Nat → Int32} (h : Ia g mm a n0 f0) : Ia g (up mm a (.inl (g.2.2.2.2 0, n, .inl f))) a n f := ⟨h.1, va_up_self _ _ _⟩
theorem La_s {g : GG} {mm : Mm} {a n n0 : Nat} {f f0 : Nat → Int64} (h : La g mm a n0 f0) : La g (up mm a (.inl (g.2.2.2.2 1, n, .inr (.inl f)))) a n f := ⟨h.1, va_up_self _ _ _⟩
theorem Qa_s {g : GG} {mm : Mm} {j a n n0 : Nat} {f f0 : Nat → Option Nat} (h : Qa g mm j a n0 f0) : Qa g (up mm a (.inl (g.2.2.2.2 j, n, .inr (.inr (.inr (.inr f)))))) j a n f := ⟨h.1, va_up_self _ _ _⟩
/-- new cells -/
theorem Ob_a {mm : Mm} {a b ci : Nat} {e : va_E} {fs : List Value} (h : Ob mm b ci fs) (hn : a ∉ mm.2) : Ob (ad mm a e) b ci fs := ⟨List.mem_append_left _ h.1, (va_up_ne _ _ (fun z : b = a => hn (z ▸ h.1))).trans h.2⟩
theorem Ia_a {g : GG} {mm : Mm} {a b n : Nat} {e : va_E} {f : Nat → Int32} (h : Ia g mm b n f) (hn : a ∉ mm.2) : Ia g (ad mm a e) b n f := ⟨List.mem_append_left _ h.1, (va_up_ne _ _ (fun z : b = a => hn (z ▸ h.1))).trans h.2⟩
theorem La_a {g : GG} {mm : Mm} {a b n : Nat} {e : va_E} {f : Nat → Int64} (h : La g mm b n f) (hn : a ∉ mm.2) : La g (ad mm a e) b n f := ⟨List.mem_append_left _ h.1, (va_up_ne _ _ (fun z : b = a => hn (z ▸ h.1))).trans h.2⟩
theorem Qa_a {g : GG} {mm : Mm} {j a b n : Nat} {e : va_E} {f : Nat → Option Nat} (h : Qa g mm j b n f) (hn : a ∉ mm.2) : Qa g (ad mm a e) j b n f := ⟨List.mem_append_left _ h.1, (va_up_ne _ _ (fun z : b = a => hn (z ▸ h.1))).trans h.2⟩
theorem Ob_z {mm : Mm} {a ci : Nat} {fs : List Value} : Ob (ad mm a (.inr (ci, fs))) a ci fs := ⟨List.mem_append_right _ List.mem_cons_self, va_up_self _ _ _⟩
theorem Ia_z {g : GG} {mm : Mm} {a n : Nat} {f : Nat → Int32} : Ia g (ad mm a (.inl (g.2.2.2.2 0, n, .inl f))) a n f := ⟨List.mem_append_right _ List.mem_cons_self, va_up_self _ _ _⟩
theorem La_z {g : GG} {mm : Mm} {a n : Nat} {f : Nat → Int64} : La g (ad mm a (.inl (g.2.2.2.2 1, n, .inr (.inl f)))) a n f := ⟨List.mem_append_right _ List.mem_cons_self, va_up_self _ _ _⟩
theorem Qa_z {g : GG} {mm : Mm} {j a n : Nat} {f : Nat → Option Nat} : Qa g (ad mm a (.inl (g.2.2.2.2 j, n, .inr (.inr (.inr (.inr f)))))) j a n f := ⟨List.mem_append_right _ List.mem_cons_self, va_up_self _ _ _⟩
/-- cells of different kinds are different cells -/
theorem Ob_neC {mm : Mm} {a b ci cj : Nat} {fs fs' : List Value} (h : Ob mm a ci fs) (h' : Ob mm b cj fs') (hn : ci ≠ cj) : a ≠ b := by
  intro e
  subst e
  have h1 := h.2.symm.trans h'.2
  injection h1 with h1
  exact hn (congrArg Prod.fst h1)
theorem Ob_neI {g : GG} {mm : Mm} {a b ci n : Nat} {fs : List Value} {f : Nat → Int32} (h : Ob mm a ci fs) (h' : Ia g mm b n f) : a ≠ b := by
  intro e
  subst e
  have h1 := h.2.symm.trans h'.2
  cases h1
theorem Ob_neQ {g : GG} {mm : Mm} {j a b ci n : Nat} {fs : List Value} {f : Nat → Option Nat} (h : Ob mm a ci fs) (h' : Qa g mm j b n f) : a ≠ b := by
  intro e
  subst e
  have h1 := h.2.symm.trans h'.2
  cases h1
theorem Ob_neL {g : GG} {mm : Mm} {a b ci n : Nat} {fs : List Value} {f : Nat → Int64} (h : Ob mm a ci fs) (h' : La g mm b n f) : a ≠ b := by
  intro e
  subst e
  have h1 := h.2.symm.trans h'.2
  cases h1
theorem Ia_neQ {g : GG} {mm : Mm} {j a b n n' : Nat} {f : Nat → Int32} {f' : Nat → Option Nat} (h : Ia g mm a n f) (h' : Qa g mm j b n' f') : a ≠ b := by
  intro e
  subst e
  have h1 := h.2.symm.trans h'.2
  injection h1 with h1
  have h2 := congrArg (fun z => z.2.2) h1
  cases h2
theorem Ia_neL {g : GG} {mm : Mm} {a b n n' : Nat} {f : Nat → Int32} {f' : Nat → Int64} (h : Ia g mm a n f) (h' : La g mm b n' f') : a ≠ b := by
  intro e
  subst e
  have h1 := h.2.symm.trans h'.2
  injection h1 with h1
  have h2 := congrArg (fun z => z.2.2) h1
  cases h2
section VM
variable {g : GG} {t : Mt} {fr lc bc bs pc : Nat} {lo : List (Nat × Value)} {st : List Value} {mm : Mm} {Fi : Ou → Mm → Prop}
theorem Vget {idx a ci k : Nat} {fs : List Value} {v : Value} (hF : FL t.1.cls idx ci k) (hd : decode t.2.1 pc = .ok (.getfield idx, 3)) (h : Ob mm a ci fs) (hv : fs[k]? = some v) (k9 : V g t fr lc bc bs (pc + 3) lo (v :: st) mm Fi) : V g t fr lc bc bs pc lo (.ref a :: st) mm Fi := V_get hF hd h.1 h.2 hv k9
theorem Vput {idx a ci k : Nat} {ty : FieldType} {fs : List Value} {v : Value} (hF : PL t.1.cls idx ci k ty) (hd : decode t.2.1 pc = .ok (.putfield idx, 3)) (h : Ob mm a ci fs) (hn : narrow ty v = v) (hfit : fits ty v = true) (hlen : k < fs.length) (k9 : V g t fr lc bc bs (pc + 3) lo st (up mm a (.inr (ci, fs.set k v))) Fi) : V g t fr lc bc bs pc lo (v :: .ref a :: st) mm Fi := V_put hF hd h.1 h.2 hn hfit hlen k9
theorem VputF {idx a ci k : Nat} {ty : FieldType} {fs : List Value} {v : Value} (hF : PF t.1.cls idx ci k ty) (hi : t.1.name = "<init>") (hd : decode t.2.1 pc = .ok (.putfield idx, 3)) (h : Ob mm a ci fs) (hn : narrow ty v = v) (hfit : fits ty v = true) (hlen : k < fs.length) (k9 : V g t fr lc bc bs (pc + 3) lo st (up mm a (.inr (ci, fs.set k v))) Fi) : V g t fr lc bc bs pc lo (v :: .ref a :: st) mm Fi := V_putF hF hi hd h.1 h.2 hn hfit hlen k9
theorem Viald {a n : Nat} {f : Nat → Int32} {i : Int32} (hd : decode t.2.1 pc = .ok (.iaload, 1)) (h : Ia g mm a n f) (hi : vp_in i n) (k : V g t fr lc bc bs (pc + 1) lo (.int (f i.toNatClampNeg) :: st) mm Fi) : V g t fr lc bc bs pc lo (.int i :: .ref a :: st) mm Fi := V_iald hd h.1 h.2 hi k
theorem Vlald {a n : Nat} {f : Nat → Int64} {i : Int32} (hd : decode t.2.1 pc = .ok (.laload, 1)) (h : La g mm a n f) (hi : vp_in i n) (k : V g t fr lc bc bs (pc + 1) lo (.long (f i.toNatClampNeg) :: st) mm Fi) : V g t fr lc bc bs pc lo (.int i :: .ref a :: st) mm Fi := V_lald hd h.1 h.2 hi k
theorem Vaald {a n j : Nat} {Cn : String} {f : Nat → Option Nat} {i : Int32} (hd : decode t.2.1 pc = .ok (.aaload, 1)) (hj : ∀ g : GG, (gT g)[j]? = some (g.2.2.2.2 j, .object Cn)) (h : Qa g mm j a n f) (hi : vp_in i n) (k : V g t fr lc bc bs (pc + 1) lo (va_rf (f i.toNatClampNeg) :: st) mm Fi) : V g t fr lc bc bs pc lo (.int i :: .ref a :: st) mm Fi := V_aald hd hj h.1 h.2 hi k
theorem ValenI {a n : Nat} {f : Nat → Int32} (hd : decode t.2.1 pc = .ok (.arraylength, 1)) (h : Ia g mm a n f) (k : V g t fr lc bc bs (pc + 1) lo (.int (nI n) :: st) mm Fi) : V g t fr lc bc bs pc lo (.ref a :: st) mm Fi := V_alen (j := 0) hd (fun _ => rfl) h.1 h.2 k
theorem ValenQ {a n j : Nat} {Cn : String} {f : Nat → Option Nat} (hd : decode t.2.1 pc = .ok (.arraylength, 1)) (hj : ∀ g : GG, (gT g)[j]? = some (g.2.2.2.2 j, .object Cn)) (h : Qa g mm j a n f) (k : V g t fr lc bc bs (pc + 1) lo (.int (nI n) :: st) mm Fi) : V g t fr lc bc bs pc lo (.ref a :: st) mm Fi := V_alen (j := j) hd hj h.1 h.2 k
theorem Viast {a n : Nat} {f : Nat → Int32} {i x : Int32} (hd : decode t.2.1 pc = .ok (.iastore, 1)) (h : Ia g mm a n f) (hi : vp_in i n) (k : V g t fr lc bc bs (pc + 1) lo st (up mm a (.inl (g.2.2.2.2 0, n, .inl (upd f i.toNatClampNeg x)))) Fi) : V g t fr lc bc bs pc lo (.int x :: .int i :: .ref a :: st) mm Fi := V_iast hd h.1 h.2 hi k
theorem Vlast {a n : Nat} {f : Nat → Int64} {i : Int32} {x : Int64} (hd : decode t.2.1 pc = .ok (.lastore, 1)) (h : La g mm a n f) (hi : vp_in i n) (k : V g t fr lc bc bs (pc + 1) lo st (up mm a (.inl (g.2.2.2.2 1, n, .inr (.inl (vp_updL f i.toNatClampNeg x))))) Fi) : V g t fr lc bc bs pc lo (.long x :: .int i :: .ref a :: st) mm Fi := V_last hd h.1 h.2 hi k
theorem Vaast {a n j v ci : Nat} {r : vw_C} {vs : List Value} {f : Nat → Option Nat} {i : Int32} (hd : decode t.2.1 pc = .ok (.aastore, 1)) (hj : ∀ g : GG, (gT g)[j]? = some (g.2.2.2.2 j, .object r.1)) (hc : vwCl[ci]? = some r) (h : Qa g mm j a n f) (hv : Ob mm v ci vs) (hi : vp_in i n) (k : V g t fr lc bc bs (pc + 1) lo st (up mm a (.inl (g.2.2.2.2 j, n, .inr (.inr (.inr (.inr (va_up f i.toNatClampNeg (some v)))))))) Fi) : V g t fr lc bc bs pc lo (.ref v :: .int i :: .ref a :: st) mm Fi := V_aast hd hj hc h.1 h.2 hv.1 hv.2 hi k
theorem VcallV {idx n fr' lc' mc' ms' b ci : Nat} {t' : Mt} {As st0 : List Value} {fs : List Value} {Fi' : Ou → Mm → Prop} (hB : CB t' n) (hv : mlk t.1.cls idx t'.1 ∧ Cond.instanceMethod t'.1 ∈ lw_tbl ∧ Cond.selects t'.1.cls t'.1 t'.1 ∈ lw_tbl) (hnh : t'.2.2.2.2 = []) (hci : vwCl[ci]?.map (·.1) = some t'.1.cls) (hh : t.2.2.2.2 = []) (hd : decode t.2.1 pc = .ok (.invokevirtual idx, 3)) (hM : CT g t' fr' lc' mc' ms' (.ref b :: As) mm Fi') (hdd : fr' + 1 ≤ fr ∧ 19 + t'.2.2.1 + lc' ≤ lc) (hlen : As.length = n)
    (h : Ob mm b ci fs) (hst : st0 = As.reverse ++ .ref b :: st) (hr : (st.map fun v => v.category).sum ≤ 8) (kx : ∀ E mm', Fi' (.inr E) mm' → Fi (.inr E) mm')
    (kr : ∀ (v : Option Value) (mm' : Mm), Fi' (.inl v) mm' → V g t fr lc bc bs (pc + 3) lo (v.toList ++ st) mm' Fi) : V g t fr lc (bc + mc') (bs + ms') pc lo st0 mm Fi := V_callV hB hv hnh hci hh hd hM hdd hlen h.1 h.2 hst hr kx kr
end VM
/-- an index that was looked at -/
theorem in_of {i : Int32} {n : Nat} (h0 : ¬ i < 0) (h : ¬ nI n ≤ i) (hn : n < 2 ^ 31) : vp_in i n := by
  rw [vp_in_iff]
  rw [Int32.lt_iff_toInt_lt, Int32.toInt_zero] at h0
  rw [Int32.le_iff_toInt_le, nI_toInt hn] at h
  omega
theorem in_of' {i : Int32} {n : Nat} (h0 : ¬ i < 0) (h : i < nI n) (hn : n < 2 ^ 31) : vp_in i n := by
  rw [vp_in_iff]
  rw [Int32.lt_iff_toInt_lt, Int32.toInt_zero] at h0
  rw [Int32.lt_iff_toInt_lt, nI_toInt hn] at h
  omega
