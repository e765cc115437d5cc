/-! THE WALK OVER ONE POOL: all cells of the system are one memory (a function from addresses, and the list of those in use); what stays as it was is said of the law's start. 'V': the method t stands at pc with these locals, this stack, this memory, and comes to an end that Fi allows. 'CT': a method's contract. -/
/-- the law's start: state, arguments, launch, numbers of classes and slots, the array classes -/
abbrev GG : Type := State × Array Value × Launch × va_G × (Nat → ClassId)
/-- the array classes that the worlds hold -/
def gT (g : GG) : List (ClassId × FieldType) := [(g.2.2.2.2 0, .int), (g.2.2.2.2 1, .long), (g.2.2.2.2 2, .object "CarrierText$Service"), (g.2.2.2.2 3, .object "CarrierText$Edition")]
def gN (g : GG) : Nat → Prop := fun q => g.1.heap.size ≤ q
abbrev Mm : Type := (Nat → va_E) × List Nat
/-- how a method ends: an answer, or an exception of a class -/
abbrev Ou : Type := Option Value ⊕ String
def Wp (g : GG) (mm : Mm) (U : State) : Prop := va_P g.2.2.2.1 vwCl (va_pl mm.2 mm.1) U.heap ∧ va_D (gN g) (va_pl mm.2 mm.1) ∧ va_F (gN g) g.1 U
def Wd (g : GG) (mm : Mm) (U : State) : Prop := g.1.WarmedH U.vm ∧ Wp g mm U
def QF (g : GG) (Fi : Ou → Mm → Prop) : Array Value → State → Outcome → State → Prop := fun _ _ oc t => ∃ (v : Option Value) (mm : Mm), oc = .returned v ∧ Fi (.inl v) mm ∧ Wp g mm t
def XF (g : GG) (Fi : Ou → Mm → Prop) : String → State → State → Prop := fun E _ t => ∃ mm : Mm, Fi (.inr E) mm ∧ Wp g mm t
def rmD (fr lc mc ms : Nat) : Room := { frames := fr, cells := mc, slots := ms, locals := lc }
def wdM (t : Mt) : Cond := match t.2.2.2.2 with
  | [] => .code t.1 t.2.1 t.2.2.1 t.2.2.2.1
  | h :: hs => .codeWith t.1 t.2.1 t.2.2.1 t.2.2.2.1 (h :: hs)
def CT (g : GG) (t : Mt) (fr lc mc ms : Nat) (av : List Value) (mm : Mm) (Fi : Ou → Mm → Prop) : Prop :=
  vx_Met g.2.2.1 t.1 [wdM t] (rmD fr lc mc ms) (va_Pc av (Wd g mm)) (QF g Fi) (XF g Fi) mc ms (gN g)
/-- exceptions that are not one another -/
def ncL : List (String × String) := [("java/lang/UnsupportedOperationException", "java/lang/IllegalArgumentException"), ("java/lang/IllegalStateException", "java/lang/IllegalArgumentException"), ("java/lang/IllegalArgumentException", "java/util/NoSuchElementException"), ("java/lang/IllegalStateException", "java/util/NoSuchElementException")]
/-- what holds at the law's start -/
def GO (g : GG) : Prop := (∀ w ∈ lw_tbl, w.before g.2.1 g.1 = true) ∧ va_K g.2.2.2.1 vwCl (gT g) g.1 ∧ g.2.2.1.stackTraces = false ∧ vx_Zq Bundle.tN "UNASSIGNED_STACK" Bundle.steD (gN g) g.1 g.1.heap ∧ vx_Zq Bundle.tN "SUPPRESSED_SENTINEL" Bundle.listD (gN g) g.1 g.1.heap ∧ (∀ (own text : String) (k : Nat), Cond.stringRef own k text ∈ lw_tbl → ∃ sa, vk_R own k text sa g.1) ∧ ∀ q ∈ ncL, va_Nc q.1 q.2 g.1
/-- what holds all along a method's walk -/
def Cx (g : GG) (t : Mt) (fr lc : Nat) (p : Program) (e : Env) (R : Room) (s : State) (m : MethodId) (args : Array Value) (below : List Frame) (meth : Method) (c : Code) (mc ms : Nat) : Prop :=
  GO g ∧ p.tables.exec = Jvm.exec ∧ c.code = t.2.1 ∧ meth.sig.returnType = t.2.2.2.1 ∧ c.maxLocals = t.2.2.1 ∧ s.vm.findClass t.1.cls = some m.cls ∧ meth.locks = false ∧ g.1.WarmedH s.vm ∧ va_F (gN g) g.1 s ∧ (mc ≤ R.cells ∧ ms ≤ R.slots ∧ fr ≤ R.frames ∧ lc ≤ R.locals) ∧ meth.name = t.1.name ∧ c.exceptionTable.toList = tableOf t.2.2.2.2
/-- the heap of a walk -/
def Hp (g : GG) (mm : Mm) (s : State) (H : Heap) (locs : List Loc) : Prop := va_P g.2.2.2.1 vwCl (va_pl mm.2 mm.1) H ∧ va_D (gN g) (va_pl mm.2 mm.1) ∧ va_S (gN g) s.heap H locs
/-- the locals: those listed are held, each of one slot -/
def Lh (ls : Array Slot) (n : Nat) (lo : List (Nat × Value)) : Prop := lv_has ls n lo ∧ ∀ q ∈ lo, q.2.category = 1
def lkp (i : Nat) : List (Nat × Value) → Option Value
  | [] => none
  | q :: r => bif Nat.beq q.1 i then some q.2 else lkp i r
def rmv (i : Nat) : List (Nat × Value) → List (Nat × Value)
  | [] => []
  | q :: r => bif Nat.beq q.1 i then rmv i r else q :: rmv i r
def chk : List (Nat × Value) → List (Nat × Value) → Prop
  | [], _ => True
  | q :: r, lo => lkp q.1 lo = some q.2 ∧ chk r lo
def V (g : GG) (t : Mt) (fr lc bc bs pc : Nat) (lo : List (Nat × Value)) (st : List Value) (mm : Mm) (Fi : Ou → Mm → Prop) : Prop :=
  ∀ (p : Program) (e : Env) (R : Room) (s : State) (m : MethodId) (args : Array Value) (below : List Frame) (meth : Method) (c : Code) (mc ms : Nat) (H : Heap) (locs : List Loc) (cells slots : Nat) (ls : Array Slot),
    Cx g t fr lc p e R s m args below meth c mc ms → Hp g mm s H locs → cells + bc ≤ mc → slots + bs ≤ ms → Lh ls t.2.2.1 lo →
    W p g.2.2.1 e R s m args below meth c H locs cells slots (vx_MQ below (QF g Fi) (XF g Fi) args s mc ms (gN g)) (F0 m pc ls st)
theorem lkp_mem {i : Nat} {v : Value} : ∀ {lo : List (Nat × Value)}, lkp i lo = some v → (i, v) ∈ lo
  | [], h => by simp [lkp] at h
  | q :: r, h => by
    unfold lkp at h
    cases hb : Nat.beq q.1 i with
    | true =>
      rw [hb] at h
      simp only [cond_true, Option.some.injEq] at h
      have hq : q.1 = i := Nat.eq_of_beq_eq_true hb
      subst hq; subst h
      exact List.mem_cons_self
    | false =>
      rw [hb] at h
      simp only [cond_false] at h
      exact List.mem_cons_of_mem _ (lkp_mem h)
theorem rmv_mem {i : Nat} {q : Nat × Value} : ∀ {lo : List (Nat × Value)}, q ∈ rmv i lo → q ∈ lo ∧ q.1 ≠ i
  | [], h => by simp [rmv] at h
  | a :: r, h => by
    unfold rmv at h
    cases hb : Nat.beq a.1 i with
    | true =>
      rw [hb] at h
      simp only [cond_true] at h
      exact ⟨List.mem_cons_of_mem _ (rmv_mem h).1, (rmv_mem h).2⟩
    | false =>
      rw [hb] at h
      simp only [cond_false] at h
      rcases List.mem_cons.mp h with rfl | h
      · exact ⟨List.mem_cons_self, fun z => by rw [z, Nat.beq_refl] at hb; cases hb⟩
      · exact ⟨List.mem_cons_of_mem _ (rmv_mem h).1, (rmv_mem h).2⟩
theorem chk_mem {lo : List (Nat × Value)} {q : Nat × Value} : ∀ {lo' : List (Nat × Value)}, chk lo' lo → q ∈ lo' → q ∈ lo
  | [], _, h => by simp at h
  | a :: r, hc, h => by
    rcases List.mem_cons.mp h with rfl | h
    · exact lkp_mem hc.1
    · exact chk_mem hc.2 h
theorem Lh.at {ls : Array Slot} {n i : Nat} {lo : List (Nat × Value)} {v : Value} (h : Lh ls n lo) (hk : lkp i lo = some v) : ls[i]? = some (.val v) := h.1.2.2 (i, v) (lkp_mem hk)
theorem Lh.st {ls : Array Slot} {n i : Nat} {lo : List (Nat × Value)} {v : Value} (h : Lh ls n lo) (hv : v.category = 1) {ls' : Array Slot} (h' : lv_has ls' n ((i, v) :: lo.filter (fun q => !(q.1 == i) && !(q.1 + 1 == i && q.2.category == 2)))) : Lh ls' n ((i, v) :: rmv i lo) := by
  refine ⟨⟨h'.1, h'.2.1, fun q hq => h'.2.2 q ?_⟩, fun q hq => ?_⟩
  · rcases List.mem_cons.mp hq with rfl | hq
    · exact List.mem_cons_self
    · obtain ⟨h1, h2⟩ := rmv_mem hq
      refine List.mem_cons_of_mem _ (List.mem_filter.mpr ⟨h1, ?_⟩)
      have h3 := h.2 q h1
      simp [h2, h3]
  · rcases List.mem_cons.mp hq with rfl | hq
    · exact hv
    · exact h.2 q (rmv_mem hq).1
theorem rf_cat (r : Option Nat) : (va_rf r).category = 1 := by cases r <;> rfl
section VB
variable {g : GG} {t : Mt} {fr lc bc bs pc : Nat} {lo : List (Nat × Value)} {st : List Value} {mm : Mm} {Fi : Ou → Mm → Prop}
variable {p : Program} {e : Env} {R : Room} {s : State} {m : MethodId} {args : Array Value} {below : List Frame} {meth : Method} {c : Code} {mc ms : Nat} {H : Heap} {locs : List Loc} {cells slots : Nat} {ls : Array Slot}
theorem Cx.w (C : Cx g t fr lc p e R s m args below meth c mc ms) {w : Cond} (h : w ∈ lw_tbl) (hg : goodWord w = true) (a : Array Value) : w.before a s = true := word_at C.2.2.2.2.2.2.2.1 (good_of_word hg) (C.1.1 w h)
theorem Cx.K (C : Cx g t fr lc p e R s m args below meth c mc ms) : va_K g.2.2.2.1 vwCl (gT g) s := va_K.moved C.2.2.2.2.2.2.2.1.alike C.1.2.1
theorem Cx.A (C : Cx g t fr lc p e R s m args below meth c mc ms) : ∀ q, s.heap.size ≤ q → gN g q := fun _ h => Nat.le_trans C.2.2.2.2.2.2.2.2.1.1 h
theorem Cx.mkP (C : Cx g t fr lc p e R s m args below meth c mc ms) (h : Hp g mm s H locs) {U : State} (hU : U.heap = H) : Wp g mm U := by
  obtain ⟨f1, f2⟩ := C.2.2.2.2.2.2.2.2.1
  refine ⟨by rw [hU]; exact h.1, h.2.1, by rw [hU]; exact Nat.le_trans f1 h.2.2.1, fun q h1 h2 => ?_⟩
  rw [hU, h.2.2.2.1 q (Nat.lt_of_lt_of_le h1 f1) h2]
  exact f2 q h1 h2
theorem Cx.mkD (C : Cx g t fr lc p e R s m args below meth c mc ms) (h : Hp g mm s H locs) {U : State} (hU : U.heap = H) (hW : s.WarmedH U.vm) : Wd g mm U := ⟨State.WarmedH.trans C.2.2.2.2.2.2.2.1 hW, C.mkP h hU⟩
/-- a world behind a call, as the caller has it -/
theorem Cx.mkH (C : Cx g t fr lc p e R s m args below meth c mc ms) {U T' : State} (h : Wp g mm U) (hU : T'.heap = U.heap) (hz : s.heap.size ≤ T'.heap.size) {locs : List Loc} (hl : ∀ q ∈ locs, gN g q.base) : Hp g mm s T'.heap locs := by
  obtain ⟨f1, f2⟩ := C.2.2.2.2.2.2.2.2.1
  refine ⟨by rw [hU]; exact h.1, h.2.1, hz, fun q h1 h2 => ?_, hl⟩
  have h3 : q < g.1.heap.size := Nat.not_le.mp h2
  rw [hU, h.2.2.2 q h3 h2, f2 q h3 h2]
theorem Wd.blind {U : State} {fr : JFrame} {mk : MethodId} {a : Array Value} (h : Wd g mm U) : Wd g mm (U.calling fr mk a) := h
theorem Wd.fb {av : List Value} : FrameBlind (va_Pc av (Wd g mm)) := fun _ _ _ _ h => ⟨h.1, Wd.blind h.2⟩
theorem V_iadd {x y : Int32} (hd : decode t.2.1 pc = .ok (.iadd, 1)) (k : V g t fr lc bc bs (pc + 1) lo (.int (x + y) :: st) mm Fi) : V g t fr lc bc bs pc lo (.int y :: .int x :: st) mm Fi :=
  fun p e R s m args below meth c mc ms H locs cells slots ls C h1 h2 h3 hl => lv_iadd C.2.1 C.2.2.1 hd (k p e R s m args below meth c mc ms H locs cells slots ls C h1 h2 h3 hl)
theorem V_isub {x y : Int32} (hd : decode t.2.1 pc = .ok (.isub, 1)) (k : V g t fr lc bc bs (pc + 1) lo (.int (x - y) :: st) mm Fi) : V g t fr lc bc bs pc lo (.int y :: .int x :: st) mm Fi :=
  fun p e R s m args below meth c mc ms H locs cells slots ls C h1 h2 h3 hl => lv_isub C.2.1 C.2.2.1 hd (k p e R s m args below meth c mc ms H locs cells slots ls C h1 h2 h3 hl)
theorem V_imul {x y : Int32} (hd : decode t.2.1 pc = .ok (.imul, 1)) (k : V g t fr lc bc bs (pc + 1) lo (.int (x * y) :: st) mm Fi) : V g t fr lc bc bs pc lo (.int y :: .int x :: st) mm Fi :=
  fun p e R s m args below meth c mc ms H locs cells slots ls C h1 h2 h3 hl => lv_imul C.2.1 C.2.2.1 hd (k p e R s m args below meth c mc ms H locs cells slots ls C h1 h2 h3 hl)
theorem V_iand {x y : Int32} (hd : decode t.2.1 pc = .ok (.iand, 1)) (k : V g t fr lc bc bs (pc + 1) lo (.int (x &&& y) :: st) mm Fi) : V g t fr lc bc bs pc lo (.int y :: .int x :: st) mm Fi :=
  fun p e R s m args below meth c mc ms H locs cells slots ls C h1 h2 h3 hl => lv_iand C.2.1 C.2.2.1 hd (k p e R s m args below meth c mc ms H locs cells slots ls C h1 h2 h3 hl)
theorem V_ior {x y : Int32} (hd : decode t.2.1 pc = .ok (.ior, 1)) (k : V g t fr lc bc bs (pc + 1) lo (.int (x ||| y) :: st) mm Fi) : V g t fr lc bc bs pc lo (.int y :: .int x :: st) mm Fi :=
  fun p e R s m args below meth c mc ms H locs cells slots ls C h1 h2 h3 hl => lv_ior C.2.1 C.2.2.1 hd (k p e R s m args below meth c mc ms H locs cells slots ls C h1 h2 h3 hl)
theorem V_ixor {x y : Int32} (hd : decode t.2.1 pc = .ok (.ixor, 1)) (k : V g t fr lc bc bs (pc + 1) lo (.int (x ^^^ y) :: st) mm Fi) : V g t fr lc bc bs pc lo (.int y :: .int x :: st) mm Fi :=
  fun p e R s m args below meth c mc ms H locs cells slots ls C h1 h2 h3 hl => lv_ixor C.2.1 C.2.2.1 hd (k p e R s m args below meth c mc ms H locs cells slots ls C h1 h2 h3 hl)
theorem V_ishl {x y : Int32} (hd : decode t.2.1 pc = .ok (.ishl, 1)) (k : V g t fr lc bc bs (pc + 1) lo (.int (x <<< (y &&& 31)) :: st) mm Fi) : V g t fr lc bc bs pc lo (.int y :: .int x :: st) mm Fi :=
  fun p e R s m args below meth c mc ms H locs cells slots ls C h1 h2 h3 hl => lv_ishl C.2.1 C.2.2.1 hd (k p e R s m args below meth c mc ms H locs cells slots ls C h1 h2 h3 hl)
theorem V_ishr {x y : Int32} (hd : decode t.2.1 pc = .ok (.ishr, 1)) (k : V g t fr lc bc bs (pc + 1) lo (.int (x >>> (y &&& 31)) :: st) mm Fi) : V g t fr lc bc bs pc lo (.int y :: .int x :: st) mm Fi :=
  fun p e R s m args below meth c mc ms H locs cells slots ls C h1 h2 h3 hl => lv_ishr C.2.1 C.2.2.1 hd (k p e R s m args below meth c mc ms H locs cells slots ls C h1 h2 h3 hl)
theorem V_idiv {x y : Int32} (hd : decode t.2.1 pc = .ok (.idiv, 1)) (hne : ¬ y = 0) (k : V g t fr lc bc bs (pc + 1) lo (.int (x / y) :: st) mm Fi) : V g t fr lc bc bs pc lo (.int y :: .int x :: st) mm Fi :=
  fun p e R s m args below meth c mc ms H locs cells slots ls C h1 h2 h3 hl => lv_idiv C.2.1 C.2.2.1 hd hne (k p e R s m args below meth c mc ms H locs cells slots ls C h1 h2 h3 hl)
theorem V_irem {x y : Int32} (hd : decode t.2.1 pc = .ok (.irem, 1)) (hne : ¬ y = 0) (k : V g t fr lc bc bs (pc + 1) lo (.int (x - x / y * y) :: st) mm Fi) : V g t fr lc bc bs pc lo (.int y :: .int x :: st) mm Fi :=
  fun p e R s m args below meth c mc ms H locs cells slots ls C h1 h2 h3 hl => lv_irem C.2.1 C.2.2.1 hd hne (k p e R s m args below meth c mc ms H locs cells slots ls C h1 h2 h3 hl)
theorem V_ineg {x : Int32} (hd : decode t.2.1 pc = .ok (.ineg, 1)) (k : V g t fr lc bc bs (pc + 1) lo (.int (-x) :: st) mm Fi) : V g t fr lc bc bs pc lo (.int x :: st) mm Fi :=
  fun p e R s m args below meth c mc ms H locs cells slots ls C h1 h2 h3 hl => lv_ineg C.2.1 C.2.2.1 hd (k p e R s m args below meth c mc ms H locs cells slots ls C h1 h2 h3 hl)
theorem V_i2l {x : Int32} (hd : decode t.2.1 pc = .ok (.i2l, 1)) (k : V g t fr lc bc bs (pc + 1) lo (.long x.toInt64 :: st) mm Fi) : V g t fr lc bc bs pc lo (.int x :: st) mm Fi :=
  fun p e R s m args below meth c mc ms H locs cells slots ls C h1 h2 h3 hl => lv_i2l C.2.1 C.2.2.1 hd rfl (k p e R s m args below meth c mc ms H locs cells slots ls C h1 h2 h3 hl)
theorem V_iconst {n : Int} {v : Int32} (hd : decode t.2.1 pc = .ok (.iconst n, 1)) (hv : Int32.ofInt n = v) (k : V g t fr lc bc bs (pc + 1) lo (.int v :: st) mm Fi) : V g t fr lc bc bs pc lo (st) mm Fi :=
  fun p e R s m args below meth c mc ms H locs cells slots ls C h1 h2 h3 hl => lv_iconst C.2.1 C.2.2.1 hd hv (k p e R s m args below meth c mc ms H locs cells slots ls C h1 h2 h3 hl)
theorem V_bipush {n : Int} {v : Int32} (hd : decode t.2.1 pc = .ok (.bipush n, 2)) (hv : (Int8.ofInt n).toInt32 = v) (k : V g t fr lc bc bs (pc + 2) lo (.int v :: st) mm Fi) : V g t fr lc bc bs pc lo (st) mm Fi :=
  fun p e R s m args below meth c mc ms H locs cells slots ls C h1 h2 h3 hl => lv_bipush C.2.1 C.2.2.1 hd hv (k p e R s m args below meth c mc ms H locs cells slots ls C h1 h2 h3 hl)
theorem V_sipush {n : Int} {v : Int32} (hd : decode t.2.1 pc = .ok (.sipush n, 3)) (hv : (Int16.ofInt n).toInt32 = v) (k : V g t fr lc bc bs (pc + 3) lo (.int v :: st) mm Fi) : V g t fr lc bc bs pc lo (st) mm Fi :=
  fun p e R s m args below meth c mc ms H locs cells slots ls C h1 h2 h3 hl => lv_sipush C.2.1 C.2.2.1 hd hv (k p e R s m args below meth c mc ms H locs cells slots ls C h1 h2 h3 hl)
theorem V_lconst {n : Fin 2} {v : Int64} (hd : decode t.2.1 pc = .ok (.lconst n, 1)) (hv : Int64.ofNat (n : Nat) = v) (k : V g t fr lc bc bs (pc + 1) lo (.long v :: st) mm Fi) : V g t fr lc bc bs pc lo (st) mm Fi :=
  fun p e R s m args below meth c mc ms H locs cells slots ls C h1 h2 h3 hl => lv_lconst C.2.1 C.2.2.1 hd hv (k p e R s m args below meth c mc ms H locs cells slots ls C h1 h2 h3 hl)
theorem V_null (hd : decode t.2.1 pc = .ok (.aconst_null, 1)) (k : V g t fr lc bc bs (pc + 1) lo (.null :: st) mm Fi) : V g t fr lc bc bs pc lo (st) mm Fi :=
  fun p e R s m args below meth c mc ms H locs cells slots ls C h1 h2 h3 hl => lv_null C.2.1 C.2.2.1 hd (k p e R s m args below meth c mc ms H locs cells slots ls C h1 h2 h3 hl)
theorem V_iload_n {k9 : Fin 4} {i : Nat} {x : Int32} (hd : decode t.2.1 pc = .ok (.iload_n k9, 1)) (hi : (k9 : Nat) = i) (hk : lkp i lo = some (.int x)) (k : V g t fr lc bc bs (pc + 1) lo (.int x :: st) mm Fi) : V g t fr lc bc bs pc lo (st) mm Fi :=
  fun p e R s m args below meth c mc ms H locs cells slots ls C h1 h2 h3 hl => lv_iload_n C.2.1 C.2.2.1 hd hi (hl.at hk) (k p e R s m args below meth c mc ms H locs cells slots ls C h1 h2 h3 hl)
theorem V_iload {i : Nat} {x : Int32} (hd : decode t.2.1 pc = .ok (.iload i, 2)) (hk : lkp i lo = some (.int x)) (k : V g t fr lc bc bs (pc + 2) lo (.int x :: st) mm Fi) : V g t fr lc bc bs pc lo (st) mm Fi :=
  fun p e R s m args below meth c mc ms H locs cells slots ls C h1 h2 h3 hl => lv_iload C.2.1 C.2.2.1 hd (hl.at hk) (k p e R s m args below meth c mc ms H locs cells slots ls C h1 h2 h3 hl)
theorem V_aload_n {k9 : Fin 4} {i : Nat} {x : Nat} (hd : decode t.2.1 pc = .ok (.aload_n k9, 1)) (hi : (k9 : Nat) = i) (hk : lkp i lo = some (.ref x)) (k : V g t fr lc bc bs (pc + 1) lo (.ref x :: st) mm Fi) : V g t fr lc bc bs pc lo (st) mm Fi :=
  fun p e R s m args below meth c mc ms H locs cells slots ls C h1 h2 h3 hl => lv_aload_n C.2.1 C.2.2.1 hd hi (hl.at hk) (k p e R s m args below meth c mc ms H locs cells slots ls C h1 h2 h3 hl)
theorem V_aload {i : Nat} {x : Nat} (hd : decode t.2.1 pc = .ok (.aload i, 2)) (hk : lkp i lo = some (.ref x)) (k : V g t fr lc bc bs (pc + 2) lo (.ref x :: st) mm Fi) : V g t fr lc bc bs pc lo (st) mm Fi :=
  fun p e R s m args below meth c mc ms H locs cells slots ls C h1 h2 h3 hl => lv_aload C.2.1 C.2.2.1 hd (hl.at hk) (k p e R s m args below meth c mc ms H locs cells slots ls C h1 h2 h3 hl)
theorem V_aloadN_n {k9 : Fin 4} {i : Nat} (hd : decode t.2.1 pc = .ok (.aload_n k9, 1)) (hi : (k9 : Nat) = i) (hk : lkp i lo = some .null) (k : V g t fr lc bc bs (pc + 1) lo (.null :: st) mm Fi) : V g t fr lc bc bs pc lo (st) mm Fi :=
  fun p e R s m args below meth c mc ms H locs cells slots ls C h1 h2 h3 hl => lv_aload_nN C.2.1 C.2.2.1 hd hi (hl.at hk) (k p e R s m args below meth c mc ms H locs cells slots ls C h1 h2 h3 hl)
theorem V_aloadN {i : Nat} (hd : decode t.2.1 pc = .ok (.aload i, 2)) (hk : lkp i lo = some .null) (k : V g t fr lc bc bs (pc + 2) lo (.null :: st) mm Fi) : V g t fr lc bc bs pc lo (st) mm Fi :=
  fun p e R s m args below meth c mc ms H locs cells slots ls C h1 h2 h3 hl => lv_aloadN C.2.1 C.2.2.1 hd (hl.at hk) (k p e R s m args below meth c mc ms H locs cells slots ls C h1 h2 h3 hl)
theorem V_dup {v : Value} (hd : decode t.2.1 pc = .ok (.dup, 1)) (hv : v.category = 1) (k : V g t fr lc bc bs (pc + 1) lo (v :: v :: st) mm Fi) : V g t fr lc bc bs pc lo (v :: st) mm Fi :=
  fun p e R s m args below meth c mc ms H locs cells slots ls C h1 h2 h3 hl => lv_dup C.2.1 C.2.2.1 hd hv (k p e R s m args below meth c mc ms H locs cells slots ls C h1 h2 h3 hl)
theorem V_pop {v : Value} (hd : decode t.2.1 pc = .ok (.pop, 1)) (hv : v.category = 1) (k : V g t fr lc bc bs (pc + 1) lo (st) mm Fi) : V g t fr lc bc bs pc lo (v :: st) mm Fi :=
  fun p e R s m args below meth c mc ms H locs cells slots ls C h1 h2 h3 hl => lv_pop C.2.1 C.2.2.1 hd hv (k p e R s m args below meth c mc ms H locs cells slots ls C h1 h2 h3 hl)
theorem V_dup_x1 {v w : Value} (hd : decode t.2.1 pc = .ok (.dup_x1, 1)) (hv : v.category = 1) (hw : w.category = 1) (k : V g t fr lc bc bs (pc + 1) lo (v :: w :: v :: st) mm Fi) : V g t fr lc bc bs pc lo (v :: w :: st) mm Fi :=
  fun p e R s m args below meth c mc ms H locs cells slots ls C h1 h2 h3 hl => lv_dup_x1 C.2.1 C.2.2.1 hd hv hw (k p e R s m args below meth c mc ms H locs cells slots ls C h1 h2 h3 hl)
theorem V_dup_x2 {v w u : Value} (hd : decode t.2.1 pc = .ok (.dup_x2, 1)) (hv : v.category = 1) (hw : w.category = 1) (hu : u.category = 1) (k : V g t fr lc bc bs (pc + 1) lo (v :: w :: u :: v :: st) mm Fi) : V g t fr lc bc bs pc lo (v :: w :: u :: st) mm Fi :=
  fun p e R s m args below meth c mc ms H locs cells slots ls C h1 h2 h3 hl => lv_dup_x2 C.2.1 C.2.2.1 hd hv hw hu (k p e R s m args below meth c mc ms H locs cells slots ls C h1 h2 h3 hl)
theorem V_dup2 {v w : Value} (hd : decode t.2.1 pc = .ok (.dup2, 1)) (hv : v.category = 1) (hw : w.category = 1) (k : V g t fr lc bc bs (pc + 1) lo (v :: w :: v :: w :: st) mm Fi) : V g t fr lc bc bs pc lo (v :: w :: st) mm Fi :=
  fun p e R s m args below meth c mc ms H locs cells slots ls C h1 h2 h3 hl => lv_dup2_11 C.2.1 C.2.2.1 hd hv hw (k p e R s m args below meth c mc ms H locs cells slots ls C h1 h2 h3 hl)
theorem V_lcmp {x y : Int64} (hd : decode t.2.1 pc = .ok (.lcmp, 1)) (k : V g t fr lc bc bs (pc + 1) lo (.int (lg_cmp x y) :: st) mm Fi) : V g t fr lc bc bs pc lo (.long y :: .long x :: st) mm Fi :=
  fun p e R s m args below meth c mc ms H locs cells slots ls C h1 h2 h3 hl => W.lcmp C.2.1 C.2.2.1 hd (k p e R s m args below meth c mc ms H locs cells slots ls C h1 h2 h3 hl)
theorem V_istore_n {k9 : Fin 4} {i : Nat} {x : Int32} (hd : decode t.2.1 pc = .ok (.istore_n k9, 1)) (hi : (k9 : Nat) = i) (hn : Nat.blt i t.2.2.1 = true) (k : V g t fr lc bc bs (pc + 1) ((i, .int x) :: rmv i lo) st mm Fi) : V g t fr lc bc bs pc lo (.int x :: st) mm Fi :=
  fun p e R s m args below meth c mc ms H locs cells slots ls C h1 h2 h3 hl => lv_istore_n C.2.1 C.2.2.1 hd hi hl.1 (Nat.le_of_ble_eq_true hn) rfl (fun ls' h' => k p e R s m args below meth c mc ms H locs cells slots ls' C h1 h2 h3 (hl.st rfl h'))
theorem V_istore {i : Nat} {x : Int32} (hd : decode t.2.1 pc = .ok (.istore i, 2)) (hn : Nat.blt i t.2.2.1 = true) (k : V g t fr lc bc bs (pc + 2) ((i, .int x) :: rmv i lo) st mm Fi) : V g t fr lc bc bs pc lo (.int x :: st) mm Fi :=
  fun p e R s m args below meth c mc ms H locs cells slots ls C h1 h2 h3 hl => lv_istore C.2.1 C.2.2.1 hd hl.1 (Nat.le_of_ble_eq_true hn) rfl (fun ls' h' => k p e R s m args below meth c mc ms H locs cells slots ls' C h1 h2 h3 (hl.st rfl h'))
theorem V_astore_n {k9 : Fin 4} {i : Nat} {x : Nat} (hd : decode t.2.1 pc = .ok (.astore_n k9, 1)) (hi : (k9 : Nat) = i) (hn : Nat.blt i t.2.2.1 = true) (k : V g t fr lc bc bs (pc + 1) ((i, .ref x) :: rmv i lo) st mm Fi) : V g t fr lc bc bs pc lo (.ref x :: st) mm Fi :=
  fun p e R s m args below meth c mc ms H locs cells slots ls C h1 h2 h3 hl => lv_astore_n C.2.1 C.2.2.1 hd hi hl.1 (Nat.le_of_ble_eq_true hn) rfl (fun ls' h' => k p e R s m args below meth c mc ms H locs cells slots ls' C h1 h2 h3 (hl.st rfl h'))
theorem V_astore {i : Nat} {x : Nat} (hd : decode t.2.1 pc = .ok (.astore i, 2)) (hn : Nat.blt i t.2.2.1 = true) (k : V g t fr lc bc bs (pc + 2) ((i, .ref x) :: rmv i lo) st mm Fi) : V g t fr lc bc bs pc lo (.ref x :: st) mm Fi :=
  fun p e R s m args below meth c mc ms H locs cells slots ls C h1 h2 h3 hl => lv_astore C.2.1 C.2.2.1 hd hl.1 (Nat.le_of_ble_eq_true hn) rfl (fun ls' h' => k p e R s m args below meth c mc ms H locs cells slots ls' C h1 h2 h3 (hl.st rfl h'))
theorem V_astoreN_n {k9 : Fin 4} {i : Nat} (hd : decode t.2.1 pc = .ok (.astore_n k9, 1)) (hi : (k9 : Nat) = i) (hn : Nat.blt i t.2.2.1 = true) (k : V g t fr lc bc bs (pc + 1) ((i, .null) :: rmv i lo) st mm Fi) : V g t fr lc bc bs pc lo (.null :: st) mm Fi :=
  fun p e R s m args below meth c mc ms H locs cells slots ls C h1 h2 h3 hl => lv_astore_nN C.2.1 C.2.2.1 hd hi hl.1 (Nat.le_of_ble_eq_true hn) rfl (fun ls' h' => k p e R s m args below meth c mc ms H locs cells slots ls' C h1 h2 h3 (hl.st rfl h'))
theorem V_astoreN {i : Nat} (hd : decode t.2.1 pc = .ok (.astore i, 2)) (hn : Nat.blt i t.2.2.1 = true) (k : V g t fr lc bc bs (pc + 2) ((i, .null) :: rmv i lo) st mm Fi) : V g t fr lc bc bs pc lo (.null :: st) mm Fi :=
  fun p e R s m args below meth c mc ms H locs cells slots ls C h1 h2 h3 hl => lv_astoreN C.2.1 C.2.2.1 hd hl.1 (Nat.le_of_ble_eq_true hn) rfl (fun ls' h' => k p e R s m args below meth c mc ms H locs cells slots ls' C h1 h2 h3 (hl.st rfl h'))
theorem V_iinc {i : Nat} {n : Int} {x v : Int32} (hd : decode t.2.1 pc = .ok (.iinc i n, 3)) (hk : lkp i lo = some (.int x)) (hv : x + Int32.ofInt n = v) (hn : Nat.blt i t.2.2.1 = true) (k : V g t fr lc bc bs (pc + 3) ((i, .int v) :: rmv i lo) st mm Fi) : V g t fr lc bc bs pc lo st mm Fi := by
  intro p e R s m args below meth c mc ms H locs cells slots ls C h1 h2 h3 hl
  obtain ⟨j, hj⟩ := List.getElem?_of_mem (lkp_mem hk)
  exact lv_iinc C.2.1 C.2.2.1 hd hl.1 hj hv (Nat.le_of_ble_eq_true hn) rfl (fun ls' h' => k p e R s m args below meth c mc ms H locs cells slots ls' C h1 h2 h3 (hl.st rfl h'))
theorem V_if_eq {x : Int32} {off : Int} {tgt : Nat} (hd : decode t.2.1 pc = .ok (.ifCond .eq off, 3)) (ht : (pc : Int) + off = (tgt : Int)) (kt : x = 0 → V g t fr lc bc bs tgt lo st mm Fi) (kf : ¬ x = 0 → V g t fr lc bc bs (pc + 3) lo st mm Fi) : V g t fr lc bc bs pc lo (.int x :: st) mm Fi :=
  fun p e R s m args below meth c mc ms H locs cells slots ls C h1 h2 h3 hl => lv_if_eq C.2.1 C.2.2.1 hd ht (fun z => kt z p e R s m args below meth c mc ms H locs cells slots ls C h1 h2 h3 hl) (fun z => kf z p e R s m args below meth c mc ms H locs cells slots ls C h1 h2 h3 hl)
theorem V_icmp_eq {x y : Int32} {off : Int} {tgt : Nat} (hd : decode t.2.1 pc = .ok (.if_icmp .eq off, 3)) (ht : (pc : Int) + off = (tgt : Int)) (kt : x = y → V g t fr lc bc bs tgt lo st mm Fi) (kf : ¬ x = y → V g t fr lc bc bs (pc + 3) lo st mm Fi) : V g t fr lc bc bs pc lo (.int y :: .int x :: st) mm Fi :=
  fun p e R s m args below meth c mc ms H locs cells slots ls C h1 h2 h3 hl => lv_icmp_eq C.2.1 C.2.2.1 hd ht (fun z => kt z p e R s m args below meth c mc ms H locs cells slots ls C h1 h2 h3 hl) (fun z => kf z p e R s m args below meth c mc ms H locs cells slots ls C h1 h2 h3 hl)
theorem V_if_ne {x : Int32} {off : Int} {tgt : Nat} (hd : decode t.2.1 pc = .ok (.ifCond .ne off, 3)) (ht : (pc : Int) + off = (tgt : Int)) (kt : ¬ x = 0 → V g t fr lc bc bs tgt lo st mm Fi) (kf : x = 0 → V g t fr lc bc bs (pc + 3) lo st mm Fi) : V g t fr lc bc bs pc lo (.int x :: st) mm Fi :=
  fun p e R s m args below meth c mc ms H locs cells slots ls C h1 h2 h3 hl => lv_if_ne C.2.1 C.2.2.1 hd ht (fun z => kt z p e R s m args below meth c mc ms H locs cells slots ls C h1 h2 h3 hl) (fun z => kf z p e R s m args below meth c mc ms H locs cells slots ls C h1 h2 h3 hl)
theorem V_icmp_ne {x y : Int32} {off : Int} {tgt : Nat} (hd : decode t.2.1 pc = .ok (.if_icmp .ne off, 3)) (ht : (pc : Int) + off = (tgt : Int)) (kt : ¬ x = y → V g t fr lc bc bs tgt lo st mm Fi) (kf : x = y → V g t fr lc bc bs (pc + 3) lo st mm Fi) : V g t fr lc bc bs pc lo (.int y :: .int x :: st) mm Fi :=
  fun p e R s m args below meth c mc ms H locs cells slots ls C h1 h2 h3 hl => lv_icmp_ne C.2.1 C.2.2.1 hd ht (fun z => kt z p e R s m args below meth c mc ms H locs cells slots ls C h1 h2 h3 hl) (fun z => kf z p e R s m args below meth c mc ms H locs cells slots ls C h1 h2 h3 hl)
theorem V_if_lt {x : Int32} {off : Int} {tgt : Nat} (hd : decode t.2.1 pc = .ok (.ifCond .lt off, 3)) (ht : (pc : Int) + off = (tgt : Int)) (kt : x < 0 → V g t fr lc bc bs tgt lo st mm Fi) (kf : ¬ x < 0 → V g t fr lc bc bs (pc + 3) lo st mm Fi) : V g t fr lc bc bs pc lo (.int x :: st) mm Fi :=
  fun p e R s m args below meth c mc ms H locs cells slots ls C h1 h2 h3 hl => lv_if_lt C.2.1 C.2.2.1 hd ht (fun z => kt z p e R s m args below meth c mc ms H locs cells slots ls C h1 h2 h3 hl) (fun z => kf z p e R s m args below meth c mc ms H locs cells slots ls C h1 h2 h3 hl)
theorem V_icmp_lt {x y : Int32} {off : Int} {tgt : Nat} (hd : decode t.2.1 pc = .ok (.if_icmp .lt off, 3)) (ht : (pc : Int) + off = (tgt : Int)) (kt : x < y → V g t fr lc bc bs tgt lo st mm Fi) (kf : ¬ x < y → V g t fr lc bc bs (pc + 3) lo st mm Fi) : V g t fr lc bc bs pc lo (.int y :: .int x :: st) mm Fi :=
  fun p e R s m args below meth c mc ms H locs cells slots ls C h1 h2 h3 hl => lv_icmp_lt C.2.1 C.2.2.1 hd ht (fun z => kt z p e R s m args below meth c mc ms H locs cells slots ls C h1 h2 h3 hl) (fun z => kf z p e R s m args below meth c mc ms H locs cells slots ls C h1 h2 h3 hl)
theorem V_if_ge {x : Int32} {off : Int} {tgt : Nat} (hd : decode t.2.1 pc = .ok (.ifCond .ge off, 3)) (ht : (pc : Int) + off = (tgt : Int)) (kt : 0 ≤ x → V g t fr lc bc bs tgt lo st mm Fi) (kf : ¬ 0 ≤ x → V g t fr lc bc bs (pc + 3) lo st mm Fi) : V g t fr lc bc bs pc lo (.int x :: st) mm Fi :=
  fun p e R s m args below meth c mc ms H locs cells slots ls C h1 h2 h3 hl => lv_if_ge C.2.1 C.2.2.1 hd ht (fun z => kt z p e R s m args below meth c mc ms H locs cells slots ls C h1 h2 h3 hl) (fun z => kf z p e R s m args below meth c mc ms H locs cells slots ls C h1 h2 h3 hl)
theorem V_icmp_ge {x y : Int32} {off : Int} {tgt : Nat} (hd : decode t.2.1 pc = .ok (.if_icmp .ge off, 3)) (ht : (pc : Int) + off = (tgt : Int)) (kt : y ≤ x → V g t fr lc bc bs tgt lo st mm Fi) (kf : ¬ y ≤ x → V g t fr lc bc bs (pc + 3) lo st mm Fi) : V g t fr lc bc bs pc lo (.int y :: .int x :: st) mm Fi :=
  fun p e R s m args below meth c mc ms H locs cells slots ls C h1 h2 h3 hl => lv_icmp_ge C.2.1 C.2.2.1 hd ht (fun z => kt z p e R s m args below meth c mc ms H locs cells slots ls C h1 h2 h3 hl) (fun z => kf z p e R s m args below meth c mc ms H locs cells slots ls C h1 h2 h3 hl)
theorem V_if_gt {x : Int32} {off : Int} {tgt : Nat} (hd : decode t.2.1 pc = .ok (.ifCond .gt off, 3)) (ht : (pc : Int) + off = (tgt : Int)) (kt : 0 < x → V g t fr lc bc bs tgt lo st mm Fi) (kf : ¬ 0 < x → V g t fr lc bc bs (pc + 3) lo st mm Fi) : V g t fr lc bc bs pc lo (.int x :: st) mm Fi :=
  fun p e R s m args below meth c mc ms H locs cells slots ls C h1 h2 h3 hl => lv_if_gt C.2.1 C.2.2.1 hd ht (fun z => kt z p e R s m args below meth c mc ms H locs cells slots ls C h1 h2 h3 hl) (fun z => kf z p e R s m args below meth c mc ms H locs cells slots ls C h1 h2 h3 hl)
theorem V_icmp_gt {x y : Int32} {off : Int} {tgt : Nat} (hd : decode t.2.1 pc = .ok (.if_icmp .gt off, 3)) (ht : (pc : Int) + off = (tgt : Int)) (kt : y < x → V g t fr lc bc bs tgt lo st mm Fi) (kf : ¬ y < x → V g t fr lc bc bs (pc + 3) lo st mm Fi) : V g t fr lc bc bs pc lo (.int y :: .int x :: st) mm Fi :=
  fun p e R s m args below meth c mc ms H locs cells slots ls C h1 h2 h3 hl => lv_icmp_gt C.2.1 C.2.2.1 hd ht (fun z => kt z p e R s m args below meth c mc ms H locs cells slots ls C h1 h2 h3 hl) (fun z => kf z p e R s m args below meth c mc ms H locs cells slots ls C h1 h2 h3 hl)
theorem V_if_le {x : Int32} {off : Int} {tgt : Nat} (hd : decode t.2.1 pc = .ok (.ifCond .le off, 3)) (ht : (pc : Int) + off = (tgt : Int)) (kt : x ≤ 0 → V g t fr lc bc bs tgt lo st mm Fi) (kf : ¬ x ≤ 0 → V g t fr lc bc bs (pc + 3) lo st mm Fi) : V g t fr lc bc bs pc lo (.int x :: st) mm Fi :=
  fun p e R s m args below meth c mc ms H locs cells slots ls C h1 h2 h3 hl => lv_if_le C.2.1 C.2.2.1 hd ht (fun z => kt z p e R s m args below meth c mc ms H locs cells slots ls C h1 h2 h3 hl) (fun z => kf z p e R s m args below meth c mc ms H locs cells slots ls C h1 h2 h3 hl)
theorem V_icmp_le {x y : Int32} {off : Int} {tgt : Nat} (hd : decode t.2.1 pc = .ok (.if_icmp .le off, 3)) (ht : (pc : Int) + off = (tgt : Int)) (kt : x ≤ y → V g t fr lc bc bs tgt lo st mm Fi) (kf : ¬ x ≤ y → V g t fr lc bc bs (pc + 3) lo st mm Fi) : V g t fr lc bc bs pc lo (.int y :: .int x :: st) mm Fi :=
  fun p e R s m args below meth c mc ms H locs cells slots ls C h1 h2 h3 hl => lv_icmp_le C.2.1 C.2.2.1 hd ht (fun z => kt z p e R s m args below meth c mc ms H locs cells slots ls C h1 h2 h3 hl) (fun z => kf z p e R s m args below meth c mc ms H locs cells slots ls C h1 h2 h3 hl)
theorem V_goto {off : Int} {tgt : Nat} (hd : decode t.2.1 pc = .ok (.goto off, 3)) (ht : (pc : Int) + off = (tgt : Int)) (k : V g t fr lc bc bs tgt lo st mm Fi) : V g t fr lc bc bs pc lo st mm Fi :=
  fun p e R s m args below meth c mc ms H locs cells slots ls C h1 h2 h3 hl => lv_goto C.2.1 C.2.2.1 hd ht (k p e R s m args below meth c mc ms H locs cells slots ls C h1 h2 h3 hl)
theorem V_ifnonnull {r : Option Nat} {off : Int} {tgt : Nat} (hd : decode t.2.1 pc = .ok (.ifnonnull off, 3)) (ht : (pc : Int) + off = (tgt : Int)) (kt : ∀ x, r = some x → V g t fr lc bc bs tgt lo st mm Fi) (kf : r = none → V g t fr lc bc bs (pc + 3) lo st mm Fi) : V g t fr lc bc bs pc lo (va_rf r :: st) mm Fi := by
  intro p e R s m args below meth c mc ms H locs cells slots ls C h1 h2 h3 hl
  cases r with
  | none => exact lv_ifnonnullN C.2.1 C.2.2.1 hd (kf rfl p e R s m args below meth c mc ms H locs cells slots ls C h1 h2 h3 hl)
  | some x => exact lv_ifnonnull C.2.1 C.2.2.1 hd ht (kt x rfl p e R s m args below meth c mc ms H locs cells slots ls C h1 h2 h3 hl)
theorem V_ifnull {r : Option Nat} {off : Int} {tgt : Nat} (hd : decode t.2.1 pc = .ok (.ifnull off, 3)) (ht : (pc : Int) + off = (tgt : Int)) (kt : r = none → V g t fr lc bc bs tgt lo st mm Fi) (kf : ∀ x, r = some x → V g t fr lc bc bs (pc + 3) lo st mm Fi) : V g t fr lc bc bs pc lo (va_rf r :: st) mm Fi := by
  intro p e R s m args below meth c mc ms H locs cells slots ls C h1 h2 h3 hl
  cases r with
  | none => exact lv_ifnullN C.2.1 C.2.2.1 hd ht (kt rfl p e R s m args below meth c mc ms H locs cells slots ls C h1 h2 h3 hl)
  | some x => exact lv_ifnull C.2.1 C.2.2.1 hd (kf x rfl p e R s m args below meth c mc ms H locs cells slots ls C h1 h2 h3 hl)
theorem V_tabIn {dflt lo9 hi9 : Int} {offs : Array Int} {len : Nat} {x : Int32} {off : Int} {tgt : Nat} (hd : decode t.2.1 pc = .ok (.tableswitch dflt lo9 hi9 offs, len)) (h1 : ¬ x.toInt < lo9) (h2 : ¬ hi9 < x.toInt) (ho : offs[(x.toInt - lo9).toNat]? = some off) (ht : (pc : Int) + off = (tgt : Int)) (k : V g t fr lc bc bs tgt lo st mm Fi) : V g t fr lc bc bs pc lo (.int x :: st) mm Fi :=
  fun p e R s m args below meth c mc ms H locs cells slots ls C g1 g2 g3 hl => lv_tableIn C.2.1 C.2.2.1 hd h1 h2 ho ht (k p e R s m args below meth c mc ms H locs cells slots ls C g1 g2 g3 hl)
theorem V_tabOut {dflt lo9 hi9 : Int} {offs : Array Int} {len : Nat} {x : Int32} {tgt : Nat} (hd : decode t.2.1 pc = .ok (.tableswitch dflt lo9 hi9 offs, len)) (h : x.toInt < lo9 ∨ hi9 < x.toInt) (ht : (pc : Int) + dflt = (tgt : Int)) (k : V g t fr lc bc bs tgt lo st mm Fi) : V g t fr lc bc bs pc lo (.int x :: st) mm Fi :=
  fun p e R s m args below meth c mc ms H locs cells slots ls C g1 g2 g3 hl => lv_tableOut C.2.1 C.2.2.1 hd h ht (k p e R s m args below meth c mc ms H locs cells slots ls C g1 g2 g3 hl)
theorem V_lo (lo' : List (Nat × Value)) (hc : chk lo' lo) (k : V g t fr lc bc bs pc lo' st mm Fi) : V g t fr lc bc bs pc lo st mm Fi :=
  fun p e R s m args below meth c mc ms H locs cells slots ls C h1 h2 h3 hl => k p e R s m args below meth c mc ms H locs cells slots ls C h1 h2 h3 ⟨⟨hl.1.1, hl.1.2.1, fun q hq => hl.1.2.2 q (chk_mem hc hq)⟩, fun q hq => hl.2 q (chk_mem hc hq)⟩
theorem V_bud {bc' bs' : Nat} (hc : bc' ≤ bc) (hs : bs' ≤ bs) (k : V g t fr lc bc' bs' pc lo st mm Fi) : V g t fr lc bc bs pc lo st mm Fi :=
  fun p e R s m args below meth c mc ms H locs cells slots ls C h1 h2 h3 hl => k p e R s m args below meth c mc ms H locs cells slots ls C h1 (Nat.le_trans (Nat.add_le_add_left hc _) h2) (Nat.le_trans (Nat.add_le_add_left hs _) h3) hl
/-- a class of the worlds: its number, name, fields; the words on its fields -/
def KF (ci : Nat) (C : String) (T : u_T) (N : Nat) : Prop := vwCl[ci]? = some (C, T, N) ∧ ∀ w ∈ u_ws C T N, w ∈ lw_tbl
def KG (ci : Nat) (C : String) (T : u_T) (N : Nat) (ty0 : Nat → FieldType) : Prop := KF ci C T N ∧ (∀ k, k < N → parseFieldDescriptor (T k).2.2.1 = some (ty0 k)) ∧ ∀ a, a < N → ∀ b, b < N → a ≠ b → (T a).2.1 ≠ (T b).2.1
def lkF (own : String) (idx : Nat) (a b d : String) : Prop := Cond.fieldLink own idx a b d ∈ lw_tbl ∨ ∃ host, Cond.fieldLinkNest own idx a b d host ∈ lw_tbl
/-- the entry idx of the class own names field k of class ci -/
def FL (own : String) (idx ci k : Nat) : Prop := ∃ (C : String) (T : u_T) (N : Nat), KF ci C T N ∧ k < N ∧ lkF own idx (T k).1 (T k).2.1 (T k).2.2.1
def PF (own : String) (idx ci k : Nat) (ty : FieldType) : Prop := ∃ (T : u_T) (N : Nat) (ty0 : Nat → FieldType), KG ci own T N ty0 ∧ k < N ∧ ty0 k = ty ∧ (T k).2.2.2 = true ∧ (T k).1 = own ∧ Cond.fieldLink own idx (T k).1 (T k).2.1 (T k).2.2.1 ∈ lw_tbl
def PL (own : String) (idx ci k : Nat) (ty : FieldType) : Prop := ∃ (C : String) (T : u_T) (N : Nat) (ty0 : Nat → FieldType), KG ci C T N ty0 ∧ k < N ∧ ty0 k = ty ∧ (T k).2.2.2 = false ∧ lkF own idx (T k).1 (T k).2.1 (T k).2.2.1
/-- the entry idx of the class own names class ci, which can be made: N slots, fs its fields at first -/
def NL (own : String) (idx ci N : Nat) (fs : List Value) : Prop := ∃ (C : String) (T : u_T) (ty0 : Nat → FieldType), KG ci C T N ty0 ∧ (∀ j, j < N → defaultValue (ty0 j) = vp_V fs j) ∧ Cond.classLink own idx C ∈ lw_tbl ∧ Cond.instantiable C N ∈ lw_tbl ∧ Cond.initialized C ∈ lw_tbl
theorem u_good {C : String} {T : u_T} {N : Nat} : ∀ w ∈ u_ws C T N, goodWord w = true := by
  intro w hw
  obtain ⟨k, -, rfl⟩ := List.mem_map.mp hw
  unfold u_lay
  split <;> rfl
theorem Cx.nF (C : Cx g t fr lc p e R s m args below meth c mc ms) {a1 : String} {i : Nat} {b1 n1 d1 h1 : String} (h : Cond.fieldLinkNest a1 i b1 n1 d1 h1 ∈ lw_tbl) : (Cond.fieldLinkNest a1 i b1 n1 d1 h1).before args s = true :=
  va_Nw.use rfl (va_Nw.warmF C.2.2.2.2.2.2.2.1 (va_Nw.of rfl (C.1.1 _ h)))
theorem Cx.nM (C : Cx g t fr lc p e R s m args below meth c mc ms) {a1 : String} {i : Nat} {x : MethodName} {h1 : String} (h : Cond.methodLinkNest a1 i x h1 ∈ lw_tbl) : (Cond.methodLinkNest a1 i x h1).before args s = true :=
  va_Nw.use rfl (va_Nw.warmM C.2.2.2.2.2.2.2.1 (va_Nw.of rfl (C.1.1 _ h)))
theorem pl_at {L : List Nat} {f : Nat → va_E} {a : Nat} {x : va_E} (ha : a ∈ L) (hf : f a = x) : ∃ k : Nat, (va_pl L f)[k]? = some (a, x) := by
  obtain ⟨k, hk⟩ := va_pl_get (X := []) (f := f) ha
  rw [List.nil_append, hf] at hk
  exact ⟨k, hk⟩
theorem pl_set {A : Nat → Prop} {L : List Nat} {f : Nat → va_E} {a k : Nat} {x x' : va_E} (hD : va_D A (va_pl L f)) (ha : a ∈ L) (hf : f a = x) (hk : (va_pl L f)[k]? = some (a, x)) : (va_pl L f).set k (a, x') = va_pl L (va_up f a x') := by
  subst hf
  have h := va_pl_set (X := []) (e := x') (by rw [List.nil_append]; exact hD) ha (by rw [List.nil_append]; exact hk)
  rw [List.nil_append, List.nil_append] at h
  exact h
theorem V_get {idx a ci k : Nat} {fs : List Value} {v : Value} (hF : FL t.1.cls idx ci k) (hd : decode t.2.1 pc = .ok (.getfield idx, 3)) (ha : a ∈ mm.2) (hf : mm.1 a = .inr (ci, fs)) (hv : fs[k]? = some v) (k9 : V g t fr lc bc bs (pc + 3) lo (v :: st) mm Fi) : V g t fr lc bc bs pc lo (.ref a :: st) mm Fi := by
  intro p e R s m args below meth c mc ms H locs cells slots ls C h1 h2 h3 hl
  obtain ⟨Cn, T, N, ⟨hc, hin⟩, hk, hlk⟩ := hF
  have hts : ∀ w ∈ u_ws Cn T N, w.before args s = true := fun w hw => C.w (hin w hw) (u_good w hw) args
  obtain ⟨q0, he⟩ := pl_at ha hf
  rcases hlk with hlk | ⟨host, hlk⟩
  · exact va_get C.2.1 C.2.2.1 hts (fun _ h => h) C.2.2.2.2.2.1 C.K h1.1 q0 he hc k hk (C.w hlk rfl args) (fun _ h => h) hv hd (k9 p e R s m args below meth c mc ms H locs cells slots ls C h1 h2 h3 hl)
  · exact va_getN C.2.1 C.2.2.1 hts (fun _ h => h) C.2.2.2.2.2.1 C.K h1.1 q0 he hc k hk (C.nF hlk) (fun _ h => h) hv hd (k9 p e R s m args below meth c mc ms H locs cells slots ls C h1 h2 h3 hl)
theorem V_put {idx a ci k : Nat} {ty : FieldType} {fs : List Value} {v : Value} (hF : PL t.1.cls idx ci k ty) (hd : decode t.2.1 pc = .ok (.putfield idx, 3)) (ha : a ∈ mm.2) (hf : mm.1 a = .inr (ci, fs)) (hn : narrow ty v = v) (hfit : fits ty v = true) (hlen : k < fs.length) (k9 : V g t fr lc bc bs (pc + 3) lo st (va_up mm.1 a (.inr (ci, fs.set k v)), mm.2) Fi) : V g t fr lc bc bs pc lo (v :: .ref a :: st) mm Fi := by
  intro p e R s m args below meth c mc ms H locs cells slots ls C h1 h2 h3 hl
  obtain ⟨Cn, T, N, ty0, ⟨⟨hc, hin⟩, hty, hnm⟩, hk, hty9, hfin, hlk⟩ := hF
  have hts : ∀ w ∈ u_ws Cn T N, w.before args s = true := fun w hw => C.w (hin w hw) (u_good w hw) args
  obtain ⟨q0, he⟩ := pl_at ha hf
  have hset := pl_set (x' := .inr (ci, fs.set k v)) h1.2.1 ha hf he
  have hdd : parseFieldDescriptor (T k).2.2.1 = some ty := by rw [hty k hk, hty9]
  rcases hlk with hlk | ⟨host, hlk⟩
  · refine va_put C.2.1 C.2.2.1 hts (fun _ h => h) ty0 hty hnm C.2.2.2.2.2.1 C.K h1.1 h1.2.1 h1.2.2 q0 he hc k hk (C.w hlk rfl args) (fun _ h => h) hfin hdd hn hfit hlen hd (fun H1 locs1 hP hD hS => ?_)
    rw [hset] at hP hD
    exact k9 p e R s m args below meth c mc ms H1 locs1 cells slots ls C ⟨hP, hD, hS⟩ h2 h3 hl
  · refine va_putN C.2.1 C.2.2.1 hts (fun _ h => h) ty0 hty hnm C.2.2.2.2.2.1 C.K h1.1 h1.2.1 h1.2.2 q0 he hc k hk (C.nF hlk) (fun _ h => h) hfin hdd hn hfit hlen hd (fun H1 locs1 hP hD hS => ?_)
    rw [hset] at hP hD
    exact k9 p e R s m args below meth c mc ms H1 locs1 cells slots ls C ⟨hP, hD, hS⟩ h2 h3 hl
/-- a final field, in a constructor of its class -/
theorem V_putF {idx a ci k : Nat} {ty : FieldType} {fs : List Value} {v : Value} (hF : PF t.1.cls idx ci k ty) (hi : t.1.name = "<init>") (hd : decode t.2.1 pc = .ok (.putfield idx, 3)) (ha : a ∈ mm.2) (hf : mm.1 a = .inr (ci, fs)) (hn : narrow ty v = v) (hfit : fits ty v = true) (hlen : k < fs.length) (k9 : V g t fr lc bc bs (pc + 3) lo st (va_up mm.1 a (.inr (ci, fs.set k v)), mm.2) Fi) : V g t fr lc bc bs pc lo (v :: .ref a :: st) mm Fi := by
  intro p e R s m args below meth c mc ms H locs cells slots ls C h1 h2 h3 hl
  obtain ⟨T, N, ty0, ⟨⟨hc, hin⟩, hty, hnm⟩, hk, hty9, hfin, hown, hlk⟩ := hF
  have hts : ∀ w ∈ u_ws t.1.cls T N, w.before args s = true := fun w hw => C.w (hin w hw) (u_good w hw) args
  obtain ⟨q0, he⟩ := pl_at ha hf
  have hset := pl_set (x' := .inr (ci, fs.set k v)) h1.2.1 ha hf he
  have hdd : parseFieldDescriptor (T k).2.2.1 = some ty := by rw [hty k hk, hty9]
  refine va_putF C.2.1 C.2.2.1 hts (fun _ h => h) ty0 hty hnm C.2.2.2.2.2.1 C.K h1.1 h1.2.1 h1.2.2 q0 he hc k hk (C.w hlk rfl args) (fun _ h => h) hfin (C.2.2.2.2.2.2.2.2.2.2.1.trans hi) hown hdd hn hfit hlen hd (fun H1 locs1 hP hD hS => ?_)
  rw [hset] at hP hD
  exact k9 p e R s m args below meth c mc ms H1 locs1 cells slots ls C ⟨hP, hD, hS⟩ h2 h3 hl
theorem V_iald {a n : Nat} {f : Nat → Int32} {i : Int32} (hd : decode t.2.1 pc = .ok (.iaload, 1)) (ha : a ∈ mm.2) (hf : mm.1 a = .inl (g.2.2.2.2 0, n, .inl f)) (hi : vp_in i n) (k : V g t fr lc bc bs (pc + 1) lo (.int (f i.toNatClampNeg) :: st) mm Fi) : V g t fr lc bc bs pc lo (.int i :: .ref a :: st) mm Fi := by
  intro p e R s m args below meth c mc ms H locs cells slots ls C h1 h2 h3 hl
  obtain ⟨q0, he⟩ := pl_at ha hf
  exact va_iald C.2.1 C.2.2.1 C.K h1.1 q0 0 he rfl hi hd (k p e R s m args below meth c mc ms H locs cells slots ls C h1 h2 h3 hl)
theorem V_lald {a n : Nat} {f : Nat → Int64} {i : Int32} (hd : decode t.2.1 pc = .ok (.laload, 1)) (ha : a ∈ mm.2) (hf : mm.1 a = .inl (g.2.2.2.2 1, n, .inr (.inl f))) (hi : vp_in i n) (k : V g t fr lc bc bs (pc + 1) lo (.long (f i.toNatClampNeg) :: st) mm Fi) : V g t fr lc bc bs pc lo (.int i :: .ref a :: st) mm Fi := by
  intro p e R s m args below meth c mc ms H locs cells slots ls C h1 h2 h3 hl
  obtain ⟨q0, he⟩ := pl_at ha hf
  exact va_lald C.2.1 C.2.2.1 C.K h1.1 q0 1 he rfl hi hd (k p e R s m args below meth c mc ms H locs cells slots ls C h1 h2 h3 hl)
theorem V_aald {a n j : Nat} {Cn : String} {f : Nat → Option Nat} {i : Int32} (hd : decode t.2.1 pc = .ok (.aaload, 1)) (hj : ∀ g : GG, (gT g)[j]? = some (g.2.2.2.2 j, .object Cn)) (ha : a ∈ mm.2) (hf : mm.1 a = .inl (g.2.2.2.2 j, n, .inr (.inr (.inr (.inr f))))) (hi : vp_in i n) (k : V g t fr lc bc bs (pc + 1) lo (va_rf (f i.toNatClampNeg) :: st) mm Fi) : V g t fr lc bc bs pc lo (.int i :: .ref a :: st) mm Fi := by
  intro p e R s m args below meth c mc ms H locs cells slots ls C h1 h2 h3 hl
  obtain ⟨q0, he⟩ := pl_at ha hf
  exact va_aldq C.2.1 C.2.2.1 C.K h1.1 q0 j he (hj g) hi hd (k p e R s m args below meth c mc ms H locs cells slots ls C h1 h2 h3 hl)
theorem V_alen {a j : Nat} {x : vp_A} {ty : FieldType} (hd : decode t.2.1 pc = .ok (.arraylength, 1)) (hj : ∀ g : GG, (gT g)[j]? = some (g.2.2.2.2 j, ty)) (ha : a ∈ mm.2) (hf : mm.1 a = .inl (g.2.2.2.2 j, x)) (k : V g t fr lc bc bs (pc + 1) lo (.int (nI x.1) :: st) mm Fi) : V g t fr lc bc bs pc lo (.ref a :: st) mm Fi := by
  intro p e R s m args below meth c mc ms H locs cells slots ls C h1 h2 h3 hl
  obtain ⟨q0, he⟩ := pl_at ha hf
  exact va_alen C.2.1 C.2.2.1 C.K h1.1 q0 j he (hj g) rfl hd (k p e R s m args below meth c mc ms H locs cells slots ls C h1 h2 h3 hl)
theorem V_iast {a n : Nat} {f : Nat → Int32} {i x : Int32} (hd : decode t.2.1 pc = .ok (.iastore, 1)) (ha : a ∈ mm.2) (hf : mm.1 a = .inl (g.2.2.2.2 0, n, .inl f)) (hi : vp_in i n) (k : V g t fr lc bc bs (pc + 1) lo st (va_up mm.1 a (.inl (g.2.2.2.2 0, n, .inl (upd f i.toNatClampNeg x))), mm.2) Fi) : V g t fr lc bc bs pc lo (.int x :: .int i :: .ref a :: st) mm Fi := by
  intro p e R s m args below meth c mc ms H locs cells slots ls C h1 h2 h3 hl
  obtain ⟨q0, he⟩ := pl_at ha hf
  have hset := pl_set (x' := .inl (g.2.2.2.2 0, n, .inl (upd f i.toNatClampNeg x))) h1.2.1 ha hf he
  refine va_iast C.2.1 C.2.2.1 C.K h1.1 h1.2.1 h1.2.2 q0 0 he rfl hi hd (fun H1 locs1 hP hD hS => ?_)
  rw [hset] at hP hD
  exact k p e R s m args below meth c mc ms H1 locs1 cells slots ls C ⟨hP, hD, hS⟩ h2 h3 hl
theorem V_last {a n : Nat} {f : Nat → Int64} {i : Int32} {x : Int64} (hd : decode t.2.1 pc = .ok (.lastore, 1)) (ha : a ∈ mm.2) (hf : mm.1 a = .inl (g.2.2.2.2 1, n, .inr (.inl f))) (hi : vp_in i n) (k : V g t fr lc bc bs (pc + 1) lo st (va_up mm.1 a (.inl (g.2.2.2.2 1, n, .inr (.inl (vp_updL f i.toNatClampNeg x)))), mm.2) Fi) : V g t fr lc bc bs pc lo (.long x :: .int i :: .ref a :: st) mm Fi := by
  intro p e R s m args below meth c mc ms H locs cells slots ls C h1 h2 h3 hl
  obtain ⟨q0, he⟩ := pl_at ha hf
  have hset := pl_set (x' := .inl (g.2.2.2.2 1, n, .inr (.inl (vp_updL f i.toNatClampNeg x)))) h1.2.1 ha hf he
  refine va_last C.2.1 C.2.2.1 C.K h1.1 h1.2.1 h1.2.2 q0 1 he rfl hi hd (fun H1 locs1 hP hD hS => ?_)
  rw [hset] at hP hD
  exact k p e R s m args below meth c mc ms H1 locs1 cells slots ls C ⟨hP, hD, hS⟩ h2 h3 hl
theorem V_aast {a n j v ci : Nat} {r : vw_C} {vs : List Value} {f : Nat → Option Nat} {i : Int32} (hd : decode t.2.1 pc = .ok (.aastore, 1)) (hj : ∀ g : GG, (gT g)[j]? = some (g.2.2.2.2 j, .object r.1)) (hc : vwCl[ci]? = some r) (ha : a ∈ mm.2) (hf : mm.1 a = .inl (g.2.2.2.2 j, n, .inr (.inr (.inr (.inr f))))) (hv : v ∈ mm.2) (hvf : mm.1 v = .inr (ci, vs)) (hi : vp_in i n) (k : V g t fr lc bc bs (pc + 1) lo st (va_up mm.1 a (.inl (g.2.2.2.2 j, n, .inr (.inr (.inr (.inr (va_up f i.toNatClampNeg (some v))))))), mm.2) Fi) : V g t fr lc bc bs pc lo (.ref v :: .int i :: .ref a :: st) mm Fi := by
  intro p e R s m args below meth c mc ms H locs cells slots ls C h1 h2 h3 hl
  obtain ⟨q0, he⟩ := pl_at ha hf
  obtain ⟨q1, he1⟩ := pl_at hv hvf
  have hset := pl_set (x' := .inl (g.2.2.2.2 j, n, .inr (.inr (.inr (.inr (va_up f i.toNatClampNeg (some v))))))) h1.2.1 ha hf he
  refine va_astq C.2.1 C.2.2.1 C.K h1.1 h1.2.1 h1.2.2 q0 j q1 ci he (hj g) he1 hc hi hd (fun H1 locs1 hP hD hS => ?_)
  rw [hset] at hP hD
  exact k p e R s m args below meth c mc ms H1 locs1 cells slots ls C ⟨hP, hD, hS⟩ h2 h3 hl
theorem V_new {idx ci N : Nat} {fs : List Value} (hN : NL t.1.cls idx ci N fs) (hd : decode t.2.1 pc = .ok (.new idx, 3)) (k : ∀ q, q ∉ mm.2 → V g t fr lc bc bs (pc + 3) lo (.ref q :: st) (va_up mm.1 q (.inr (ci, fs)), mm.2 ++ [q]) Fi) : V g t fr lc (bc + 1) (bs + N) pc lo st mm Fi := by
  intro p e R s m args below meth c mc ms H locs cells slots ls C h1 h2 h3 hl
  obtain ⟨Cn, T, ty0, ⟨⟨hc, hin⟩, hty, hnm⟩, hfs, w1, w2, w3⟩ := hN
  have hts : ∀ w ∈ u_ws Cn T N, w.before args s = true := fun w hw => C.w (hin w hw) (u_good w hw) args
  obtain ⟨r1, r2, -, -⟩ := C.2.2.2.2.2.2.2.2.2.1
  refine va_new C.2.1 C.2.2.1 hts (fun _ h => h) ty0 hty C.2.2.2.2.2.1 (C.w w1 rfl args) (C.w w2 rfl args) (C.w w3 rfl args) C.K h1.1 h1.2.1 h1.2.2 C.A hc hfs (by omega) (by omega) hd (fun q H1 hP hD hS => ?_)
  have hq : q ∉ mm.2 := va_pl_fresh2 (X := []) hD
  rw [va_pl_push hq] at hP hD
  exact k q hq p e R s m args below meth c mc ms H1 locs (cells + 1) (slots + N) ls C ⟨hP, hD, hS⟩ (by omega) (by omega) hl
/-- a new array of ints (0) or longs (1) -/
theorem V_newI {n : Int32} {N : Nat} (hw : Cond.arrayClass .int ∈ lw_tbl) (hd : decode t.2.1 pc = .ok (.newarray .int, 2)) (hn : ¬ n < 0) (hN : n.toNatClampNeg = N) (hb : N * 4 ≤ 536870912) (k : ∀ q, q ∉ mm.2 → V g t fr lc bc bs (pc + 2) lo (.ref q :: st) (va_up mm.1 q (.inl (g.2.2.2.2 0, N, .inl (fun _ => 0))), mm.2 ++ [q]) Fi) : V g t fr lc (bc + 1) (bs + N) pc lo (.int n :: st) mm Fi := by
  intro p e R s m args below meth c mc ms H locs cells slots ls C h1 h2 h3 hl
  obtain ⟨r1, r2, -, -⟩ := C.2.2.2.2.2.2.2.2.2.1
  refine va_newa (atype := .int) (ty := .int) (a0 := (N, .inl (fun _ => 0))) C.2.1 C.2.2.1 (C.w hw rfl args) rfl C.K h1.1 h1.2.1 h1.2.2 C.A (fun cA => rfl) hn hN hb (by omega) (by omega) hd (fun q cA H1 hK hP hD hS => ?_)
  have hcA : cA = g.2.2.2.2 0 := by
    have e1 := (hK.2 4 (cA, .int) rfl).2
    have e2 := (hK.2 0 (g.2.2.2.2 0, .int) rfl).2
    exact Option.some.inj (e1.symm.trans e2)
  subst hcA
  have hq : q ∉ mm.2 := va_pl_fresh2 (X := []) hD
  rw [va_pl_push hq] at hP hD
  exact k q hq p e R s m args below meth c mc ms H1 locs (cells + 1) (slots + N) ls C ⟨hP, hD, hS⟩ (by omega) (by omega) hl
theorem V_newJ {n : Int32} {N : Nat} (hw : Cond.arrayClass .long ∈ lw_tbl) (hd : decode t.2.1 pc = .ok (.newarray .long, 2)) (hn : ¬ n < 0) (hN : n.toNatClampNeg = N) (hb : N * 8 ≤ 536870912) (k : ∀ q, q ∉ mm.2 → V g t fr lc bc bs (pc + 2) lo (.ref q :: st) (va_up mm.1 q (.inl (g.2.2.2.2 1, N, .inr (.inl (fun _ => 0)))), mm.2 ++ [q]) Fi) : V g t fr lc (bc + 1) (bs + N) pc lo (.int n :: st) mm Fi := by
  intro p e R s m args below meth c mc ms H locs cells slots ls C h1 h2 h3 hl
  obtain ⟨r1, r2, -, -⟩ := C.2.2.2.2.2.2.2.2.2.1
  refine va_newa (atype := .long) (ty := .long) (a0 := (N, .inr (.inl (fun _ => 0)))) C.2.1 C.2.2.1 (C.w hw rfl args) rfl C.K h1.1 h1.2.1 h1.2.2 C.A (fun cA => rfl) hn hN hb (by omega) (by omega) hd (fun q cA H1 hK hP hD hS => ?_)
  have hcA : cA = g.2.2.2.2 1 := by
    have e1 := (hK.2 4 (cA, .long) rfl).2
    have e2 := (hK.2 1 (g.2.2.2.2 1, .long) rfl).2
    exact Option.some.inj (e1.symm.trans e2)
  subst hcA
  have hq : q ∉ mm.2 := va_pl_fresh2 (X := []) hD
  rw [va_pl_push hq] at hP hD
  exact k q hq p e R s m args below meth c mc ms H1 locs (cells + 1) (slots + N) ls C ⟨hP, hD, hS⟩ (by omega) (by omega) hl
/-- a new array of objects, number j of gT -/
theorem V_newA {n : Int32} {N j idx : Nat} {Cn : String} (w1 : Cond.classLink t.1.cls idx Cn ∈ lw_tbl) (w2 : Cond.arrayOver (.object Cn) ∈ lw_tbl) (hj : ∀ g : GG, (gT g)[j]? = some (g.2.2.2.2 j, .object Cn)) (hd : decode t.2.1 pc = .ok (.anewarray idx, 3)) (hn : ¬ n < 0) (hN : n.toNatClampNeg = N) (hb : N * 4 ≤ 536870912) (k : ∀ q, q ∉ mm.2 → V g t fr lc bc bs (pc + 3) lo (.ref q :: st) (va_up mm.1 q (.inl (g.2.2.2.2 j, N, .inr (.inr (.inr (.inr (fun _ => none)))))), mm.2 ++ [q]) Fi) : V g t fr lc (bc + 1) (bs + N) pc lo (.int n :: st) mm Fi := by
  intro p e R s m args below meth c mc ms H locs cells slots ls C h1 h2 h3 hl
  obtain ⟨r1, r2, -, -⟩ := C.2.2.2.2.2.2.2.2.2.1
  have hao : va_AO Cn s := va_AO.moved C.2.2.2.2.2.2.2.1.alike (va_AO.of (C.1.1 _ w2))
  refine va_newq C.2.1 C.2.2.1 C.2.2.2.2.2.1 (C.w w1 rfl args) hao C.K h1.1 h1.2.1 h1.2.2 C.A hn hN hb (by omega) (by omega) hd (fun q cA H1 hK hP hD hS => ?_)
  have hcA : cA = g.2.2.2.2 j := by
    obtain ⟨_, _, _, _, _, e1⟩ := (hK.2 4 (cA, .object Cn) rfl).2
    have hj2 : (gT g ++ [(cA, FieldType.object Cn)])[j]? = some (g.2.2.2.2 j, .object Cn) := by
      rw [List.getElem?_append_left (List.getElem?_eq_some_iff.mp (hj g)).1]
      exact hj g
    obtain ⟨_, _, _, _, _, e2⟩ := (hK.2 j _ hj2).2
    exact Option.some.inj (e1.symm.trans e2)
  subst hcA
  have hq : q ∉ mm.2 := va_pl_fresh2 (X := []) hD
  rw [va_pl_push hq] at hP hD
  exact k q hq p e R s m args below meth c mc ms H1 locs (cells + 1) (slots + N) ls C ⟨hP, hD, hS⟩ (by omega) (by omega) hl
theorem V_iret {v : Int32} (hd : decode t.2.1 pc = .ok (.ireturn, 1)) {ty : FieldType} (hr : t.2.2.2.1 = some ty) (hn : narrow ty (.int v) = .int v) (hF : Fi (.inl (some (.int v))) mm) : V g t fr lc bc bs pc lo [.int v] mm Fi := by
  intro p e R s m args below meth c mc ms H locs cells slots ls C h1 h2 h3 hl
  refine W.widen (k := mc) (n := ms) (by omega) (by omega) (vx_ret ?_)
  exact W.zret (ty := ty) C.2.1 C.2.2.1 (C.2.2.2.1.trans hr) hn (fun t9 ht9 hW => ⟨_, mm, rfl, hF, C.mkP h1 ht9⟩) h1.2.2.2.2 hd C.2.2.2.2.2.2.1
theorem V_aret {r : Option Nat} (hd : decode t.2.1 pc = .ok (.areturn, 1)) {ty : FieldType} (hr : t.2.2.2.1 = some ty) (hty : (∃ n, ty = .object n) ∨ ∃ t9, ty = .array t9) (hF : Fi (.inl (some (va_rf r))) mm) : V g t fr lc bc bs pc lo [va_rf r] mm Fi := by
  intro p e R s m args below meth c mc ms H locs cells slots ls C h1 h2 h3 hl
  refine W.widen (k := mc) (n := ms) (by omega) (by omega) (vx_ret ?_)
  exact W.aret (rt := ty) C.2.1 C.2.2.1 (C.2.2.2.1.trans hr) hty (va_rf_or r) (fun t9 ht9 hW => ⟨_, mm, rfl, hF, C.mkP h1 ht9⟩) h1.2.2.2.2 hd C.2.2.2.2.2.2.1
theorem V_vret (hd : decode t.2.1 pc = .ok (.return_, 1)) (hr : t.2.2.2.1 = none) (hF : Fi (.inl none) mm) : V g t fr lc bc bs pc lo [] mm Fi := by
  intro p e R s m args below meth c mc ms H locs cells slots ls C h1 h2 h3 hl
  refine W.widen (k := mc) (n := ms) (by omega) (by omega) (vx_ret ?_)
  exact W.vret C.2.1 C.2.2.1 (C.2.2.2.1.trans hr) (fun t9 ht9 hW => ⟨_, mm, rfl, hF, C.mkP h1 ht9⟩) h1.2.2.2.2 hd C.2.2.2.2.2.2.1
end VB
section VZ
variable {p : Program} {l : Launch} {e : Env} {R : Room} {s : State} {m : MethodId} {args : Array Value} {below : List Frame} {meth : Method} {c : Code} {T : State} {locs : List Loc} {cells slots : Nat}
def lkM (args : Array Value) (s : State) (own : String) (index : Nat) (y : MethodName) : Prop := (Cond.methodLink own index y).before args s = true ∨ ∃ host, (Cond.methodLinkNest own index y host).before args s = true
/-- an invoking instruction links, and comes to the call -/
def Lnk (p : Program) (l : Launch) (e : Env) (R : Room) (s : State) (m : MethodId) (args : Array Value) (below : List Frame) (meth : Method) (c : Code) (T : State) (locs : List Loc) (cells slots : Nat) (g g' : JFrame) (y : MethodName) (a : Array Value) : Prop :=
  ∃ (vm₁ : Vm) (mk : MethodId), Stand p l e R s m args below meth c (T.setVm vm₁) locs cells slots ∧ s.methodNamed? y = some mk ∧ ∀ target, (∀ acts, Steps p.tables e below (doInvoke e ((T.setVm vm₁).setTop g') acts mk a).1 target) → Steps p.tables e below (T.setTop g) target
theorem vz_V (X : Stand p l e R s m args below meth c T locs cells slots) (hexec : p.tables.exec = Jvm.exec) {own C : String} {index : Nat} {y : MethodName} {bytes : ByteArray} {maxL : Nat} {ret : Option FieldType}
    (hown : s.vm.findClass own = some m.cls) (hlink : lkM args s own index y) (hinst : (Cond.instanceMethod y).before args s = true) (hsel : (Cond.selects C y y).before args s = true)
    (hcode : (Cond.code y bytes maxL ret).before args s = true) (hy : y.cls ≠ "java/lang/invoke/MethodHandle" ∧ y.cls ≠ "java/lang/invoke/VarHandle")
    {b : Addr} {cellB : Cell} (hcell : T.heap[b]? = some cellB) (hobj : cellB.vm.isStatics = false) (hcls : s.vm.findClass C = some cellB.cls)
    {g : JFrame} (hg : g.method = m) {argsL rest : List Value} (hlen : ∀ sig, parseMethodDescriptor y.desc = some sig → argsL.length = sig.parameters.length)
    (hstack : g.stack = argsL.reverse ++ .ref b :: rest) (hdg : decode c.code g.pc = .ok (.invokevirtual index, 3)) :
    Lnk p l e R s m args below meth c T locs cells slots g { g with stack := rest } y (Value.ref b :: argsL).toArray := by
  obtain ⟨mk, methM, hnamed, hmethM, hstM, habM⟩ := Cond.instanceMethod_spec hinst
  obtain ⟨methM', cM, hmethM', -, -, -, -, -, -, hsigM⟩ := Cond.code_spec hnamed hcode
  cases hmethM.symm.trans hmethM'
  obtain ⟨c2, r2, m2, q1, q2, q3, q4, kP, hkP, hkPi⟩ := Cond.selects_spec hsel
  cases hcls.symm.trans q1
  cases (State.methodFound?_of_named hnamed hy).symm.trans q2
  cases hnamed.symm.trans q3
  have hselP : selectMethod e.platform s.vm cellB.cls mk = .method mk := by rw [Launch.admits_selectMethod X.admits]; exact q4
  rcases hlink with hlink | ⟨host, hlink⟩
  · obtain ⟨vm₁, X₁, hstep₁⟩ := X.invokevirtual hexec hown hlink hnamed hmethM hstM hkP hkPi hy (a := b) (cell := cellB) hcell
      (fun z h => by rw [h] at hobj; cases hobj) hselP hmethM habM hkP hkPi (g := g) hg (argsL := argsL) (rest := rest) (hlen _ hsigM) hstack hdg
    exact ⟨vm₁, mk, X₁, hnamed, hstep₁⟩
  · obtain ⟨vm₁, X₁, hstep₁⟩ := X.invokevirtualNest hexec hown hlink hnamed hmethM hstM hkP hkPi hy (a := b) (cell := cellB) hcell
      (fun z h => by rw [h] at hobj; cases hobj) hselP hmethM habM hkP hkPi (g := g) hg (argsL := argsL) (rest := rest) (hlen _ hsigM) hstack hdg
    exact ⟨vm₁, mk, X₁, hnamed, hstep₁⟩
theorem vz_S (X : Stand p l e R s m args below meth c T locs cells slots) (hexec : p.tables.exec = Jvm.exec) {own : String} {index : Nat} {y : MethodName} {mk : MethodId} {methM : Method}
    (hown : s.vm.findClass own = some m.cls) (hlink : lkM args s own index y) (hstat : (Cond.static y).before args s = true) (hinit : (Cond.initialized y.cls).before args s = true)
    (hnamed : s.methodNamed? y = some mk) (hmethM : s.vm.method? mk = some methM) (hsigM : parseMethodDescriptor y.desc = some methM.sig) (hy : y.cls ≠ "java/lang/invoke/MethodHandle" ∧ y.cls ≠ "java/lang/invoke/VarHandle")
    {g : JFrame} (hg : g.method = m) {argsL rest : List Value} (hlen : ∀ sig, parseMethodDescriptor y.desc = some sig → argsL.length = sig.parameters.length)
    (hstack : g.stack = argsL.reverse ++ rest) (hdg : decode c.code g.pc = .ok (.invokestatic index, 3)) :
    Lnk p l e R s m args below meth c T locs cells slots g { g with stack := rest } y argsL.toArray := by
  have hstatic : methM.isStatic = true := Cond.static_spec hnamed hmethM hstat
  obtain ⟨kP, hkP, -⟩ := className_of_methodNamed hnamed
  have hinitP : kP.init = .initialized := Cond.initialized_spec (findClass_of_methodNamed hnamed) hkP hinit
  rcases hlink with hlink | ⟨host, hlink⟩
  · obtain ⟨vm₁, X₁, hstep₁⟩ := X.invokestatic hexec hown hlink hnamed hmethM hstatic hkP hinitP hy (g := g) hg (argsL := argsL) (rest := rest) (hlen _ hsigM) hstack hdg
    exact ⟨vm₁, mk, X₁, hnamed, hstep₁⟩
  · obtain ⟨vm₁, X₁, hstep₁⟩ := X.invokestaticNest hexec hown hlink hnamed hmethM hstatic hkP hinitP hy (g := g) hg (argsL := argsL) (rest := rest) (hlen _ hsigM) hstack hdg
    exact ⟨vm₁, mk, X₁, hnamed, hstep₁⟩
theorem vz_I (X : Stand p l e R s m args below meth c T locs cells slots) (hexec : p.tables.exec = Jvm.exec) {own : String} {index : Nat} {y : MethodName} {bytes : ByteArray} {maxL : Nat}
    (hown : s.vm.findClass own = some m.cls) (hy1 : y.name = "<init>") (hlink : lkM args s own index y) (hinst : (Cond.instanceMethod y).before args s = true)
    (hcode : (Cond.code y bytes maxL none).before args s = true) (hy : y.cls ≠ "java/lang/invoke/MethodHandle" ∧ y.cls ≠ "java/lang/invoke/VarHandle")
    {g : JFrame} (hg : g.method = m) {b : Addr} {argsL rest : List Value} (hlen : ∀ sig, parseMethodDescriptor y.desc = some sig → argsL.length = sig.parameters.length)
    (hstack : g.stack = argsL.reverse ++ .ref b :: rest) (hdg : decode c.code g.pc = .ok (.invokespecial index, 3)) :
    Lnk p l e R s m args below meth c T locs cells slots g { g with stack := rest } y (Value.ref b :: argsL).toArray := by
  subst hg
  have hpl : e.platform.magicAccessors = ({} : Platform).magicAccessors := by rw [X.admits.platform]
  rcases hlink with hlink | ⟨host, hlink⟩
  · obtain ⟨mk, methM, cM, kP, vm₁, hnamed, -, -, -, -, -, -, -, hW₁, hstep₁⟩ := Steps.initColdArgs (e := e) X.here hexec X.warmed hpl hown hy1 hy hlink hinst hcode (f := g) rfl hlen hstack hdg
    exact ⟨vm₁, mk, X.noted hW₁, hnamed, hstep₁⟩
  · obtain ⟨mk, methM, cM, kP, vm₁, hnamed, -, -, -, -, -, -, -, hW₁, hstep₁⟩ := Steps.initColdArgsNest (e := e) X.here hexec X.warmed hpl hown hy1 hy hlink hinst hcode (f := g) rfl hlen hstack hdg
    exact ⟨vm₁, mk, X.noted hW₁, hnamed, hstep₁⟩
end VZ
def mlk (own : String) (idx : Nat) (y : MethodName) : Prop := Cond.methodLink own idx y ∈ lw_tbl ∨ ∃ host, Cond.methodLinkNest own idx y host ∈ lw_tbl
/-- what a call of the method t with n arguments asks of the tables -/
def CB (t : Mt) (n : Nat) : Prop := wdM t ∈ lw_tbl ∧ Cond.initialized t.1.cls ∈ lw_tbl ∧ (t.1.cls ≠ "java/lang/invoke/MethodHandle" ∧ t.1.cls ≠ "java/lang/invoke/VarHandle") ∧ (parseMethodDescriptor t.1.desc).map (fun d => d.parameters.length) = some n
section VC
variable {g : GG} {t : Mt} {fr lc bc bs pc : Nat} {lo : List (Nat × Value)} {st : List Value} {mm : Mm} {Fi : Ou → Mm → Prop}
variable {p : Program} {e : Env} {R : Room} {s : State} {m : MethodId} {args : Array Value} {below : List Frame} {meth : Method} {c : Code} {mc ms : Nat} {H : Heap} {locs : List Loc} {cells slots : Nat} {ls : Array Slot}
theorem Cx.mkL (C : Cx g t fr lc p e R s m args below meth c mc ms) {own : String} {idx : Nat} {y : MethodName} (h : mlk own idx y) : lkM args s own idx y := by
  rcases h with h | ⟨host, h⟩
  · exact Or.inl (C.w h rfl args)
  · exact Or.inr ⟨host, C.nM h⟩
theorem wd_good (t : Mt) : goodWord (wdM t) = true := by
  unfold wdM
  split <;> rfl
/-- an exception that no handler takes -/
theorem Cx.out (C : Cx g t fr lc p e R s m args below meth c mc ms) (hh : t.2.2.2.2 = []) (h1 : Hp g mm s H locs) {E : String} {ce : Cell} {q : Addr} (hc : H[q]? = some ce) (hv : ce.vm = .none) (hcl : s.vm.findClass E = some ce.cls) (hF : Fi (.inr E) mm) (h2 : cells ≤ mc) (h3 : slots ≤ ms) {rest : List Value} :
    vx_W p g.2.2.1 e R s m args below meth c H locs cells slots (vx_MQ below (QF g Fi) (XF g Fi) args s mc ms (gN g)) (F0 m pc ls rest) q := by
  have htab := C.2.2.2.2.2.2.2.2.2.2.2
  rw [hh] at htab
  exact vx_out (fun x hx => by rw [htab] at hx; cases hx) C.2.2.2.2.2.2.1 hc hv hcl (fun t9 ht9 _ => ⟨mm, hF, C.mkP h1 ht9⟩) h1.2.2.2.2 h2 h3
/-- A CALL: the callee's contract, its ends -/
theorem V_call {ig : Instr} {t' : Mt} {n fr' lc' mc' ms' : Nat} {av st0 : List Value} {Fi' : Ou → Mm → Prop} (hB : CB t' n) (hd : decode t.2.1 pc = .ok (ig, 3)) (hM : CT g t' fr' lc' mc' ms' av mm Fi') (hdd : fr' + 1 ≤ fr ∧ 19 + t'.2.2.1 + lc' ≤ lc) (hr : (st.map fun v => v.category).sum ≤ 8)
    (hinv : ∀ (p : Program) (e : Env) (R : Room) (s : State) (m : MethodId) (args : Array Value) (below : List Frame) (meth : Method) (c : Code) (mc ms : Nat) (H : Heap) (locs : List Loc) (cells slots : Nat) (ls : Array Slot) (T : State), Cx g t fr lc p e R s m args below meth c mc ms → Hp g mm s H locs → T.heap = H → Stand p g.2.2.1 e R s m args below meth c T locs cells slots → Lnk p g.2.2.1 e R s m args below meth c T locs cells slots (F0 m pc ls st0) (F0 m pc ls st) t'.1 av.toArray)
    (kx : ∀ (p : Program) (e : Env) (R : Room) (s : State) (m : MethodId) (args : Array Value) (below : List Frame) (meth : Method) (c : Code) (mc ms : Nat) (H : Heap) (locs : List Loc) (cells slots : Nat) (ls : Array Slot) (E : String) (ce : Cell) (q : Addr) (mm' : Mm), Cx g t fr lc p e R s m args below meth c mc ms → Hp g mm' s H locs → cells + bc ≤ mc → slots + bs ≤ ms → Lh ls t.2.2.1 lo → Fi' (.inr E) mm' → H[q]? = some ce → ce.vm = .none → s.vm.findClass E = some ce.cls →
      vx_W p g.2.2.1 e R s m args below meth c H locs cells slots (vx_MQ below (QF g Fi) (XF g Fi) args s mc ms (gN g)) (F0 m pc ls st) q)
    (kr : ∀ (v : Option Value) (mm' : Mm), Fi' (.inl v) mm' → V g t fr lc bc bs (pc + 3) lo (v.toList ++ st) mm' Fi) : V g t fr lc (bc + mc') (bs + ms') pc lo st0 mm Fi := by
  intro p e R s m args below meth c mc ms H locs cells slots ls C h1 h2 h3 hl
  obtain ⟨w1, w2, -, -⟩ := hB
  obtain ⟨r1, r2, r3, r4⟩ := C.2.2.2.2.2.2.2.2.2.1
  have hws : ∀ w ∈ [wdM t'], ∀ (a' : Array Value) (U : State), s.WarmedH U.vm → w.before a' U = true := by
    intro w hw a' U hW
    rw [List.mem_singleton.mp hw]
    exact word_at (State.WarmedH.trans C.2.2.2.2.2.2.2.1 hW) (good_of_word (wd_good t')) (C.1.1 _ w1)
  have hini : ∀ (a' : Array Value) (U : State), s.WarmedH U.vm → (Cond.initialized t'.1.cls).before a' U = true := fun a' U hW => word_at (State.WarmedH.trans C.2.2.2.2.2.2.2.1 hW) (good_of_word rfl) (C.1.1 _ w2)
  have hfr : (rmD fr' lc' mc' ms').frames + 1 ≤ R.frames := by show fr' + 1 ≤ _; omega
  have hlo : 8 + (t'.2.2.1 + 11) + (rmD fr' lc' mc' ms').locals ≤ R.locals := by show 8 + (t'.2.2.1 + 11) + lc' ≤ _; omega
  have hK : vx_Back g.2.2.1 R p e below s args t'.1 3 8 (PreOf R mc' ms' (va_Pc av (Wd g mm))) (PostOf (QF g Fi') mc' ms' (gN g)) (vx_Post (XF g Fi') mc' ms' (gN g)) := by
    cases hh : t'.2.2.2.2 with
    | nil => exact vx_back (bytes := t'.2.1) (maxL := t'.2.2.1) (ret := t'.2.2.2.1) hM Wd.fb rfl rfl hfr hlo hws (by simp [wdM, hh]) hini
    | cons h hs => exact vx_backW (hh := h :: hs) (bytes := t'.2.1) (maxL := t'.2.2.1) (ret := t'.2.2.2.1) hM Wd.fb rfl rfl hfr hlo hws (by simp [wdM, hh]) hini
  intro T hT X
  obtain ⟨vm₁, mk, X₁, hn, hstep⟩ := hinv p e R s m args below meth c mc ms H locs cells slots ls T C h1 hT X
  have hn₁ : (T.setVm vm₁).methodNamed? t'.1 = some mk := X₁.named hn
  have hpre : PreOf R mc' ms' (va_Pc av (Wd g mm)) ⟨T.setVm vm₁, locs, cells, slots⟩ av.toArray := ⟨by show cells + mc' ≤ R.cells; omega, by show slots + ms' ≤ R.slots; omega, rfl, C.mkD h1 hT X₁.warmed⟩
  have hsize : (F0 m pc ls st).locals.size = c.maxLocals := by rw [C.2.2.2.2.1]; exact hl.1.1
  rcases hK m meth c ⟨T.setVm vm₁, locs, cells, slots⟩ (F0 m pc ls st) ig mk av.toArray X₁ rfl hsize (by rw [C.2.2.1]; exact hd) (lv_room (rest := st) (pc := pc) (ls := ls) (m := m) hr) hn₁ hpre with ⟨v, ⟨U', l2, c2, s2⟩, X', ⟨g', mk', t9, L, e1, e2, ⟨v', mm', hv, hF, hWp⟩, q1, hLf, q2, q3⟩, hst⟩ | ⟨q, ⟨U', l2, c2, s2⟩, X', ⟨g', mk', t9, L, E, ce, e1, e2, ⟨mm', hF, hWp⟩, hce, hcv, hcl, q1, hLf, q2, q3⟩, hst⟩
  · dsimp only [Pt.U, Pt.locs, Pt.cells, Pt.slots] at X' e1 e2 q1 q2 q3 hst
    subst q1; subst q2; subst q3
    cases hv
    have hHp : Hp g mm' s U'.heap (locs ++ L) := C.mkH hWp e1 X'.same.2.1 (fun z hz => by
      rcases List.mem_append.mp hz with h | h
      · exact h1.2.2.2.2 z h
      · exact hLf z h)
    obtain ⟨t2, a1, b1⟩ := kr v mm' hF p e R s m args below meth c mc ms U'.heap (locs ++ L) (cells + mc') (slots + ms') ls C hHp (by omega) (by omega) hl U' rfl X'
    exact ⟨t2, hstep _ fun acts => by rw [doInvoke_state]; exact hst.trans a1, b1⟩
  · dsimp only [Pt.U, Pt.locs, Pt.cells, Pt.slots] at X' e1 e2 q1 q2 q3 hst hcl
    subst q1; subst q2; subst q3
    have hHp : Hp g mm' s U'.heap (locs ++ L) := C.mkH hWp e1 X'.same.2.1 (fun z hz => by
      rcases List.mem_append.mp hz with h | h
      · exact h1.2.2.2.2 z h
      · exact hLf z h)
    obtain ⟨t2, a1, b1⟩ := kx p e R s m args below meth c mc ms U'.heap (locs ++ L) (cells + mc') (slots + ms') ls E ce q mm' C hHp (by omega) (by omega) hl hF (by rw [e1]; exact hce) hcv (vx_cls X₁.warmed hcl) U' rfl X'
    exact ⟨t2, hstep _ fun acts => by rw [doInvoke_state]; exact hst.trans a1, b1⟩
/-- what goes on to the caller -/
theorem kx_out {Fi' : Ou → Mm → Prop} (hh : t.2.2.2.2 = []) (h : ∀ E mm', Fi' (.inr E) mm' → Fi (.inr E) mm') : ∀ (p : Program) (e : Env) (R : Room) (s : State) (m : MethodId) (args : Array Value) (below : List Frame) (meth : Method) (c : Code) (mc ms : Nat) (H : Heap) (locs : List Loc) (cells slots : Nat) (ls : Array Slot) (E : String) (ce : Cell) (q : Addr) (mm' : Mm), Cx g t fr lc p e R s m args below meth c mc ms → Hp g mm' s H locs → cells + bc ≤ mc → slots + bs ≤ ms → Lh ls t.2.2.1 lo → Fi' (.inr E) mm' → H[q]? = some ce → ce.vm = .none → s.vm.findClass E = some ce.cls →
      vx_W p g.2.2.1 e R s m args below meth c H locs cells slots (vx_MQ below (QF g Fi) (XF g Fi) args s mc ms (gN g)) (F0 m pc ls st) q :=
  fun p e R s m args below meth c mc ms H locs cells slots ls E ce q mm' C h1 h2 h3 _ hF hc hv hcl => C.out hh h1 hc hv hcl (h E mm' hF) (by omega) (by omega)
theorem V_callV {idx n fr' lc' mc' ms' b ci : Nat} {t' : Mt} {As st0 : List Value} {fs : List Value} {Fi' : Ou → Mm → Prop} (hB : CB t' n) (hv : mlk t.1.cls idx t'.1 ∧ Cond.instanceMethod t'.1 ∈ lw_tbl ∧ Cond.selects t'.1.cls t'.1 t'.1 ∈ lw_tbl) (hnh : t'.2.2.2.2 = []) (hci : vwCl[ci]?.map (·.1) = some t'.1.cls) (hh : t.2.2.2.2 = []) (hd : decode t.2.1 pc = .ok (.invokevirtual idx, 3)) (hM : CT g t' fr' lc' mc' ms' (.ref b :: As) mm Fi') (hdd : fr' + 1 ≤ fr ∧ 19 + t'.2.2.1 + lc' ≤ lc) (hlen : As.length = n)
    (hb : b ∈ mm.2) (hf : mm.1 b = .inr (ci, fs)) (hst : st0 = As.reverse ++ .ref b :: st) (hr : (st.map fun v => v.category).sum ≤ 8) (kx : ∀ E mm', Fi' (.inr E) mm' → Fi (.inr E) mm')
    (kr : ∀ (v : Option Value) (mm' : Mm), Fi' (.inl v) mm' → V g t fr lc bc bs (pc + 3) lo (v.toList ++ st) mm' Fi) : V g t fr lc (bc + mc') (bs + ms') pc lo st0 mm Fi := by
  refine V_call hB hd hM hdd hr (fun p e R s m args below meth c mc ms H locs cells slots ls T C h1 hT X => ?_) (kx_out hh kx) kr
  obtain ⟨w1, w2, w3, w4⟩ := hB
  obtain ⟨v1, v2, v3⟩ := hv
  obtain ⟨q0, he⟩ := pl_at hb hf
  cases hq : vwCl[ci]? with
  | none => rw [hq] at hci; cases hci
  | some r =>
    rw [hq] at hci
    have hr1 : r.1 = t'.1.cls := Option.some.inj hci
    obtain ⟨cellB, e1, e2, e3⟩ := va_recv C.K h1.1 hq he
    rw [hr1] at e3
    have hwd : wdM t' = .code t'.1 t'.2.1 t'.2.2.1 t'.2.2.2.1 := by simp [wdM, hnh]
    rw [hwd] at w1
    exact vz_V X C.2.1 C.2.2.2.2.2.1 (C.mkL v1) (C.w v2 rfl args) (C.w v3 rfl args) (C.w w1 rfl args) w3 (by rw [hT]; exact e1) e2 e3 rfl (argsL := As) (rest := st) (fun sig h => by rw [h] at w4; rw [hlen]; exact (Option.some.inj w4).symm) hst (by rw [C.2.2.1]; exact hd)
theorem V_callS {idx n fr' lc' mc' ms' : Nat} {t' : Mt} {As st0 : List Value} {Fi' : Ou → Mm → Prop} (hB : CB t' n) (hv : mlk t.1.cls idx t'.1 ∧ Cond.static t'.1 ∈ lw_tbl) (hnh : t'.2.2.2.2 = []) (hh : t.2.2.2.2 = []) (hd : decode t.2.1 pc = .ok (.invokestatic idx, 3)) (hM : CT g t' fr' lc' mc' ms' As mm Fi') (hdd : fr' + 1 ≤ fr ∧ 19 + t'.2.2.1 + lc' ≤ lc) (hlen : As.length = n)
    (hst : st0 = As.reverse ++ st) (hr : (st.map fun v => v.category).sum ≤ 8) (kx : ∀ E mm', Fi' (.inr E) mm' → Fi (.inr E) mm')
    (kr : ∀ (v : Option Value) (mm' : Mm), Fi' (.inl v) mm' → V g t fr lc bc bs (pc + 3) lo (v.toList ++ st) mm' Fi) : V g t fr lc (bc + mc') (bs + ms') pc lo st0 mm Fi := by
  refine V_call hB hd hM hdd hr (fun p e R s m args below meth c mc ms H locs cells slots ls T C h1 hT X => ?_) (kx_out hh kx) kr
  obtain ⟨w1, w2, w3, w4⟩ := hB
  obtain ⟨v1, v2⟩ := hv
  have hwd : wdM t' = .code t'.1 t'.2.1 t'.2.2.1 t'.2.2.2.1 := by simp [wdM, hnh]
  rw [hwd] at w1
  have hcode := C.w w1 rfl args
  obtain ⟨mk, hnamed⟩ := Cond.code_named hcode
  obtain ⟨methM, cM, hmethM, -, -, -, -, -, -, hsigM⟩ := Cond.code_spec hnamed hcode
  exact vz_S X C.2.1 C.2.2.2.2.2.1 (C.mkL v1) (C.w v2 rfl args) (C.w w2 rfl args) hnamed hmethM hsigM w3 rfl (argsL := As) (rest := st) (fun sig h => by rw [h] at w4; rw [hlen]; exact (Option.some.inj w4).symm) hst (by rw [C.2.2.1]; exact hd)
theorem V_callI {idx n fr' lc' mc' ms' b : Nat} {t' : Mt} {As st0 : List Value} {Fi' : Ou → Mm → Prop} (hB : CB t' n) (hv : mlk t.1.cls idx t'.1 ∧ Cond.instanceMethod t'.1 ∈ lw_tbl ∧ t'.1.name = "<init>") (hnh : t'.2.2.2.2 = []) (hrt : t'.2.2.2.1 = none) (hh : t.2.2.2.2 = []) (hd : decode t.2.1 pc = .ok (.invokespecial idx, 3)) (hM : CT g t' fr' lc' mc' ms' (.ref b :: As) mm Fi') (hdd : fr' + 1 ≤ fr ∧ 19 + t'.2.2.1 + lc' ≤ lc) (hlen : As.length = n)
    (hst : st0 = As.reverse ++ .ref b :: st) (hr : (st.map fun v => v.category).sum ≤ 8) (kx : ∀ E mm', Fi' (.inr E) mm' → Fi (.inr E) mm')
    (kr : ∀ (v : Option Value) (mm' : Mm), Fi' (.inl v) mm' → V g t fr lc bc bs (pc + 3) lo (v.toList ++ st) mm' Fi) : V g t fr lc (bc + mc') (bs + ms') pc lo st0 mm Fi := by
  refine V_call hB hd hM hdd hr (fun p e R s m args below meth c mc ms H locs cells slots ls T C h1 hT X => ?_) (kx_out hh kx) kr
  obtain ⟨w1, w2, w3, w4⟩ := hB
  obtain ⟨v1, v2, v3⟩ := hv
  have hwd : wdM t' = .code t'.1 t'.2.1 t'.2.2.1 none := by simp [wdM, hnh, hrt]
  rw [hwd] at w1
  exact vz_I X C.2.1 C.2.2.2.2.2.1 v3 (C.mkL v1) (C.w v2 rfl args) (C.w w1 rfl args) w3 rfl (b := b) (argsL := As) (rest := st) (fun sig h => by rw [h] at w4; rw [hlen]; exact (Option.some.inj w4).symm) hst (by rw [C.2.2.1]; exact hd)
/-- Object.<init> -/
theorem V_objI {idx b : Nat} (w1 : Cond.methodLink t.1.cls idx objectInit ∈ lw_tbl) (w2 : Cond.instanceMethod objectInit ∈ lw_tbl) (w3 : Cond.code objectInit ⟨#[0xb1]⟩ 1 none ∈ lw_tbl) (hd : decode t.2.1 pc = .ok (.invokespecial idx, 3)) (hroom : 1 ≤ fr ∧ 20 ≤ lc) (hr : (st.map fun v => v.category).sum ≤ 8) (k : V g t fr lc bc bs (pc + 3) lo st mm Fi) : V g t fr lc bc bs pc lo (.ref b :: st) mm Fi := by
  intro p e R s m args below meth c mc ms H locs cells slots ls C h1 h2 h3 hl
  obtain ⟨r1, r2, r3, r4⟩ := C.2.2.2.2.2.2.2.2.2.1
  have hm : 2 * (F0 m pc ls (.ref b :: st)).monitorRoom + (st.map fun v => v.category).sum ≤ 8 := lv_room hr
  exact W.objInit C.2.1 C.2.2.1 C.2.2.2.2.2.1 (C.w w1 rfl args) (C.w w2 rfl args) (C.w w3 rfl args) rfl (by rw [C.2.2.2.2.1]; exact hl.1.1) rfl hd (by omega) (Nat.le_trans (Nat.add_le_add_right hm 12) (by omega)) (k p e R s m args below meth c mc ms H locs cells slots ls C h1 h2 h3 hl)
theorem lv_args_mem {q : Nat × Value} : ∀ {i : Nat} {vs : List Value}, q ∈ lv_args i vs → q.2 ∈ vs
  | _, [], h => by simp [lv_args] at h
  | i, v :: vs, h => by
    simp only [lv_args, List.mem_cons] at h
    rcases h with rfl | h
    · exact List.mem_cons_self
    · exact List.mem_cons_of_mem _ (lv_args_mem h)
/-- THE CONTRACT out of the walk from pc 0 -/
theorem CT_of (hn : plainName t.1.cls = true) {av : List Value} (hlen : (lg_sl av).length ≤ t.2.2.1) (hcat : ∀ v ∈ av, v.category = 1) {fr lc mc ms : Nat} (hg : GO g) (k : V g t fr lc mc ms 0 (lv_args 0 av) [] mm Fi) : CT g t fr lc mc ms av mm Fi := by
  have body : ∀ p e s m args below meth c s₁, BodyLoose p g.2.2.1 t.1 (headSpec [wdM t] (rmD fr lc mc ms)) t.2.1 t.2.2.1 t.2.2.2.1 e s m args below meth c s₁ → c.maxLocals = t.2.2.1 → c.exceptionTable.toList = tableOf t.2.2.2.2 → va_Pc av (Wd g mm) args s →
      W p g.2.2.1 e (headSpec [wdM t] (rmD fr lc mc ms)).room s m args below meth c s.heap [] 0 0 (vx_MQ below (QF g Fi) (XF g Fi) args s mc ms (gN g)) (entryFrame m args t.2.2.1) := by
    intro p e s m args below meth c s₁ B hml htab hv
    obtain ⟨rfl, hW, hP, hD, hF⟩ := hv
    have hl := lv_entry av (n := t.2.2.1) hlen
    rw [lg_entry_eq]
    refine k p e _ s m _ below meth c mc ms s.heap [] 0 0 _ ⟨hg, B.exec, B.bytes, B.returns, hml, findClass_of_methodNamed B.named, B.notSynchronized, hW, hF, ⟨Nat.le_refl _, Nat.le_refl _, Nat.le_refl _, Nat.le_refl _⟩, (name_of_methodNamed B.named B.method).1, htab⟩ ⟨hP, hD, va_S.rf⟩ (by omega) (by omega) ⟨hl, ?_⟩
    intro q hq
    exact hcat q.2 (lv_args_mem hq)
  unfold CT
  cases hh : t.2.2.2.2 with
  | nil =>
    refine vx_ofW (cc := t.2.1) (maxL := t.2.2.1) (ret := t.2.2.2.1) hn (ws' := []) (by simp [wdM, hh]) ?_
    intro p e s m args below meth c s₁ B hml ht hv
    refine body p e s m args below meth c s₁ B hml ?_ hv
    rw [hh]
    exact List.eq_nil_iff_forall_not_mem.mpr (fun x hx => ht x hx)
  | cons h hs =>
    refine vx_ofWH (hh := h :: hs) (cc := t.2.1) (maxL := t.2.2.1) (ret := t.2.2.2.1) hn (ws' := []) (by simp [wdM, hh]) ?_
    intro p e s m args below meth c s₁ B hml hv
    refine body p e s m args below meth c s₁ B hml ?_ hv
    rw [hh]
    refine vx_table (x := t.1) (bytes := t.2.1) (maxL' := t.2.2.1) (ret' := t.2.2.2.1) B (atoms_spec (ws := [wdM t]) B.pre _ ?_)
    simp [wdM, hh]
/-- a contract that says less -/
theorem CT.mono {Fi2 : Ou → Mm → Prop} {av : List Value} (h : CT g t fr lc mc ms av mm Fi) (hF : ∀ o m', Fi o m' → Fi2 o m') : CT g t fr lc mc ms av mm Fi2 := by
  refine MetFree.mono h (fun _ _ h => h) (fun _ _ _ _ _ h => h) ?_
  intro a s o s' _ hq
  rcases hq with ⟨⟨v, mm', e1, e2, e3⟩, hL⟩ | ⟨q, e0, E, ce, L, ⟨mm', e2, e3⟩, hr⟩
  · exact Or.inl ⟨⟨v, mm', e1, hF _ _ e2, e3⟩, hL⟩
  · exact Or.inr ⟨q, e0, E, ce, L, ⟨mm', hF _ _ e2, e3⟩, hr⟩
end VC
