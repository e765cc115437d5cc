theorem nI_inc (n : Nat) : nI n + Int32.ofInt 1 = nI (n + 1) := nI_1 n
theorem nI_dec (n : Nat) : nI (n + 1) + Int32.ofInt (-1) = nI n := pk_m1 n
def okW : Cond → Bool
  | .castable _ _ => true
  | .declares _ => true
  | w => goodWord w
def TH (own : String) (ik is ic : Nat) (cls text : String) : Prop := Bundle.fit cls = true ∧ Cond.classLink own ik cls ∈ lw_tbl ∧ Cond.initialized cls ∈ lw_tbl ∧ Cond.stringRef own is text ∈ lw_tbl ∧ ∀ w ∈ vx_atS own ic cls ["java/lang/RuntimeException", "java/lang/Exception"], w ∈ lw_tbl ∧ okW w = true ∧ vx_ot w = true
section VT
variable {g : GG} {t : Mt} {fr lc bc bs pc : Nat} {lo : List (Nat × Value)} {st : List Value} {mm : Mm} {Fi : Ou → Mm → Prop}
variable {p : Program} {e : Env} {R : Room} {s : State} {m : MethodId} {args : Array Value} {below : List Frame} {meth : Method} {c : Code} {mc ms : Nat} {H : Heap} {locs : List Loc} {cells slots : Nat} {ls : Array Slot}
theorem V_ifnullR {x : Nat} {off : Int} (hd : decode t.2.1 pc = .ok (.ifnull off, 3)) (k : V g t fr lc bc bs (pc + 3) lo st mm Fi) : V g t fr lc bc bs pc lo (.ref x :: st) mm Fi :=
  fun p e R s m args below meth c mc ms H locs cells slots ls C h1 h2 h3 hl => lv_ifnull C.2.1 C.2.2.1 hd (k p e R s m args below meth c mc ms H locs cells slots ls C h1 h2 h3 hl)
theorem V_ifnullN {off : Int} {tgt : Nat} (hd : decode t.2.1 pc = .ok (.ifnull off, 3)) (ht : (pc : Int) + off = (tgt : Int)) (k : V g t fr lc bc bs tgt lo st mm Fi) : V g t fr lc bc bs pc lo (.null :: st) mm Fi :=
  fun p e R s m args below meth c mc ms H locs cells slots ls C h1 h2 h3 hl => lv_ifnullN C.2.1 C.2.2.1 hd ht (k p e R s m args below meth c mc ms H locs cells slots ls C h1 h2 h3 hl)
theorem V_ifnonnullR {x : Nat} {off : Int} {tgt : Nat} (hd : decode t.2.1 pc = .ok (.ifnonnull off, 3)) (ht : (pc : Int) + off = (tgt : Int)) (k : V g t fr lc bc bs tgt lo st mm Fi) : V g t fr lc bc bs pc lo (.ref x :: st) mm Fi :=
  fun p e R s m args below meth c mc ms H locs cells slots ls C h1 h2 h3 hl => lv_ifnonnull C.2.1 C.2.2.1 hd ht (k p e R s m args below meth c mc ms H locs cells slots ls C h1 h2 h3 hl)
theorem V_ifnonnullN {off : Int} (hd : decode t.2.1 pc = .ok (.ifnonnull off, 3)) (k : V g t fr lc bc bs (pc + 3) lo st mm Fi) : V g t fr lc bc bs pc lo (.null :: st) mm Fi :=
  fun p e R s m args below meth c mc ms H locs cells slots ls C h1 h2 h3 hl => lv_ifnonnullN C.2.1 C.2.2.1 hd (k p e R s m args below meth c mc ms H locs cells slots ls C h1 h2 h3 hl)
theorem Cx.wo (C : Cx g t fr lc p e R s m args below meth c mc ms) {w : Cond} (h : w ∈ lw_tbl) (hk : okW w = true) : w.before args s = true := by
  have h0 := C.1.1 w h
  have hW := C.2.2.2.2.2.2.2.1
  cases w
  case castable a b => exact va_Nw.use rfl (va_Nw.warmC hW (va_Nw.of rfl h0))
  case declares a => exact va_Nw.use rfl (va_Nw.warmD hW (va_Nw.of rfl h0))
  all_goals exact word_at hW (good_of_word hk) h0
/-- throw new E("..") out of the method -/
theorem V_throw {ik is ic : Nat} {cls text : String} (hT : TH t.1.cls ik is ic cls text) (hh : t.2.2.2.2 = []) (d0 : decode t.2.1 pc = .ok (.new ik, 3)) (d3 : decode t.2.1 (pc + 3) = .ok (.dup, 1)) (d4 : decode t.2.1 (pc + 4) = .ok (.ldc is, 2)) (d6 : decode t.2.1 (pc + 6) = .ok (.invokespecial ic, 3)) (d9 : decode t.2.1 (pc + 9) = .ok (.athrow, 1)) (hroom : 6 ≤ fr ∧ 90 ≤ lc) (hr : (st.map fun v => v.category).sum ≤ 8) (hF : Fi (.inr cls) mm) : V g t fr lc (bc + 1) (bs + 6) pc lo st mm Fi := by
  intro p e R s m args below meth c mc ms H locs cells slots ls C h1 h2 h3 hl
  obtain ⟨q1, q2, q3, q4, q5⟩ := hT
  obtain ⟨g1, g2, g3, g4, g5, g6, g7⟩ := C.1
  obtain ⟨sa, hsa⟩ := g6 _ _ _ q4
  obtain ⟨r1, r2, r3, r4⟩ := C.2.2.2.2.2.2.2.2.2.1
  have hW := C.2.2.2.2.2.2.2.1
  have hF0 := C.2.2.2.2.2.2.2.2.1
  have htab := C.2.2.2.2.2.2.2.2.2.2.2
  rw [hh] at htab
  refine vx_throwS (A := gN g) C.2.1 C.2.2.1 g3 C.2.2.2.2.2.1 q1 (names := ["java/lang/RuntimeException", "java/lang/Exception"]) (by decide) (C.w q2 rfl args) (C.w q3 rfl args) (vk_R.warm hW hsa) (fun w hw => C.wo (q5 w hw).1 (q5 w hw).2.1) ?_ (vx_Zq.moved hW.alike (g4.kept hF0.2)) (vx_Zq.moved hW.alike (g5.kept hF0.2)) h1.2.2 (by rw [C.2.2.2.2.1]; exact hl.1.1) d0 d3 d4 d6 d9 (fun x hx => by rw [htab] at hx; cases hx) (by show 2 + 3 < _; omega) (by show _ + (13 * (2 + 1) + 43) ≤ _; omega) (by omega) (by omega) C.2.2.2.2.2.2.1 ?_ h1.2.2.2.2 (by omega) (by omega)
  · intro w hw
    rcases List.mem_cons.mp hw with rfl | hw
    · rfl
    · rcases List.mem_cons.mp hw with rfl | hw
      · rfl
      · exact (q5 w hw).2.2
  · intro t9 _ hz hk
    refine ⟨mm, hF, h1.1.kept (fun k q hq => hk q.1 (h1.1 k q hq).lt), h1.2.1, Nat.le_trans hF0.1 (Nat.le_trans h1.2.2.1 hz), fun q a1 a2 => ?_⟩
    rw [hk q (Nat.lt_of_lt_of_le a1 (Nat.le_trans hF0.1 h1.2.2.1)), h1.2.2.2.1 q (Nat.lt_of_lt_of_le a1 hF0.1) a2]
    exact hF0.2 q a1 a2
/-- caught by the first row of the table that takes it -/
theorem kx_catch {Fi' : Ou → Mm → Prop} (hcov : ∀ z ∈ tableOf t.2.2.2.2, z.catchType ≠ 0 ∧ covers z pc = true)
    (h : ∀ E mm', Fi' (.inr E) mm' → ∃ pre x suf, tableOf t.2.2.2.2 = pre ++ x :: suf ∧ (∀ z ∈ pre, ∃ nm, Cond.classLink t.1.cls z.catchType nm ∈ lw_tbl ∧ (E, nm) ∈ ncL) ∧ Cond.classLink t.1.cls x.catchType E ∈ lw_tbl ∧ Cond.castable E E ∈ lw_tbl ∧ ∀ q, V g t fr lc bc bs x.handlerPc lo [.ref q] mm' Fi) : ∀ (p : Program) (e : Env) (R : Room) (s : State) (m : MethodId) (args : Array Value) (below : List Frame) (meth : Method) (c : Code) (mc ms : Nat) (H : Heap) (locs : List Loc) (cells slots : Nat) (ls : Array Slot) (E : String) (ce : Cell) (q : Addr) (mm' : Mm), Cx g t fr lc p e R s m args below meth c mc ms → Hp g mm' s H locs → cells + bc ≤ mc → slots + bs ≤ ms → Lh ls t.2.2.1 lo → Fi' (.inr E) mm' → H[q]? = some ce → ce.vm = .none → s.vm.findClass E = some ce.cls →
      vx_W p g.2.2.1 e R s m args below meth c H locs cells slots (vx_MQ below (QF g Fi) (XF g Fi) args s mc ms (gN g)) (F0 m pc ls st) q := by
  intro p e R s m args below meth c mc ms H locs cells slots ls E ce q mm' C h1 h2 h3 hl hF hc hv hcl
  obtain ⟨pre, x, suf, e1, e2, e3, e4, e5⟩ := h E mm' hF
  have htab := C.2.2.2.2.2.2.2.2.2.2.2
  have hx := hcov x (by rw [e1]; exact List.mem_append_right _ List.mem_cons_self)
  refine vx_catch C.2.2.2.2.2.1 pre x suf (htab.trans e1) (fun z hz => ?_) hx.2 hx.1 (C.w e3 rfl args) (C.wo e4 rfl) hc hv hcl (e5 q p e R s m args below meth c mc ms H locs cells slots ls C h1 h2 h3 hl)
  obtain ⟨nm, n1, n2⟩ := e2 z hz
  exact Or.inr ⟨(hcov z (by rw [e1]; exact List.mem_append_left _ hz)).1, nm, C.w n1 rfl args, va_Nc.moved C.2.2.2.2.2.2.2.1.alike (C.1.2.2.2.2.2.2 _ n2)⟩
/-- the law's script -/
theorem V_sld {b L : Nat} {xs : Nat → Int32} {i : Int32} (hd : decode t.2.1 pc = .ok (.iaload, 1)) (hX : va_X b L xs g.1 g.1.heap) (hbl : b < g.1.heap.size) (hin : vp_in i L) (k : V g t fr lc bc bs (pc + 1) lo (.int (xs i.toNatClampNeg) :: st) mm Fi) : V g t fr lc bc bs pc lo (.int i :: .ref b :: st) mm Fi := by
  intro p e R s m args below meth c mc ms H locs cells slots ls C h1 h2 h3 hl
  have hF0 := C.2.2.2.2.2.2.2.2.1
  have hb : ¬ gN g b := Nat.not_le.mpr hbl
  have hX' : va_X b L xs s s.heap := (hX.moved C.2.2.2.2.2.2.2.1.alike).kept (hF0.2 b hbl hb)
  exact va_sld C.2.1 C.2.2.1 hX' (Nat.lt_of_lt_of_le hbl hF0.1) hb h1.2.2 hin hd (k p e R s m args below meth c mc ms H locs cells slots ls C h1 h2 h3 hl)
theorem V_slen {b L : Nat} {xs : Nat → Int32} (hd : decode t.2.1 pc = .ok (.arraylength, 1)) (hX : va_X b L xs g.1 g.1.heap) (hbl : b < g.1.heap.size) (k : V g t fr lc bc bs (pc + 1) lo (.int (nI L) :: st) mm Fi) : V g t fr lc bc bs pc lo (.ref b :: st) mm Fi := by
  intro p e R s m args below meth c mc ms H locs cells slots ls C h1 h2 h3 hl
  have hF0 := C.2.2.2.2.2.2.2.2.1
  have hb : ¬ gN g b := Nat.not_le.mpr hbl
  have hX' : va_X b L xs s s.heap := (hX.moved C.2.2.2.2.2.2.2.1.alike).kept (hF0.2 b hbl hb)
  exact va_slen C.2.1 C.2.2.1 hX' (Nat.lt_of_lt_of_le hbl hF0.1) hb h1.2.2 hd (k p e R s m args below meth c mc ms H locs cells slots ls C h1 h2 h3 hl)
theorem V_ldc {idx : Nat} {v : Int32} (hw : Cond.constant t.1.cls idx v ∈ lw_tbl) (hd : decode t.2.1 pc = .ok (.ldc idx, 2)) (k : V g t fr lc bc bs (pc + 2) lo (.int v :: st) mm Fi) : V g t fr lc bc bs pc lo st mm Fi :=
  fun p e R s m args below meth c mc ms H locs cells slots ls C h1 h2 h3 hl => lv_ldc C.2.1 C.2.2.1 C.2.2.2.2.2.1 (C.w hw rfl args) hd (k p e R s m args below meth c mc ms H locs cells slots ls C h1 h2 h3 hl)
/-- a call of a static method that has a table of its own -/
theorem V_callW {idx n fr' lc' mc' ms' : Nat} {t' : Mt} {As st0 : List Value} {Fi' : Ou → Mm → Prop} (hB : CB t' n) (hv : mlk t.1.cls idx t'.1 ∧ Cond.static t'.1 ∈ lw_tbl) (hnh : t'.2.2.2.2 ≠ []) (hh : t.2.2.2.2 = []) (hd : decode t.2.1 pc = .ok (.invokestatic idx, 3)) (hM : CT g t' fr' lc' mc' ms' As mm Fi') (hdd : fr' + 1 ≤ fr ∧ 19 + t'.2.2.1 + lc' ≤ lc) (hlen : As.length = n)
    (hst : st0 = As.reverse ++ st) (hr : (st.map fun v => v.category).sum ≤ 8) (kx : ∀ E mm', Fi' (.inr E) mm' → Fi (.inr E) mm')
    (kr : ∀ (v : Option Value) (mm' : Mm), Fi' (.inl v) mm' → V g t fr lc bc bs (pc + 3) lo (v.toList ++ st) mm' Fi) : V g t fr lc (bc + mc') (bs + ms') pc lo st0 mm Fi := by
  refine V_call hB hd hM hdd hr (fun p e R s m args below meth c mc ms H locs cells slots ls T C h1 hT X => ?_) (kx_out hh kx) kr
  obtain ⟨w1, w2, w3, w4⟩ := hB
  obtain ⟨v1, v2⟩ := hv
  have hcode := C.w w1 (wd_good t') args
  cases hq : t'.2.2.2.2 with
  | nil => exact absurd hq hnh
  | cons a as =>
    have hwd : wdM t' = .codeWith t'.1 t'.2.1 t'.2.2.1 t'.2.2.2.1 (a :: as) := by simp [wdM, hq]
    rw [hwd] at hcode
    obtain ⟨mk, methM, cM, hnamed, hmethM, -, -, -, -, -, -, hsigM⟩ := Cond.codeWith_spec hcode
    exact vz_S X C.2.1 C.2.2.2.2.2.1 (C.mkL v1) (C.w v2 rfl args) (C.w w2 rfl args) hnamed hmethM hsigM w3 rfl (argsL := As) (rest := st) (fun sig h => by rw [h] at w4; rw [hlen]; exact (Option.some.inj w4).symm) hst (by rw [C.2.2.1]; exact hd)
/-- a virtual call out of a method with a table -/
theorem V_callX {idx n fr' lc' mc' ms' b ci : Nat} {t' : Mt} {As st0 : List Value} {fs : List Value} {Fi' : Ou → Mm → Prop} (hB : CB t' n) (hv : mlk t.1.cls idx t'.1 ∧ Cond.instanceMethod t'.1 ∈ lw_tbl ∧ Cond.selects t'.1.cls t'.1 t'.1 ∈ lw_tbl) (hnh : t'.2.2.2.2 = []) (hci : vwCl[ci]?.map (·.1) = some t'.1.cls) (hd : decode t.2.1 pc = .ok (.invokevirtual idx, 3)) (hM : CT g t' fr' lc' mc' ms' (.ref b :: As) mm Fi') (hdd : fr' + 1 ≤ fr ∧ 19 + t'.2.2.1 + lc' ≤ lc) (hlen : As.length = n)
    (hb : b ∈ mm.2) (hf : mm.1 b = .inr (ci, fs)) (hst : st0 = As.reverse ++ .ref b :: st) (hr : (st.map fun v => v.category).sum ≤ 8) (hcov : ∀ z ∈ tableOf t.2.2.2.2, z.catchType ≠ 0 ∧ covers z pc = true)
    (kx : ∀ E mm', Fi' (.inr E) mm' → ∃ pre x suf, tableOf t.2.2.2.2 = pre ++ x :: suf ∧ (∀ z ∈ pre, ∃ nm, Cond.classLink t.1.cls z.catchType nm ∈ lw_tbl ∧ (E, nm) ∈ ncL) ∧ Cond.classLink t.1.cls x.catchType E ∈ lw_tbl ∧ Cond.castable E E ∈ lw_tbl ∧ ∀ q, V g t fr lc bc bs x.handlerPc lo [.ref q] mm' Fi)
    (kr : ∀ (v : Option Value) (mm' : Mm), Fi' (.inl v) mm' → V g t fr lc bc bs (pc + 3) lo (v.toList ++ st) mm' Fi) : V g t fr lc (bc + mc') (bs + ms') pc lo st0 mm Fi := by
  refine V_call hB hd hM hdd hr (fun p e R s m args below meth c mc ms H locs cells slots ls T C h1 hT X => ?_) (kx_catch hcov kx) kr
  obtain ⟨w1, w2, w3, w4⟩ := hB
  obtain ⟨v1, v2, v3⟩ := hv
  obtain ⟨q0, he⟩ := pl_at hb hf
  cases hq : vwCl[ci]? with
  | none => rw [hq] at hci; cases hci
  | some r =>
    rw [hq] at hci
    have hr1 : r.1 = t'.1.cls := Option.some.inj hci
    obtain ⟨cellB, e1, e2, e3⟩ := va_recv C.K h1.1 hq he
    rw [hr1] at e3
    have hwd : wdM t' = .code t'.1 t'.2.1 t'.2.2.1 t'.2.2.2.1 := by simp [wdM, hnh]
    rw [hwd] at w1
    exact vz_V X C.2.1 C.2.2.2.2.2.1 (C.mkL v1) (C.w v2 rfl args) (C.w v3 rfl args) (C.w w1 rfl args) w3 (by rw [hT]; exact e1) e2 e3 rfl (argsL := As) (rest := st) (fun sig h => by rw [h] at w4; rw [hlen]; exact (Option.some.inj w4).symm) hst (by rw [C.2.2.1]; exact hd)
end VT
