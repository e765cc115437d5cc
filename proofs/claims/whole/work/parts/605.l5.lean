/-! what holds at the law's start -/
def chkS (w : Cond) : Bool := match w with
  | .stringRef own k _ => decide (Cond.exactly (.string own k) "java/lang/String" ∈ flatC (Jvm.Cond.and given_1 narrow_1))
  | _ => true
theorem chkS_all : lw_tbl.all chkS = true := by decide +kernel
section L5
variable {args : Array Value} {s : State}
theorem st_ref (hts : ∀ w ∈ lw_tbl, w.before args s = true) (hgv : (Jvm.Cond.and given_1 narrow_1).before args s = true) : ∀ (own text : String) (k : Nat), Cond.stringRef own k text ∈ lw_tbl → ∃ sa, vk_R own k text sa s := by
  intro own text k hw
  have h1 := List.all_eq_true.mp chkS_all _ hw
  have h2 : Cond.exactly (.string own k) "java/lang/String" ∈ flatC (Jvm.Cond.and given_1 narrow_1) := of_decide_eq_true h1
  obtain ⟨a, _, _, _, ha, -⟩ := Cond.exactly_spec (flat_of_before _ hgv _ h2)
  exact ⟨a, vk_R.of (hts _ hw) ha⟩
theorem cls_mk (hts : ∀ w ∈ lw_tbl, w.before args s = true) {ci N n : Nat} {C : String} {T : u_T} (hK : KF ci C T N) (hi : Cond.instantiable C n ∈ lw_tbl) : ∃ z : ClassId × (Nat → Nat), ∀ q, vwCl[ci]? = some q → u_Kn s q.1 q.2.1 q.2.2 z.1 z.2 := by
  obtain ⟨cC, iS, h⟩ := u_known hts hK.2 (hts _ hi)
  refine ⟨(cC, iS), fun q hq => ?_⟩
  rw [hK.1] at hq
  cases hq
  exact h
theorem cls_ex (hts : ∀ w ∈ lw_tbl, w.before args s = true) (c : Nat) : ∃ z : ClassId × (Nat → Nat), ∀ q, vwCl[c]? = some q → u_Kn s q.1 q.2.1 q.2.2 z.1 z.2 := by
  rcases (show c = 0 ∨ c = 1 ∨ c = 2 ∨ c = 3 ∨ c = 4 ∨ c = 5 ∨ c = 6 ∨ 7 ≤ c by omega) with rfl | rfl | rfl | rfl | rfl | rfl | rfl | h
  · exact cls_mk hts kf_E tw_46
  · exact cls_mk hts kf_K tw_93
  · exact cls_mk hts kf_R tw_40
  · exact cls_mk hts kf_S tw_332
  · exact cls_mk hts kf_G tw_24
  · exact cls_mk hts kf_T tw_16
  · exact cls_mk hts kf_M tw_630
  · obtain ⟨z, -⟩ := cls_mk hts kf_E tw_46
    refine ⟨z, fun q hq => ?_⟩
    rw [List.getElem?_eq_none (by exact h)] at hq
    cases hq
theorem arr_p (hts : ∀ w ∈ lw_tbl, w.before args s = true) (hw : Cond.arrayClass .int ∈ lw_tbl) : ∃ cA, ArrOfT s cA .int ∧ va_RA s cA .int := by
  obtain ⟨cA, kA, comp, h1, h2, h3⟩ := Cond.arrayClass_spec (hts _ hw)
  exact ⟨cA, fun n z => ⟨(fun k h => by cases h), kA, h2, comp, h3⟩, h1⟩
theorem arr_j (hts : ∀ w ∈ lw_tbl, w.before args s = true) (hw : Cond.arrayClass .long ∈ lw_tbl) : ∃ cA, ArrOfT s cA .long ∧ va_RA s cA .long := by
  obtain ⟨cA, kA, comp, h1, h2, h3⟩ := Cond.arrayClass_spec (hts _ hw)
  exact ⟨cA, fun n z => ⟨(fun k h => by cases h), kA, h2, comp, h3⟩, h1⟩
theorem arr_o (hts : ∀ w ∈ lw_tbl, w.before args s = true) {C : String} (hw : Cond.arrayOver (.object C) ∈ lw_tbl) : ∃ cA, ArrOfT s cA (.object C) ∧ va_RA s cA (.object C) := by
  obtain ⟨comp, cA, kA, h1, -, h2, h3, h4⟩ := Cond.arrayOver_spec (hts _ hw)
  exact ⟨cA, fun n z => ⟨(fun k h => by cases h), kA, h2, comp, h3⟩, kA, comp, h2, h3, h1, h4⟩
theorem GO_of {l : Launch} (hst : l.stackTraces = false) (hts : ∀ w ∈ lw_tbl, w.before args s = true) (hgv : (Jvm.Cond.and given_1 narrow_1).before args s = true) : ∃ (D : va_G) (T : Nat → ClassId), GO (s, args, l, D, T) := by
  have hs := flat_of_before _ hgv
  have hA : ∀ a : Nat, a < s.heap.size → ¬ (fun q => s.heap.size ≤ q) a := fun a ha h => absurd h (Nat.not_le.mpr ha)
  obtain ⟨cI, i1, i2⟩ := arr_p hts ac_I
  obtain ⟨cJ, j1, j2⟩ := arr_j hts ac_J
  obtain ⟨cS, s1, s2⟩ := arr_o hts ao_S
  obtain ⟨cE, e1, e2⟩ := arr_o hts ao_E
  refine ⟨(fun c => (Classical.choose (cls_ex hts c)).1, fun c => (Classical.choose (cls_ex hts c)).2), fun k => if k = 0 then cI else if k = 1 then cJ else if k = 2 then cS else cE, hts, ⟨fun c q hq => Classical.choose_spec (cls_ex hts c) q hq, fun k q hq => ?_⟩, hst, ?_, ?_, st_ref hts hgv, fun q hq => ?_⟩
  · rcases (show k = 0 ∨ k = 1 ∨ k = 2 ∨ k = 3 ∨ 4 ≤ k by omega) with rfl | rfl | rfl | rfl | h
    · cases hq
      exact ⟨i1, i2⟩
    · cases hq
      exact ⟨j1, j2⟩
    · cases hq
      exact ⟨s1, s2⟩
    · cases hq
      exact ⟨e1, e2⟩
    · rw [List.getElem?_eq_none (by exact h)] at hq
      cases hq
  · exact vx_Zqof (hts _ (List.mem_append_right _ (List.mem_of_getElem? (i := 198) (by decide +kernel)))) (hts _ ini_java_lang_Throwable) (hs _ (by decide +kernel)) hA
  · exact vx_Zqof (hts _ (List.mem_append_right _ (List.mem_of_getElem? (i := 200) (by decide +kernel)))) (hts _ ini_java_lang_Throwable) (hs _ (by decide +kernel)) hA
  · simp only [ncL, List.mem_cons, List.not_mem_nil, or_false] at hq
    rcases hq with rfl | rfl | rfl | rfl
    · exact va_Nc.of (hs _ (by decide +kernel))
    · exact va_Nc.of (hs _ (by decide +kernel))
    · exact va_Nc.of (hs _ (by decide +kernel))
    · exact va_Nc.of (hs _ (by decide +kernel))
theorem lw_st {l : Launch} (h : l.flags = flags0) : l.stackTraces = false := by
  show (!l.flags.contains noTraceFlag) = false
  rw [h]
  decide +kernel
theorem same_nil {t : State} {L : List Loc} {k n k' n' : Nat} (h : s.sameButNew t L k n) (hL : ∀ q ∈ L, s.heap.size ≤ q.base) (hk : k ≤ k') (hn : n ≤ n') : s.sameButNew t [] k' n' := by
  obtain ⟨h1, h2, h3, h4, h5, h6⟩ := h
  refine ⟨h1, h2, by omega, h4, by omega, fun a c hc => ?_⟩
  obtain ⟨c', e1, e2, e3, e4⟩ := h6 a c hc
  have ha : a < s.heap.size := (Array.getElem?_eq_some_iff.mp hc).1
  exact ⟨c', e1, e2, e3, fun i _ => e4 i (fun z => Nat.not_le.mpr ha (hL _ z))⟩
end L5
