theorem whole_start {p : Program} {e : Env} {s : State} {m : MethodId} {below : List Frame} {meth : Method} {c : Code} (l : Launch) (hst : l.stackTraces = false) (hnm : meth.name = "law") (htb : c.exceptionTable.toList = []) {b L : Nat} {xs : Nat → Int32} (hL : L ≤ 2560) (C0 : lw_At p s m meth c b L xs) : W p l e room_1 s m #[Value.ref b] below meth c s.heap [] 0 0 (lw_Z below #[Value.ref b] s) (entryFrame m ([Value.ref b] : List Value).toArray 7) := by
  obtain ⟨hx, hb, hr, hml, hown, hts, hX, hbl, hlk, hgv⟩ := C0
  obtain ⟨D, T, hg⟩ := GO_of hst hts hgv
  have hl := lv_entry [Value.ref b] (n := 7) (Nat.le_of_ble_eq_true rfl)
  rw [lg_entry_eq]
  intro T9 hT X
  obtain ⟨t, a1, o, b1, b2, b3⟩ := l_body (xs := xs) hg hX hbl hL ((fun _ => .inr (0, [])), []) p e room_1 s m #[Value.ref b] below meth c 601024 7293033 s.heap [] 0 0 _ ⟨hg, hx, hb, hr, hml, hown, hlk, State.WarmedH.refl s, ⟨Nat.le_refl _, fun _ _ _ => rfl⟩, ⟨by decide, by decide, by decide, by decide⟩, hnm, htb⟩ ⟨(fun k q hq => by cases hq), ⟨(fun i j p q hp => by cases hp), (fun k q hq => by cases hq)⟩, va_S.rf⟩ (by decide) (by decide) ⟨hl, (fun q hq => by rcases List.mem_singleton.mp hq with rfl; rfl)⟩ T9 hT X
  refine ⟨t, a1, o, b1, b2, ?_⟩
  rcases b3 with ⟨⟨v, mm, rfl, hF, -⟩, L9, ⟨q1, q2, q3⟩, q4⟩ | ⟨q, -, E9, ce, L9, ⟨mm, hF, -⟩, -⟩
  · have hv : v = some (.int 1) := Sum.inl.inj hF
    subst hv
    exact ⟨rfl, q1, q2, same_nil q3 q4 (by decide) (by decide)⟩
  · cases hF
