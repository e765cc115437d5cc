/-! the constructor -/
def posL : List Nat → Nat → Nat
  | [], _ => 0
  | a :: l, b => if a = b then 0 else posL l b + 1
theorem posL_get : ∀ {L : List Nat} {i b : Nat}, L.Pairwise (fun a b => a ≠ b) → L[i]? = some b → posL L b = i
  | [], i, b, _, h => by simp at h
  | a :: l, 0, b, hp, h => by
    have e : a = b := by simpa using h
    rw [posL, if_pos e]
  | a :: l, i + 1, b, hp, h => by
    have h' : l[i]? = some b := by simpa using h
    have hm : b ∈ l := List.mem_of_getElem? h'
    rw [posL, if_neg ((List.pairwise_cons.mp hp).1 b hm), posL_get (List.pairwise_cons.mp hp).2 h']
def InL (m : Mm) (L : List Nat) : Prop := L.Pairwise (fun a b => a ≠ b) ∧ ∀ b, b ∈ L → b ∈ m.2
theorem In_app {m m' : Mm} {L G : List Nat} (h : InL m L) (hG : G.Pairwise (fun a b => a ≠ b)) (hn : ∀ b, b ∈ G → b ∉ m.2) (hm : ∀ b, b ∈ G → b ∈ m'.2) (hF : ∀ b, b ∈ m.2 → b ∈ m'.2) : InL m' (L ++ G) := by
  refine ⟨List.pairwise_append.mpr ⟨h.1, hG, fun a ha b hb e => hn b hb (e ▸ h.2 a ha)⟩, fun b hb => ?_⟩
  rcases List.mem_append.mp hb with h1 | h1
  · exact hF b (h.2 b h1)
  · exact hm b h1
def cI0 (i : Nat) : Nat := if i < 8 then i else if i < 13 then 92 + i else i - 5
def aI0 (x q1 r1 q2 r2 q3 r3 rd rk kl kp ea r : Nat) : Nat := match r with
  | 0 => x | 1 => q1 | 2 => r1 | 3 => q2 | 4 => r2 | 5 => q3 | 6 => r3 | 7 => rd | 8 => rk | 9 => kl | 10 => kp | _ => ea
def ed0 : Nat → Edd := fun _ => (0, fun _ _ => 0, 0, fun _ => 0, fun _ => 0, fun _ => 0, 0)
def z0 : Sq := (fun _ => 0, 0)
section C17
variable {g : GG}
theorem sgNew {m m2 : Mm} {x q k : Nat} {fs : List Value} {e0 : va_E} (hx : Ob m x 5 fs) (hq : q ∉ m.2) (h : ∃ r, Sgm g m2 q r k (fun _ => 0, 0) ∧ r ∉ (ad m q e0).2 ∧ Fr (fun b => b = q) (ad m q e0) m2) : Ob m2 x 5 fs ∧ ∃ r, ∀ fs', Ob (up m2 x (.inr (5, fs'))) x 5 fs' ∧ Sgm g (up m2 x (.inr (5, fs'))) q r k z0 ∧ r ∉ m.2 ∧ Fr (fun b => b = x) m (up m2 x (.inr (5, fs'))) := by
  obtain ⟨r, h1, h2, h3⟩ := h
  have hxq : x ≠ q := fun z => hq (z ▸ hx.1)
  have hx2 : Ob m2 x 5 fs := Ob_f (Ob_a hx hq) h3 hxq
  exact ⟨hx2, r, fun fs' => ⟨Ob_s hx2, Sgm_n h1 (Ne.symm hxq) (Ne.symm (Ob_neI hx2 h1.2.1)), fun z => h2 (List.mem_append_left _ z), Fr_up (Fr_tr (S := fun b => b = x) (Fr_ad Fr_rf hq) h3 (fun b hb z => absurd (show q ∈ m.2 from z ▸ hb) hq)) rfl⟩⟩
theorem Sgm_x {m m' : Mm} {x q r k : Nat} {fs : List Value} {s : Sq} (h : Sgm g m q r k s) (hx : Ob m x 5 fs) (hF : Fr (fun b => b = x) m m') : Sgm g m' q r k s := Sgm_f h hF (Ob_neC h.1 hx (by decide)) (Ne.symm (Ob_neI hx h.2.1))
set_option maxRecDepth 20000 in
set_option maxHeartbeats 1000000 in
theorem c_T_init (hg : GO g) {mm : Mm} {x : Nat} (h : Ob mm x 5 [.null, .null, .null, .null, .null, .null, .int 0, .int 0]) : CT g m_T_init 3 61 16 647 [.ref x] mm (fun o m' => o = .inl none ∧ ∃ A E col, A 0 = x ∧ CR g m' A E col z0 z0 z0 0 0 0 (fun _ => 0) ed0 ∧ Fr (fun b => b = x) mm m') := by
  have hI0 : InL mm [x] := ⟨List.pairwise_singleton _ _, fun b hb => by rcases List.mem_singleton.mp hb with rfl; exact h.1⟩
  refine CT_go (lo := [(0, .ref x)]) rfl rfl rfl rfl hg ?_
  first | refine V_aload_n d_T_init_0 rfl rfl ?_ | refine V_aloadN_n d_T_init_0 rfl rfl ?_
  refine V_objI oi_T_1 oi_i oi_c d_T_init_1 ⟨by decide, by decide⟩ (Nat.le_of_ble_eq_true rfl) ?_
  first | refine V_aload_n d_T_init_4 rfl rfl ?_ | refine V_aloadN_n d_T_init_4 rfl rfl ?_
  -- the text
  refine V_new (bc := 15) (bs := 645) nl_T_7 d_T_init_5 (fun q1 hq1 => ?_)
  refine V_dup d_T_init_8 rfl ?_
  refine V_sipush (v := 500) d_T_init_9 (by decide) ?_
  refine V_callI (bc := 14) (bs := 145) (mc' := 1) (ms' := 500) cb_G_init mi_T_11 rfl rfl rfl d_T_init_12 (c_G_init (n := 500) hg (Ob_z (mm := mm) (a := q1)) (by decide) (by decide)) ⟨by decide, by decide⟩ rfl rfl (Nat.le_of_ble_eq_true rfl) (fun _ _ h => nomatch h.1) (fun v m1 hR => ?_)
  obtain ⟨hv9, hR⟩ := hR
  cases hv9
  obtain ⟨x1, r1, hk1⟩ := sgNew h hq1 hR
  refine VputF pf_T_14 rfl d_T_init_15 (by repeat first | assumption | apply Ob_s | apply Ob_n) rfl rfl (Nat.le_of_ble_eq_true rfl) ?_
  obtain ⟨x2, s1, n1, F1⟩ := hk1 [.ref q1, .null, .null, .null, .null, .null, .int 0, .int 0]
  refine ek_v (P := fun z => V g m_T_init 3 61 14 145 _ _ _ z _) (show _ = up m1 x (.inr (5, [.ref q1, .null, .null, .null, .null, .null, .int 0, .int 0])) from rfl) ?_
  have hI1 := In_app (G := [q1, r1]) hI0 (by simpa using s1.ne) (by simp [hq1, n1]) (by simp [s1.1.1, s1.2.1.1]) F1.1
  generalize up m1 x (.inr (5, [.ref q1, .null, .null, .null, .null, .null, .int 0, .int 0])) = m2 at x2 s1 F1 hI1 ⊢
  -- the label
  first | refine V_aload_n d_T_init_18 rfl rfl ?_ | refine V_aloadN_n d_T_init_18 rfl rfl ?_
  refine V_new (bc := 13) (bs := 143) nl_T_7 d_T_init_19 (fun q2 hq2 => ?_)
  refine V_dup d_T_init_22 rfl ?_
  refine V_bipush (v := 20) d_T_init_23 (by decide) ?_
  refine V_callI (bc := 12) (bs := 123) (mc' := 1) (ms' := 20) cb_G_init mi_T_11 rfl rfl rfl d_T_init_25 (c_G_init (n := 20) hg (Ob_z (mm := m2) (a := q2)) (by decide) (by decide)) ⟨by decide, by decide⟩ rfl rfl (Nat.le_of_ble_eq_true rfl) (fun _ _ h => nomatch h.1) (fun v m3 hR => ?_)
  obtain ⟨hv9, hR⟩ := hR
  cases hv9
  obtain ⟨x3, r2, hk2⟩ := sgNew x2 hq2 hR
  refine VputF pf_T_18 rfl d_T_init_28 (by repeat first | assumption | apply Ob_s | apply Ob_n) rfl rfl (Nat.le_of_ble_eq_true rfl) ?_
  obtain ⟨x4, s2, n2, F2⟩ := hk2 [.ref q1, .ref q2, .null, .null, .null, .null, .int 0, .int 0]
  refine ek_v (P := fun z => V g m_T_init 3 61 12 123 _ _ _ z _) (show _ = up m3 x (.inr (5, [.ref q1, .ref q2, .null, .null, .null, .null, .int 0, .int 0])) from rfl) ?_
  have hI2 := In_app (G := [q2, r2]) hI1 (by simpa using s2.ne) (by simp [hq2, n2]) (by simp [s2.1.1, s2.2.1.1]) F2.1
  have s1b := Sgm_x s1 x2 F2
  have F2b := Fr_tr F1 F2 (fun _ _ z => z)
  generalize up m3 x (.inr (5, [.ref q1, .ref q2, .null, .null, .null, .null, .int 0, .int 0])) = m4 at x4 s2 F2 hI2 s1b F2b ⊢
  -- the printed signs
  first | refine V_aload_n d_T_init_31 rfl rfl ?_ | refine V_aloadN_n d_T_init_31 rfl rfl ?_
  refine V_new (bc := 11) (bs := 121) nl_T_7 d_T_init_32 (fun q3 hq3 => ?_)
  refine V_dup d_T_init_35 rfl ?_
  refine V_bipush (v := 37) d_T_init_36 (by decide) ?_
  refine V_callI (bc := 10) (bs := 84) (mc' := 1) (ms' := 37) cb_G_init mi_T_11 rfl rfl rfl d_T_init_38 (c_G_init (n := 37) hg (Ob_z (mm := m4) (a := q3)) (by decide) (by decide)) ⟨by decide, by decide⟩ rfl rfl (Nat.le_of_ble_eq_true rfl) (fun _ _ h => nomatch h.1) (fun v m5 hR => ?_)
  obtain ⟨hv9, hR⟩ := hR
  cases hv9
  obtain ⟨x5, r3, hk3⟩ := sgNew x4 hq3 hR
  refine VputF pf_T_21 rfl d_T_init_41 (by repeat first | assumption | apply Ob_s | apply Ob_n) rfl rfl (Nat.le_of_ble_eq_true rfl) ?_
  obtain ⟨x6, s3, n3, F3⟩ := hk3 [.ref q1, .ref q2, .ref q3, .null, .null, .null, .int 0, .int 0]
  refine ek_v (P := fun z => V g m_T_init 3 61 10 84 _ _ _ z _) (show _ = up m5 x (.inr (5, [.ref q1, .ref q2, .ref q3, .null, .null, .null, .int 0, .int 0])) from rfl) ?_
  have hI3 := In_app (G := [q3, r3]) hI2 (by simpa using s3.ne) (by simp [hq3, n3]) (by simp [s3.1.1, s3.2.1.1]) F3.1
  have s1c := Sgm_x s1b x4 F3
  have s2c := Sgm_x s2 x4 F3
  have F3b := Fr_tr F2b F3 (fun _ _ z => z)
  generalize up m5 x (.inr (5, [.ref q1, .ref q2, .ref q3, .null, .null, .null, .int 0, .int 0])) = m6 at x6 s3 F3 hI3 s1c s2c F3b ⊢
  -- the reader
  first | refine V_aload_n d_T_init_44 rfl rfl ?_ | refine V_aloadN_n d_T_init_44 rfl rfl ?_
  refine V_new (bc := 9) (bs := 80) nl_T_24 d_T_init_45 (fun rd hrd => ?_)
  have x7 : Ob (ad m6 rd (.inr (2, [.null, .null, .int 0, .int 0]))) x 5 [.ref q1, .ref q2, .ref q3, .null, .null, .null, .int 0, .int 0] := Ob_a x6 hrd
  refine ek_v (P := fun z => V g m_T_init 3 61 9 80 _ _ _ z _) (show _ = ad m6 rd (.inr (2, [.null, .null, .int 0, .int 0])) from rfl) ?_
  refine V_dup d_T_init_48 rfl ?_
  first | refine V_aload_n d_T_init_49 rfl rfl ?_ | refine V_aloadN_n d_T_init_49 rfl rfl ?_
  refine Vget fl_T_14 d_T_init_50 (by repeat first | assumption | apply Ob_s | apply Ob_n) rfl ?_
  refine V_callI (bc := 4) (bs := 23) (mc' := 5) (ms' := 57) cb_R_init mi_T_26 rfl rfl rfl d_T_init_53 (c_R_init hg (Ob_z (mm := m6) (a := rd))) ⟨by decide, by decide⟩ rfl rfl (Nat.le_of_ble_eq_true rfl) (fun _ _ h => nomatch h.1) (fun v m7 hR => ?_)
  obtain ⟨hv9, hR⟩ := hR
  cases hv9
  obtain ⟨e, sa, fa, la, za, w1, w2, w3, w4, ⟨w5, w6, w7⟩, ⟨t1, t2, t3, t4, t5⟩, w8⟩ := hR
  have hxr : x ≠ rd := fun z => hrd (z ▸ x6.1)
  have G1 : Fr (fun b => b = rd) (ad m6 rd (.inr (2, [.null, .null, .int 0, .int 0]))) m7 := Fr_tr (Fr_up Fr_rf rfl) w8 (fun _ _ z => z)
  have x8 : Ob m7 x 5 [.ref q1, .ref q2, .ref q3, .null, .null, .null, .int 0, .int 0] := Ob_f x7 G1 hxr
  refine VputF pf_T_29 rfl d_T_init_56 (by repeat first | assumption | apply Ob_s | apply Ob_n) rfl rfl (Nat.le_of_ble_eq_true rfl) ?_
  refine ek_v (P := fun z => V g m_T_init 3 61 4 23 _ _ _ z _) (show _ = up m7 x (.inr (5, [.ref q1, .ref q2, .ref q3, .ref rd, .null, .null, .int 0, .int 0])) from rfl) ?_
  have F4 : Fr (fun b => b = x) m6 (up m7 x (.inr (5, [.ref q1, .ref q2, .ref q3, .ref rd, .null, .null, .int 0, .int 0]))) := Fr_up (Fr_tr (S := fun b => b = x) (Fr_ad Fr_rf hrd) G1 (fun b hb z => absurd (show rd ∈ m6.2 from z ▸ hb) hrd)) rfl
  have x9 := Ob_s (ci := 5) (fs := [.ref q1, .ref q2, .ref q3, .ref rd, .null, .null, .int 0, .int 0]) x8
  have o4 : ∀ b, b ∉ (up (ad m6 rd (.inr (2, [.null, .null, .int 0, .int 0]))) rd (.inr (2, [.ref q1, .null, .int 0, .int 0]))).2 → b ∉ m6.2 ∧ b ≠ rd := fun b hb => ⟨fun z => hb (List.mem_append_left _ z), fun z => hb (List.mem_append_right _ (z ▸ List.mem_cons_self))⟩
  have y1 := Ob_n (e := .inr (5, [.ref q1, .ref q2, .ref q3, .ref rd, .null, .null, .int 0, .int 0])) w1 (Ne.symm hxr)
  have y2 := Ob_n (e := .inr (5, [.ref q1, .ref q2, .ref q3, .ref rd, .null, .null, .int 0, .int 0])) w2 (Ne.symm (Ob_neC x8 w2 (by decide)))
  have y3 := Qa_n (e := .inr (5, [.ref q1, .ref q2, .ref q3, .ref rd, .null, .null, .int 0, .int 0])) w3 (Ne.symm (Ob_neQ x8 w3))
  have y4 := Ia_n (e := .inr (5, [.ref q1, .ref q2, .ref q3, .ref rd, .null, .null, .int 0, .int 0])) w4.1 (Ne.symm (Ob_neI x8 w4.1))
  have y5 := Ia_n (e := .inr (5, [.ref q1, .ref q2, .ref q3, .ref rd, .null, .null, .int 0, .int 0])) w4.2.1 (Ne.symm (Ob_neI x8 w4.2.1))
  have y6 := Ia_n (e := .inr (5, [.ref q1, .ref q2, .ref q3, .ref rd, .null, .null, .int 0, .int 0])) w4.2.2 (Ne.symm (Ob_neI x8 w4.2.2))
  have hI4 := In_app (G := [rd, e, sa, fa, la, za]) hI3 (by
    simp only [List.pairwise_cons, List.mem_cons, List.not_mem_nil, or_false, forall_eq_or_imp, forall_eq, List.Pairwise.nil, and_true, false_implies, implies_true]
    exact ⟨⟨Ne.symm (o4 _ t1).2, Ne.symm (o4 _ t2).2, Ne.symm (o4 _ t3).2, Ne.symm (o4 _ t4).2, Ne.symm (o4 _ t5).2⟩, ⟨Ob_neQ w2 w3, Ob_neI w2 w4.1, Ob_neI w2 w4.2.1, Ob_neI w2 w4.2.2⟩, ⟨Ne.symm (Ia_neQ w4.1 w3), Ne.symm (Ia_neQ w4.2.1 w3), Ne.symm (Ia_neQ w4.2.2 w3)⟩, ⟨w5, w6⟩, w7⟩) (by
    simp only [List.mem_cons, List.not_mem_nil, or_false, forall_eq_or_imp, forall_eq]
    exact ⟨hrd, (o4 _ t1).1, (o4 _ t2).1, (o4 _ t3).1, (o4 _ t4).1, (o4 _ t5).1⟩) (by
    simp only [List.mem_cons, List.not_mem_nil, or_false, forall_eq_or_imp, forall_eq]
    exact ⟨y1.1, y2.1, y3.1, y4.1, y5.1, y6.1⟩) F4.1
  have s1d := Sgm_x s1c x6 F4
  have s2d := Sgm_x s2c x6 F4
  have s3d := Sgm_x s3 x6 F4
  have F4b := Fr_tr F3b F4 (fun _ _ z => z)
  generalize up m7 x (.inr (5, [.ref q1, .ref q2, .ref q3, .ref rd, .null, .null, .int 0, .int 0])) = m8 at x9 F4 y1 y2 y3 y4 y5 y6 hI4 s1d s2d s3d F4b ⊢
  -- the ranking
  first | refine V_aload_n d_T_init_59 rfl rfl ?_ | refine V_aloadN_n d_T_init_59 rfl rfl ?_
  refine V_new (bc := 3) (bs := 20) nl_T_33 d_T_init_60 (fun rk hrk => ?_)
  refine V_dup d_T_init_63 rfl ?_
  refine V_callI (bc := 1) (bs := 4) (mc' := 2) (ms' := 16) cb_K_init mi_T_35 rfl rfl rfl d_T_init_64 (c_K_init hg (Ob_z (mm := m8) (a := rk))) ⟨by decide, by decide⟩ rfl rfl (Nat.le_of_ble_eq_true rfl) (fun _ _ h => nomatch h.1) (fun v m9 hR => ?_)
  obtain ⟨hv9, kl, kp, v1, v2, v3, v4, v5, v6, v7⟩ := hR
  cases hv9
  have hxk : x ≠ rk := fun z => hrk (z ▸ x9.1)
  have x10 : Ob m9 x 5 [.ref q1, .ref q2, .ref q3, .ref rd, .null, .null, .int 0, .int 0] := Ob_f (Ob_a x9 hrk) v7 hxk
  refine VputF pf_T_36 rfl d_T_init_67 (by repeat first | assumption | apply Ob_s | apply Ob_n) rfl rfl (Nat.le_of_ble_eq_true rfl) ?_
  refine ek_v (P := fun z => V g m_T_init 3 61 1 4 _ _ _ z _) (show _ = up m9 x (.inr (5, [.ref q1, .ref q2, .ref q3, .ref rd, .ref rk, .null, .int 0, .int 0])) from rfl) ?_
  have F5 : Fr (fun b => b = x) m8 (up m9 x (.inr (5, [.ref q1, .ref q2, .ref q3, .ref rd, .ref rk, .null, .int 0, .int 0]))) := Fr_up (Fr_tr (S := fun b => b = x) (Fr_ad Fr_rf hrk) v7 (fun b hb z => absurd (show rk ∈ m8.2 from z ▸ hb) hrk)) rfl
  have x11 := Ob_s (ci := 5) (fs := [.ref q1, .ref q2, .ref q3, .ref rd, .ref rk, .null, .int 0, .int 0]) x10
  have z1 := Ob_n (e := .inr (5, [.ref q1, .ref q2, .ref q3, .ref rd, .ref rk, .null, .int 0, .int 0])) v1 (Ne.symm hxk)
  have z2 := Ia_n (e := .inr (5, [.ref q1, .ref q2, .ref q3, .ref rd, .ref rk, .null, .int 0, .int 0])) v2 (Ne.symm (Ob_neI x10 v2))
  have z3 := Ia_n (e := .inr (5, [.ref q1, .ref q2, .ref q3, .ref rd, .ref rk, .null, .int 0, .int 0])) v3 (Ne.symm (Ob_neI x10 v3))
  have o5 : ∀ b, b ∉ (ad m8 rk (.inr (1, [.null, .null, .int 0]))).2 → b ∉ m8.2 := fun b hb z => hb (List.mem_append_left _ z)
  have hI5 := In_app (G := [rk, kl, kp]) hI4 (by
    simp only [List.pairwise_cons, List.mem_cons, List.not_mem_nil, or_false, forall_eq_or_imp, forall_eq, List.Pairwise.nil, and_true, false_implies, implies_true]
    exact ⟨⟨Ob_neI v1 v2, Ob_neI v1 v3⟩, v4⟩) (by
    simp only [List.mem_cons, List.not_mem_nil, or_false, forall_eq_or_imp, forall_eq]
    exact ⟨hrk, o5 _ v5, o5 _ v6⟩) (by
    simp only [List.mem_cons, List.not_mem_nil, or_false, forall_eq_or_imp, forall_eq]
    exact ⟨z1.1, z2.1, z3.1⟩) F5.1
  have s1e := Sgm_x s1d x9 F5
  have s2e := Sgm_x s2d x9 F5
  have s3e := Sgm_x s3d x9 F5
  have y1b := Ob_f y1 F5 (Ne.symm hxr)
  have y2b := Ob_f y2 F5 (Ne.symm (Ob_neC x9 y2 (by decide)))
  have y3b := Qa_f y3 F5 (Ne.symm (Ob_neQ x9 y3))
  have y4b := Ia_f y4 F5 (Ne.symm (Ob_neI x9 y4))
  have y5b := Ia_f y5 F5 (Ne.symm (Ob_neI x9 y5))
  have y6b := Ia_f y6 F5 (Ne.symm (Ob_neI x9 y6))
  have F5b := Fr_tr F4b F5 (fun _ _ z => z)
  generalize up m9 x (.inr (5, [.ref q1, .ref q2, .ref q3, .ref rd, .ref rk, .null, .int 0, .int 0])) = m10 at x11 F5 z1 z2 z3 hI5 s1e s2e s3e y1b y2b y3b y4b y5b y6b F5b ⊢
  -- the row of editions
  first | refine V_aload_n d_T_init_70 rfl rfl ?_ | refine V_aloadN_n d_T_init_70 rfl rfl ?_
  refine V_iconst (v := 4) d_T_init_71 (by decide) ?_
  refine V_newA (j := 3) (n := 4) (N := 4) (bc := 0) (bs := 0) cl_T_40 ao_E (fun _ => rfl) d_T_init_72 (by decide) rfl (by decide) (fun ea hea => ?_)
  have x12 : Ob (ad m10 ea (.inl (g.2.2.2.2 3, 4, .inr (.inr (.inr (.inr (fun _ => none))))))) x 5 [.ref q1, .ref q2, .ref q3, .ref rd, .ref rk, .null, .int 0, .int 0] := Ob_a x11 hea
  refine VputF pf_T_42 rfl d_T_init_75 x12 rfl rfl (Nat.le_of_ble_eq_true rfl) ?_
  have hxe : x ≠ ea := fun z => hea (z ▸ x11.1)
  refine ek_v (P := fun z => V g m_T_init 3 61 0 0 _ _ _ z _) (show _ = up (ad m10 ea (.inl (g.2.2.2.2 3, 4, .inr (.inr (.inr (.inr (fun _ => none))))))) x (.inr (5, [.ref q1, .ref q2, .ref q3, .ref rd, .ref rk, .ref ea, .int 0, .int 0])) from rfl) ?_
  have F6 : Fr (fun b => b = x) m10 (up (ad m10 ea (.inl (g.2.2.2.2 3, 4, .inr (.inr (.inr (.inr (fun _ => none))))))) x (.inr (5, [.ref q1, .ref q2, .ref q3, .ref rd, .ref rk, .ref ea, .int 0, .int 0]))) := Fr_up (Fr_ad Fr_rf hea) rfl
  have x13 := Ob_s (ci := 5) (fs := [.ref q1, .ref q2, .ref q3, .ref rd, .ref rk, .ref ea, .int 0, .int 0]) x12
  have u1 : Qa g (up (ad m10 ea (.inl (g.2.2.2.2 3, 4, .inr (.inr (.inr (.inr (fun _ => none))))))) x (.inr (5, [.ref q1, .ref q2, .ref q3, .ref rd, .ref rk, .ref ea, .int 0, .int 0]))) 3 ea 4 (fun _ => none) := Qa_n Qa_z (Ne.symm hxe)
  have hI6 := In_app (G := [ea]) hI5 (List.pairwise_singleton _ _) (fun b hb => by rcases List.mem_singleton.mp hb with rfl; exact hea) (fun b hb => by rcases List.mem_singleton.mp hb with rfl; exact u1.1) F6.1
  generalize up (ad m10 ea (.inl (g.2.2.2.2 3, 4, .inr (.inr (.inr (.inr (fun _ => none))))))) x (.inr (5, [.ref q1, .ref q2, .ref q3, .ref rd, .ref rk, .ref ea, .int 0, .int 0])) = m11 at F6 x13 u1 hI6 ⊢
  have hP : [x, q1, r1, q2, r2, q3, r3, rd, e, sa, fa, la, za, rk, kl, kp, ea].Pairwise (fun a b => a ≠ b) := hI6.1
  have key : ∀ i b, [x, q1, r1, q2, r2, q3, r3, rd, e, sa, fa, la, za, rk, kl, kp, ea][i]? = some b → cI0 (posL [x, q1, r1, q2, r2, q3, r3, rd, e, sa, fa, la, za, rk, kl, kp, ea] b) = cI0 i := fun i b hb => by rw [posL_get hP hb]
  refine V_vret d_T_init_78 rfl ⟨rfl, aI0 x q1 r1 q2 r2 q3 r3 rd rk kl kp ea, fun _ r => n5 e sa fa la za r, fun b => cI0 (posL [x, q1, r1, q2, r2, q3, r3, rd, e, sa, fa, la, za, rk, kl, kp, ea] b), rfl, ⟨⟨x13, Nat.zero_le _, ?_, fun i hi => absurd hi (Nat.not_lt_zero i)⟩, Sgm_x s1e x11 F6, Sgm_x s2e x11 F6, Sgm_x s3e x11 F6, ⟨Ob_f z1 F6 (Ne.symm hxk), Ia_f z2 F6 (Ne.symm (Ob_neI x11 z2)), ⟨_, Ia_f z3 F6 (Ne.symm (Ob_neI x11 z3))⟩, Nat.zero_le _⟩, ⟨⟨0, 0, Ob_f y1b F6 (Ne.symm hxr)⟩, ⟨0, 0, 0, Ob_f y2b F6 (Ne.symm (Ob_neC x11 y2b (by decide)))⟩, ⟨_, Qa_f y3b F6 (Ne.symm (Ob_neQ x11 y3b))⟩, _, _, _, Ia_f y4b F6 (Ne.symm (Ob_neI x11 y4b)), Ia_f y5b F6 (Ne.symm (Ob_neI x11 y5b)), Ia_f y6b F6 (Ne.symm (Ob_neI x11 y6b))⟩, fun r hr => ?_, fun i r hi hr => ?_, fun i j hi => absurd hi (Nat.not_lt_zero i)⟩, Fr_tr F5b F6 (fun _ _ z => z)⟩
  · have ef : (fun i => if i < 0 then some (n5 e sa fa la za 0) else none) = (fun _ : Nat => (none : Option Nat)) := funext fun i => if_neg (Nat.not_lt_zero i)
    exact ef ▸ u1
  · have hrr : r = 0 ∨ r = 1 ∨ r = 2 ∨ r = 3 ∨ r = 4 ∨ r = 5 ∨ r = 6 ∨ r = 7 ∨ r = 8 ∨ r = 9 ∨ r = 10 ∨ r = 11 := by omega
    rcases hrr with rfl | rfl | rfl | rfl | rfl | rfl | rfl | rfl | rfl | rfl | rfl | rfl
    · exact key 0 _ rfl
    · exact key 1 _ rfl
    · exact key 2 _ rfl
    · exact key 3 _ rfl
    · exact key 4 _ rfl
    · exact key 5 _ rfl
    · exact key 6 _ rfl
    · exact key 7 _ rfl
    · exact key 13 _ rfl
    · exact key 14 _ rfl
    · exact key 15 _ rfl
    · exact key 16 _ rfl
  · have hi0 : i = 0 := by omega
    subst hi0
    have hrr : r = 0 ∨ r = 1 ∨ r = 2 ∨ r = 3 ∨ r = 4 := by omega
    rcases hrr with rfl | rfl | rfl | rfl | rfl
    · exact key 8 _ rfl
    · exact key 9 _ rfl
    · exact key 10 _ rfl
    · exact key 11 _ rfl
    · exact key 12 _ rfl
end C17
