/-! the reference: ranges, hours, the whole text -/
section M6
variable {g : GG} {m0 m : Mm} {a : Nat} {B : Nat → Nat} {sc : Fw} {ar : Ar} {tx : Sq} {p : Nat}
theorem w_ok (hT : tx.2 ≤ 500) (hp : p + 1 ≤ 500) (lk : Int32) : sOk (w1 tx lk p).2 ∧ sOk (w2 tx lk p).2 ∧ sOk (w3 tx lk p).2 := by
  have a1 : sOk (w1 tx lk p).2 := vl_ok hT ⟨hp, fun _ z => nomatch z⟩
  have a2 : sOk (w2 tx lk p).2 := vl_ok hT (tk_ok (by decide) hT a1)
  exact ⟨a1, a2, vl_ok hT (tk_ok (by decide) hT a2)⟩
set_option maxRecDepth 20000 in
set_option maxHeartbeats 1000000 in
theorem c_M_range (hg : GO g) (hM : Md g m0 m a B (scP sc (p, none)) ar) (hT : RQ (sc 2) (ar 1) tx 500) {D : Dst} (hD : DM sc ar D p) (hc : hr tx p = 47) : CT g m_M_range 2 47 0 0 [.ref a] m (Lq g m0 a B sc ar tx (rdR tx D p)) := by
  have hT2 := hT.2.1
  obtain ⟨c1, c2, c3, c4, c5, c6, c7, c8, c9⟩ := hD
  have hp1 : p + 1 ≤ 500 := ps_le hT2 hc (by decide)
  have hsim := rg_sim (tx := tx) hT2 (D := D) hp1
  rw [← c6] at hsim
  obtain ⟨o1, o2, o3⟩ := w_ok (tx := tx) hT2 hp1 (sc 28)
  refine CT_go (lo := [(0, .ref a)]) rfl rfl rfl rfl hg ?_
  first | refine V_aload_n d_M_range_0 rfl rfl ?_ | refine V_aloadN_n d_M_range_0 rfl rfl ?_
  refine V_dup d_M_range_1 rfl ?_
  refine Vget fl_M_71 d_M_range_2 hM.1 rfl ?_
  refine V_iconst (v := 1) d_M_range_5 (by decide) ?_
  refine V_iadd d_M_range_6 ?_
  refine ek_v (P := fun z => V g m_M_range 2 47 0 0 _ _ z _ _) (show _ = [Value.int (nI (p + 1)), .ref a] by rw [← nI_1]; rfl) ?_
  refine Mput (k := 20) pl_M_71 d_M_range_7 hM rfl rfl (fun m hM => ?_)
  rw [scP_at] at hM
  first | refine V_aload_n d_M_range_10 rfl rfl ?_ | refine V_aloadN_n d_M_range_10 rfl rfl ?_
  refine V_iconst (v := 4) d_M_range_11 (by decide) ?_
  first | refine V_aload_n d_M_range_12 rfl rfl ?_ | refine V_aloadN_n d_M_range_12 rfl rfl ?_
  refine Vget fl_M_95 d_M_range_13 hM.1 rfl ?_
  refine V_iconst (v := 1) d_M_range_16 (by decide) ?_
  refine V_iadd d_M_range_17 ?_
  refine V_sipush (v := 9999) d_M_range_18 (by decide) ?_
  refine VcallV cb_M_value mv_M_140 rfl (ci := 6) rfl rfl d_M_range_21 (c_M_value (d := 4) hg hM hT ⟨hp1, fun _ z => nomatch z⟩ (by omega) (sc 28 + 1) 9999) ⟨by decide, by decide⟩ rfl hM.1 rfl (Nat.le_of_ble_eq_true rfl) (fun _ _ h => nomatch h.1) (fun v m2 hR => ?_)
  obtain ⟨hv9, hM⟩ := hR
  cases hv9
  refine V_istore_n d_M_range_24 rfl rfl ?_
  first | refine V_aload_n d_M_range_25 rfl rfl ?_ | refine V_aloadN_n d_M_range_25 rfl rfl ?_
  refine V_bipush (v := 45) d_M_range_26 (by decide) ?_
  refine VcallV cb_M_take mv_M_133 rfl (ci := 6) rfl rfl d_M_range_28 (c_M_take hg hM hT o1 45) ⟨by decide, by decide⟩ rfl hM.1 rfl (Nat.le_of_ble_eq_true rfl) (fun _ _ h => nomatch h.1) (fun v m2 hR => ?_)
  obtain ⟨hv9, hM⟩ := hR
  cases hv9
  first | refine V_aload_n d_M_range_31 rfl rfl ?_ | refine V_aloadN_n d_M_range_31 rfl rfl ?_
  refine V_iconst (v := 4) d_M_range_32 (by decide) ?_
  refine V_iload_n d_M_range_33 rfl rfl ?_
  refine V_sipush (v := 9999) d_M_range_34 (by decide) ?_
  refine VcallV cb_M_value mv_M_140 rfl (ci := 6) rfl rfl d_M_range_37 (c_M_value (d := 4) hg hM hT (tk_ok (by decide) hT2 o1) (by omega) (w1 tx (sc 28) p).1 9999) ⟨by decide, by decide⟩ rfl hM.1 rfl (Nat.le_of_ble_eq_true rfl) (fun _ _ h => nomatch h.1) (fun v m2 hR => ?_)
  obtain ⟨hv9, hM⟩ := hR
  cases hv9
  refine V_istore_n d_M_range_40 rfl rfl ?_
  first | refine V_aload_n d_M_range_41 rfl rfl ?_ | refine V_aloadN_n d_M_range_41 rfl rfl ?_
  refine V_bipush (v := 58) d_M_range_42 (by decide) ?_
  refine VcallV cb_M_take mv_M_133 rfl (ci := 6) rfl rfl d_M_range_44 (c_M_take hg hM hT o2 58) ⟨by decide, by decide⟩ rfl hM.1 rfl (Nat.le_of_ble_eq_true rfl) (fun _ _ h => nomatch h.1) (fun v m2 hR => ?_)
  obtain ⟨hv9, hM⟩ := hR
  cases hv9
  first | refine V_aload_n d_M_range_47 rfl rfl ?_ | refine V_aloadN_n d_M_range_47 rfl rfl ?_
  refine V_iconst (v := 1) d_M_range_48 (by decide) ?_
  refine V_iconst (v := 1) d_M_range_49 (by decide) ?_
  refine V_bipush (v := 9) d_M_range_50 (by decide) ?_
  refine VcallV cb_M_value mv_M_140 rfl (ci := 6) rfl rfl d_M_range_52 (c_M_value (d := 1) hg hM hT (tk_ok (by decide) hT2 o2) (by omega) 1 9) ⟨by decide, by decide⟩ rfl hM.1 rfl (Nat.le_of_ble_eq_true rfl) (fun _ _ h => nomatch h.1) (fun v m2 hR => ?_)
  obtain ⟨hv9, hM⟩ := hR
  cases hv9
  change Md g m0 _ a B (scP sc (w3 tx (sc 28) p).2) ar at hM
  refine V_istore_n (x := (w3 tx (sc 28) p).1) d_M_range_55 rfl rfl ?_
  refine V_lo [(0, .ref a), (1, .int (w1 tx (sc 28) p).1), (2, .int (w2 tx (sc 28) p).1), (3, .int (w3 tx (sc 28) p).1)] ⟨rfl, rfl, rfl, rfl, trivial⟩ ?_
  cases ho : (w3 tx (sc 28) p).2.2 with
  | some w =>
    have e21 : (scP sc (w3 tx (sc 28) p).2) 21 = nI w := by
      show mw (w3 tx (sc 28) p).2.2 = _
      rw [ho]
      rfl
    first | refine V_aload_n d_M_range_56 rfl rfl ?_ | refine V_aloadN_n d_M_range_56 rfl rfl ?_
    refine Vget fl_M_74 d_M_range_57 hM.1 rfl ?_
    refine V_if_lt (tgt := 64) d_M_range_60 (by decide) (fun h_60 => ?_) (fun h_60 => ?_)
    · rw [e21] at h_60
      exact absurd h_60 (nI_pos (by have := o3.2 w ho; omega))
    · refine V_vret d_M_range_63 rfl ⟨rfl, sc, ar, _, hM, kS_rf, kA_rf, o3, ?_⟩
      rcases hsim with ⟨z1, z2⟩ | ⟨-, z2, -⟩
      · exact Or.inr ⟨z1, z2⟩
      · rw [ho] at z2
        cases z2
  | none =>
    have e21 : (scP sc (w3 tx (sc 28) p).2) 21 = -1 := by
      show mw (w3 tx (sc 28) p).2.2 = _
      rw [ho]
      rfl
    -- the end: one range more
    have fin : ∀ (m : Mm) (ar' : Ar) (x : List (Nat × Value)), Md g m0 m a B (scP (upd sc 28 (w2 tx (sc 28) p).1) (w3 tx (sc 28) p).2) ar' → kA ar ar' → ar' 23 = ar 23 → (∀ j, j < D.2.2.1 + 1 → j < 8 → ar' 25 j = (if D.2.2.1 < 8 then upd D.2.2.2.1 D.2.2.1 (w1 tx (sc 28) p).1 else D.2.2.2.1) j ∧ ar' 26 j = (if D.2.2.1 < 8 then upd D.2.2.2.2.1 D.2.2.1 (w2 tx (sc 28) p).1 else D.2.2.2.2.1) j ∧ ar' 27 j = (if D.2.2.1 < 8 then upd D.2.2.2.2.2.1 D.2.2.1 (w3 tx (sc 28) p).1 else D.2.2.2.2.2.1) j) → chk [(0, .ref a)] x → V g m_M_range 2 47 0 0 108 x [] m (Lq g m0 a B sc ar tx (rdR tx D p)) := by
      intro m ar' x hM hkA h23 hrow hx
      refine V_lo _ hx ?_
      first | refine V_aload_n d_M_range_108 rfl rfl ?_ | refine V_aloadN_n d_M_range_108 rfl rfl ?_
      refine V_dup d_M_range_109 rfl ?_
      refine Vget fl_M_83 d_M_range_110 hM.1 rfl ?_
      refine V_iconst (v := 1) d_M_range_113 (by decide) ?_
      refine V_iadd d_M_range_114 ?_
      refine ek_v (P := fun z => V g m_M_range 2 47 0 0 _ _ z _ _) (show _ = [Value.int (nI (D.2.2.1 + 1)), .ref a] by rw [← nI_1, ← c3]; rfl) ?_
      refine Mput (k := 24) pl_M_83 d_M_range_115 hM rfl rfl (fun m hM => ?_)
      rw [scP_o (by decide) (by decide)] at hM
      refine V_vret d_M_range_118 rfl ⟨rfl, _, _, _, hM, ?_, hkA, o3, ?_⟩
      · intro i e1 e2 e3 e4 e5
        show upd (upd sc 28 _) 24 _ i = sc i
        unfold upd
        rw [if_neg e4, if_neg e5]
      · rcases hsim with ⟨z1, z2⟩ | ⟨z1, -, z3, z4, z5, z6, z7⟩
        · exact Or.inr ⟨z1, z2⟩
        · refine Or.inl ⟨z1, z3, ?_⟩
          rw [z4]
          refine ⟨c1, c2, rfl, by show D.2.2.1 + 1 ≤ _; omega, z7, rfl, fun j hj => ?_, c8, fun j hj hj8 => ?_⟩
          · obtain ⟨⟨n1, n2, n3⟩, n4⟩ := c7 j hj
            exact ⟨⟨fun i hi => by rw [h23]; exact n1 i hi, fun z => by rw [h23]; exact n2 z, fun z => by rw [h23]; exact n3 z⟩, n4⟩
          · obtain ⟨r1, r2, r3⟩ := hrow j hj hj8
            refine ⟨r1, r2, r3, ?_⟩
            show wi ((if D.2.2.1 < 8 then upd D.2.2.2.2.2.1 D.2.2.1 (w3 tx (sc 28) p).1 else D.2.2.2.2.2.1) j) 1 9 = true
            have hj' : j < D.2.2.1 + 1 := hj
            by_cases e8 : D.2.2.1 < 8
            · rw [if_pos e8]
              unfold upd
              by_cases ej : j = D.2.2.1
              · rw [if_pos ej]; exact z5
              · rw [if_neg ej]; exact (c9 j (by omega) hj8).2.2.2
            · rw [if_neg e8]
              exact (c9 j (by omega) hj8).2.2.2
    have l8 : (8 : Int32) ≤ nI D.2.2.1 ↔ 8 ≤ D.2.2.1 := nI_leI (a := 8) (by omega) (by omega)
    first | refine V_aload_n d_M_range_56 rfl rfl ?_ | refine V_aloadN_n d_M_range_56 rfl rfl ?_
    refine Vget fl_M_74 d_M_range_57 hM.1 rfl ?_
    refine V_if_lt (tgt := 64) d_M_range_60 (by decide) (fun h_60 => ?_) (fun h_60 => ?_)
    · first | refine V_aload_n d_M_range_64 rfl rfl ?_ | refine V_aloadN_n d_M_range_64 rfl rfl ?_
      refine V_iload_n d_M_range_65 rfl rfl ?_
      refine Mput (k := 28) pl_M_95 d_M_range_66 hM rfl rfl (fun m hM => ?_)
      rw [scP_o (by decide) (by decide)] at hM
      first | refine V_aload_n d_M_range_69 rfl rfl ?_ | refine V_aloadN_n d_M_range_69 rfl rfl ?_
      refine Vget fl_M_83 d_M_range_70 hM.1 rfl ?_
      refine V_bipush (v := 8) d_M_range_73 (by decide) ?_
      refine V_icmp_ge (tgt := 108) d_M_range_75 (by decide) (fun h_75 => ?_) (fun h_75 => ?_)
      · have h75 : 8 ≤ D.2.2.1 := l8.mp (by rw [← c3]; exact h_75)
        refine fin m ar _ hM kA_rf rfl (fun j hj hj8 => ?_) ⟨rfl, trivial⟩
        rw [if_neg (by omega), if_neg (by omega), if_neg (by omega)]
        obtain ⟨r1, r2, r3, -⟩ := c9 j (by omega) hj8
        exact ⟨r1, r2, r3⟩
      · have h75 : D.2.2.1 < 8 := Nat.not_le.mp (fun z => h_75 (show (8 : Int32) ≤ sc 24 by rw [c3]; exact l8.mpr z))
        have hin : vp_in (sc 24) 8 := by rw [c3]; exact vp_nI h75 (by omega)
        have e24 : (sc 24).toNatClampNeg = D.2.2.1 := by rw [c3]; exact nI_clamp (by omega)
        first | refine V_aload_n d_M_range_78 rfl rfl ?_ | refine V_aloadN_n d_M_range_78 rfl rfl ?_
        refine Vget fl_M_86 d_M_range_79 hM.1 rfl ?_
        first | refine V_aload_n d_M_range_82 rfl rfl ?_ | refine V_aloadN_n d_M_range_82 rfl rfl ?_
        refine Vget fl_M_83 d_M_range_83 hM.1 rfl ?_
        refine V_iload_n d_M_range_86 rfl rfl ?_
        refine Miast d_M_range_87 hM (by decide) (by exact hin) (fun m hM => ?_)
        first | refine V_aload_n d_M_range_88 rfl rfl ?_ | refine V_aloadN_n d_M_range_88 rfl rfl ?_
        refine Vget fl_M_89 d_M_range_89 hM.1 rfl ?_
        first | refine V_aload_n d_M_range_92 rfl rfl ?_ | refine V_aloadN_n d_M_range_92 rfl rfl ?_
        refine Vget fl_M_83 d_M_range_93 hM.1 rfl ?_
        refine V_iload_n d_M_range_96 rfl rfl ?_
        refine Miast d_M_range_97 hM (by decide) (by exact hin) (fun m hM => ?_)
        first | refine V_aload_n d_M_range_98 rfl rfl ?_ | refine V_aloadN_n d_M_range_98 rfl rfl ?_
        refine Vget fl_M_92 d_M_range_99 hM.1 rfl ?_
        first | refine V_aload_n d_M_range_102 rfl rfl ?_ | refine V_aloadN_n d_M_range_102 rfl rfl ?_
        refine Vget fl_M_83 d_M_range_103 hM.1 rfl ?_
        refine V_iload_n d_M_range_106 rfl rfl ?_
        refine Miast d_M_range_107 hM (by decide) (by exact hin) (fun m hM => ?_)
        rw [show (scP (upd sc 28 (w2 tx (sc 28) p).1) (w3 tx (sc 28) p).2 24).toNatClampNeg = D.2.2.1 from e24] at hM
        refine fin m _ _ hM ?_ ?_ (fun j hj hj8 => ?_) ⟨rfl, trivial⟩
        · intro k k1 k2 k3 k4
          unfold upA
          rw [if_neg k4, if_neg k3, if_neg k2]
        · rfl
        · have q := c9 j
          rw [if_pos h75, if_pos h75, if_pos h75]
          show upd (ar 25) D.2.2.1 (w1 tx (sc 28) p).1 j = _ ∧ upd (ar 26) D.2.2.1 (w2 tx (sc 28) p).1 j = _ ∧ upd (ar 27) D.2.2.1 (w3 tx (sc 28) p).1 j = _
          unfold upd
          by_cases ej : j = D.2.2.1
          · rw [if_pos ej, if_pos ej, if_pos ej, if_pos ej, if_pos ej, if_pos ej]
            exact ⟨rfl, rfl, rfl⟩
          · obtain ⟨r1, r2, r3, -⟩ := q (by omega) hj8
            rw [if_neg ej, if_neg ej, if_neg ej, if_neg ej, if_neg ej, if_neg ej]
            exact ⟨r1, r2, r3⟩
    · rw [e21] at h_60
      exact absurd (show (-1 : Int32) < 0 by decide) h_60
theorem hh_nn {x y : Nat} (hx : x < y) (hy : y ≤ 24) : 100 * nI x + nI y = nI (100 * x + y) := by
  show nI 100 * nI x + nI y = _
  rw [nI_mulC, nI_add]
set_option maxRecDepth 20000 in
set_option maxHeartbeats 1000000 in
theorem c_M_hoursLine (hg : GO g) (hM : Md g m0 m a B (scP sc (p, none)) ar) (hT : RQ (sc 2) (ar 1) tx 500) {D : Dst} (hD : DM sc ar D p) (hc : hr tx p = 42) : CT g m_M_hoursLine 2 47 0 0 [.ref a] m (Lq g m0 a B sc ar tx (rdH tx D p)) := by
  have hT2 := hT.2.1
  obtain ⟨c1, c2, c3, c4, c5, c6, c7, c8, c9⟩ := hD
  have hp1 : p + 1 ≤ 500 := ps_le hT2 hc (by decide)
  have s1 : sOk (p + 1, none) := ⟨hp1, fun _ z => nomatch z⟩
  -- wrong at the letter
  have bad : rdH tx D p = (false, D, p + 1) → ∀ (m : Mm) (x : List (Nat × Value)), Md g m0 m a B (scP sc (p + 1, none)) ar → chk [(0, .ref a)] x → V g m_M_hoursLine 2 47 0 0 40 x [] m (Lq g m0 a B sc ar tx (rdH tx D p)) := by
    intro er m x hM hx
    refine V_lo _ hx ?_
    first | refine V_aload_n d_M_hoursLine_40 rfl rfl ?_ | refine V_aloadN_n d_M_hoursLine_40 rfl rfl ?_
    first | refine V_aload_n d_M_hoursLine_41 rfl rfl ?_ | refine V_aloadN_n d_M_hoursLine_41 rfl rfl ?_
    refine Vget fl_M_71 d_M_hoursLine_42 hM.1 rfl ?_
    refine ek_v (P := fun z => V g m_M_hoursLine 2 47 0 0 _ _ z _ _) (show _ = [Value.int (nI (p + 1)), .ref a] from rfl) ?_
    refine VcallV cb_M_fail mv_M_120 rfl (ci := 6) rfl rfl d_M_hoursLine_45 (c_M_fail hg hM s1 (p + 1)) ⟨by decide, by decide⟩ rfl hM.1 rfl (Nat.le_of_ble_eq_true rfl) (fun _ _ h => nomatch h.1) (fun v m2 hR => ?_)
    obtain ⟨hv9, hM⟩ := hR
    cases hv9
    refine V_vret d_M_hoursLine_48 rfl ⟨rfl, sc, ar, _, hM, kS_rf, kA_rf, ⟨hp1, fun w z => by injection z with z; omega⟩, Or.inr ⟨by rw [er], ?_⟩⟩
    rw [er]
    rfl
  refine CT_go (lo := [(0, .ref a)]) rfl rfl rfl rfl hg ?_
  first | refine V_aload_n d_M_hoursLine_0 rfl rfl ?_ | refine V_aloadN_n d_M_hoursLine_0 rfl rfl ?_
  refine V_dup d_M_hoursLine_1 rfl ?_
  refine Vget fl_M_71 d_M_hoursLine_2 hM.1 rfl ?_
  refine V_iconst (v := 1) d_M_hoursLine_5 (by decide) ?_
  refine V_iadd d_M_hoursLine_6 ?_
  refine ek_v (P := fun z => V g m_M_hoursLine 2 47 0 0 _ _ z _ _) (show _ = [Value.int (nI (p + 1)), .ref a] by rw [← nI_1]; rfl) ?_
  refine Mput (k := 20) pl_M_71 d_M_hoursLine_7 hM rfl rfl (fun m hM => ?_)
  rw [scP_at] at hM
  first | refine V_aload_n d_M_hoursLine_10 rfl rfl ?_ | refine V_aloadN_n d_M_hoursLine_10 rfl rfl ?_
  refine VcallV cb_M_here mv_M_116 rfl (ci := 6) rfl rfl d_M_hoursLine_11 (c_M_here hg hM hT hp1) ⟨by decide, by decide⟩ rfl hM.1 rfl (Nat.le_of_ble_eq_true rfl) (fun _ _ h => nomatch h.1) (fun v m2 hR => ?_)
  obtain ⟨hv9, e9⟩ := hR
  cases hv9
  subst m2
  refine V_istore_n d_M_hoursLine_14 rfl rfl ?_
  first | refine V_aload_n d_M_hoursLine_15 rfl rfl ?_ | refine V_aloadN_n d_M_hoursLine_15 rfl rfl ?_
  refine V_iload_n d_M_hoursLine_16 rfl rfl ?_
  refine VcallV cb_M_toldAt mv_M_129 rfl (ci := 6) rfl rfl d_M_hoursLine_17 (c_M_toldAt hg hM (v := D.2.1) c1 c2 (fun j hj => ((c7 j hj).1.1 0 (by omega))) _) ⟨by decide, by decide⟩ rfl hM.1 rfl (Nat.le_of_ble_eq_true rfl) (fun _ _ h => nomatch h.1) (fun v m2 hR => ?_)
  obtain ⟨hv9, e9⟩ := hR
  cases hv9
  subst m2
  cases hf : fndF D.2.1 (hr tx (p + 1)) D.1 0 with
  | none =>
    have er : rdH tx D p = (false, D, p + 1) := by unfold rdH; rw [hf]; rfl
    refine V_istore_n d_M_hoursLine_20 rfl rfl ?_
    refine V_iload_n d_M_hoursLine_21 rfl rfl ?_
    refine V_if_lt (tgt := 40) d_M_hoursLine_22 (by decide) (fun h_22 => ?_) (fun h_22 => ?_)
    · exact bad er m _ hM ⟨rfl, trivial⟩
    · exact absurd (show (-1 : Int32) < 0 by decide) h_22
  | some j =>
    obtain ⟨-, hj, hvc⟩ := fndF_some hf
    rw [Nat.zero_add] at hj
    obtain ⟨⟨n1, n2, n3⟩, n4⟩ := c7 j hj
    have hne : hr tx (p + 1) ≠ -1 := by
      rw [← hvc]
      intro z
      have := n4.1
      rw [z] at this
      exact absurd this (by decide)
    have hp2 : p + 2 ≤ 500 := by have := hr_lt hne; omega
    have s2 : sOk (p + 2, none) := ⟨hp2, fun _ z => nomatch z⟩
    have hin : vp_in (nI (8 * j + 7)) 208 := vp_nI (by omega) (by omega)
    refine V_istore_n (x := nI j) d_M_hoursLine_20 rfl rfl ?_
    refine V_iload_n d_M_hoursLine_21 rfl rfl ?_
    refine V_if_lt (tgt := 40) d_M_hoursLine_22 (by decide) (fun h_22 => ?_) (fun h_22 => ?_)
    · exact absurd h_22 (nI_pos (by omega))
    · first | refine V_aload_n d_M_hoursLine_25 rfl rfl ?_ | refine V_aloadN_n d_M_hoursLine_25 rfl rfl ?_
      refine Vget fl_M_80 d_M_hoursLine_26 hM.1 rfl ?_
      refine V_bipush (v := 8) d_M_hoursLine_29 (by decide) ?_
      refine V_iload_n d_M_hoursLine_31 rfl rfl ?_
      refine V_imul d_M_hoursLine_32 ?_
      refine V_bipush (v := 7) d_M_hoursLine_33 (by decide) ?_
      refine V_iadd d_M_hoursLine_35 ?_
      refine ek_v (P := fun z => V g m_M_hoursLine 2 47 0 0 _ _ z _ _) (show _ = [Value.int (nI (8 * j + 7)), .ref (B 23)] by rw [← nI_add, ← nI8]; rfl) ?_
      refine Miald d_M_hoursLine_36 hM (by decide) (by assumption) ?_
      rw [nI_clamp (by omega)]
      by_cases h8 : 0 < D.2.1 j 8
      · have er : rdH tx D p = (false, D, p + 1) := by unfold rdH; rw [hf, ho1, if_pos h8]
        obtain ⟨k1, k2, k3⟩ := n2 h8
        have u2 := wi_to k2
        have u3 := wi_to k3
        rw [show (0 : Int32).toInt = 0 from rfl, show (23 : Int32).toInt = 23 from rfl] at u2
        rw [show (1 : Int32).toInt = 1 from rfl, show (24 : Int32).toInt = 24 from rfl] at u3
        obtain ⟨x, hx, hx2, -⟩ := nI_ex (x := D.2.1 j 7) (by omega)
        obtain ⟨y, hy, hy2, -⟩ := nI_ex (x := D.2.1 j 8) (by omega)
        rw [k1, hx, hy, show 100 * nI x + nI y = nI (100 * x + y) by rw [show (100 : Int32) = nI 100 from rfl, nI_mulC, nI_add]]
        refine V_if_lt (tgt := 49) d_M_hoursLine_37 (by decide) (fun h_37 => ?_) (fun h_37 => ?_)
        · exact absurd h_37 (nI_pos (by omega))
        · exact bad er m _ hM ⟨rfl, trivial⟩
      · rw [n3 h8]
        have hsim := ho_sim (tx := tx) hT2 hf h8 hp2
        have o1 : sOk (h1 tx p).2 := vl_ok hT2 (tk_ok (by decide) hT2 s2)
        have o2 : sOk (h2 tx p).2 := vl_ok hT2 (tk_ok (by decide) hT2 o1)
        refine V_if_lt (tgt := 49) d_M_hoursLine_37 (by decide) (fun h_37 => ?_) (fun h_37 => ?_)
        · first | refine V_aload_n d_M_hoursLine_49 rfl rfl ?_ | refine V_aloadN_n d_M_hoursLine_49 rfl rfl ?_
          refine V_dup d_M_hoursLine_50 rfl ?_
          refine Vget fl_M_71 d_M_hoursLine_51 hM.1 rfl ?_
          refine V_iconst (v := 1) d_M_hoursLine_54 (by decide) ?_
          refine V_iadd d_M_hoursLine_55 ?_
          refine ek_v (P := fun z => V g m_M_hoursLine 2 47 0 0 _ _ z _ _) (show _ = [Value.int (nI (p + 2)), .ref a] by rw [show p + 2 = (p + 1) + 1 from rfl, ← nI_1]; rfl) ?_
          refine Mput (k := 20) pl_M_71 d_M_hoursLine_56 hM rfl rfl (fun m hM => ?_)
          rw [scP_at] at hM
          first | refine V_aload_n d_M_hoursLine_59 rfl rfl ?_ | refine V_aloadN_n d_M_hoursLine_59 rfl rfl ?_
          refine V_bipush (v := 58) d_M_hoursLine_60 (by decide) ?_
          refine VcallV cb_M_take mv_M_133 rfl (ci := 6) rfl rfl d_M_hoursLine_62 (c_M_take hg hM hT s2 58) ⟨by decide, by decide⟩ rfl hM.1 rfl (Nat.le_of_ble_eq_true rfl) (fun _ _ h => nomatch h.1) (fun v m2 hR => ?_)
          obtain ⟨hv9, hM⟩ := hR
          cases hv9
          first | refine V_aload_n d_M_hoursLine_65 rfl rfl ?_ | refine V_aloadN_n d_M_hoursLine_65 rfl rfl ?_
          refine V_iconst (v := 2) d_M_hoursLine_66 (by decide) ?_
          refine V_iconst (v := 0) d_M_hoursLine_67 (by decide) ?_
          refine V_bipush (v := 23) d_M_hoursLine_68 (by decide) ?_
          refine VcallV cb_M_value mv_M_140 rfl (ci := 6) rfl rfl d_M_hoursLine_70 (c_M_value (d := 2) hg hM hT (tk_ok (by decide) hT2 s2) (by omega) 0 23) ⟨by decide, by decide⟩ rfl hM.1 rfl (Nat.le_of_ble_eq_true rfl) (fun _ _ h => nomatch h.1) (fun v m2 hR => ?_)
          obtain ⟨hv9, hM⟩ := hR
          cases hv9
          refine V_istore_n d_M_hoursLine_73 rfl rfl ?_
          first | refine V_aload_n d_M_hoursLine_74 rfl rfl ?_ | refine V_aloadN_n d_M_hoursLine_74 rfl rfl ?_
          refine V_bipush (v := 45) d_M_hoursLine_75 (by decide) ?_
          refine VcallV cb_M_take mv_M_133 rfl (ci := 6) rfl rfl d_M_hoursLine_77 (c_M_take hg hM hT o1 45) ⟨by decide, by decide⟩ rfl hM.1 rfl (Nat.le_of_ble_eq_true rfl) (fun _ _ h => nomatch h.1) (fun v m2 hR => ?_)
          obtain ⟨hv9, hM⟩ := hR
          cases hv9
          first | refine V_aload_n d_M_hoursLine_80 rfl rfl ?_ | refine V_aloadN_n d_M_hoursLine_80 rfl rfl ?_
          refine V_iconst (v := 2) d_M_hoursLine_81 (by decide) ?_
          refine V_iload_n d_M_hoursLine_82 rfl rfl ?_
          refine V_iconst (v := 1) d_M_hoursLine_83 (by decide) ?_
          refine V_iadd d_M_hoursLine_84 ?_
          refine V_bipush (v := 24) d_M_hoursLine_85 (by decide) ?_
          refine VcallV cb_M_value mv_M_140 rfl (ci := 6) rfl rfl d_M_hoursLine_87 (c_M_value (d := 2) hg hM hT (tk_ok (by decide) hT2 o1) (by omega) ((h1 tx p).1 + 1) 24) ⟨by decide, by decide⟩ rfl hM.1 rfl (Nat.le_of_ble_eq_true rfl) (fun _ _ h => nomatch h.1) (fun v m2 hR => ?_)
          obtain ⟨hv9, hM⟩ := hR
          cases hv9
          change Md g m0 _ a B (scP sc (h2 tx p).2) ar at hM
          refine V_istore (x := (h2 tx p).1) d_M_hoursLine_90 rfl ?_
          refine V_lo [(0, .ref a), (2, .int (nI j)), (3, .int (h1 tx p).1), (4, .int (h2 tx p).1)] ⟨rfl, rfl, rfl, rfl, trivial⟩ ?_
          cases ho : (h2 tx p).2.2 with
          | some w =>
            have e21 : (scP sc (h2 tx p).2) 21 = nI w := by
              show mw (h2 tx p).2.2 = _
              rw [ho]
              rfl
            first | refine V_aload_n d_M_hoursLine_92 rfl rfl ?_ | refine V_aloadN_n d_M_hoursLine_92 rfl rfl ?_
            refine Vget fl_M_74 d_M_hoursLine_93 hM.1 rfl ?_
            refine V_if_ge (tgt := 118) d_M_hoursLine_96 (by decide) (fun h_96 => ?_) (fun h_96 => ?_)
            · refine V_vret d_M_hoursLine_118 rfl ⟨rfl, sc, ar, _, hM, kS_rf, kA_rf, o2, ?_⟩
              rcases hsim with ⟨z1, z2⟩ | ⟨-, z2, -⟩
              · exact Or.inr ⟨z1, z2⟩
              · rw [ho] at z2
                cases z2
            · rw [e21] at h_96
              exact absurd (i_nlt (nI_pos (by have := o2.2 w ho; omega))) h_96
          | none =>
            have e21 : (scP sc (h2 tx p).2) 21 = -1 := by
              show mw (h2 tx p).2.2 = _
              rw [ho]
              rfl
            first | refine V_aload_n d_M_hoursLine_92 rfl rfl ?_ | refine V_aloadN_n d_M_hoursLine_92 rfl rfl ?_
            refine Vget fl_M_74 d_M_hoursLine_93 hM.1 rfl ?_
            refine V_if_ge (tgt := 118) d_M_hoursLine_96 (by decide) (fun h_96 => ?_) (fun h_96 => ?_)
            · rw [e21] at h_96
              exact absurd h_96 (by decide)
            · first | refine V_aload_n d_M_hoursLine_99 rfl rfl ?_ | refine V_aloadN_n d_M_hoursLine_99 rfl rfl ?_
              refine Vget fl_M_80 d_M_hoursLine_100 hM.1 rfl ?_
              refine V_bipush (v := 8) d_M_hoursLine_103 (by decide) ?_
              refine V_iload_n d_M_hoursLine_105 rfl rfl ?_
              refine V_imul d_M_hoursLine_106 ?_
              refine V_bipush (v := 7) d_M_hoursLine_107 (by decide) ?_
              refine V_iadd d_M_hoursLine_109 ?_
              refine ek_v (P := fun z => V g m_M_hoursLine 2 47 0 0 _ _ z _ _) (show _ = [Value.int (nI (8 * j + 7)), .ref (B 23)] by rw [← nI_add, ← nI8]; rfl) ?_
              refine V_bipush (v := 100) d_M_hoursLine_110 (by decide) ?_
              refine V_iload_n d_M_hoursLine_112 rfl rfl ?_
              refine V_imul d_M_hoursLine_113 ?_
              refine V_iload d_M_hoursLine_114 rfl ?_
              refine V_iadd d_M_hoursLine_116 ?_
              refine Miast d_M_hoursLine_117 hM (by decide) (by assumption) (fun m hM => ?_)
              rw [nI_clamp (by omega), upA_st] at hM
              refine V_vret d_M_hoursLine_118 rfl ⟨rfl, sc, _, _, hM, kS_rf, fun k k1 k2 k3 k4 => stA_n k1, o2, ?_⟩
              rcases hsim with ⟨z1, z2⟩ | ⟨z1, -, z3, z4, ⟨x, y, z5, z6, z7, z8⟩, z9, z10⟩
              · exact Or.inr ⟨z1, z2⟩
              · refine Or.inl ⟨z1, z3, ?_⟩
                rw [z4]
                have hl : ∀ i, setR D.2.1 j (upd (upd (D.2.1 j) 7 (h1 tx p).1) 8 (h2 tx p).1) i 0 = D.2.1 i 0 := by
                  intro i
                  unfold setR
                  split
                  · rename_i e; rw [e]; rfl
                  · rfl
                refine ⟨c1, c2, c3, by show D.2.2.1 ≤ _; omega, z10, c6, fun i hi => ?_, fun x y hx hy e => c8 x y hx hy ?_, fun i hi hi8 => ?_⟩
                · show NSv _ i (setR D.2.1 j (upd (upd (D.2.1 j) 7 (h1 tx p).1) 8 (h2 tx p).1) i) ∧ SvOk (setR D.2.1 j (upd (upd (D.2.1 j) 7 (h1 tx p).1) 8 (h2 tx p).1) i)
                  unfold setR
                  by_cases e : i = j
                  · subst e
                    rw [if_pos rfl]
                    refine ⟨⟨fun q hq => ?_, fun _ => ⟨?_, ?_, ?_⟩, fun z => absurd ?_ z⟩, n4⟩
                    · rw [stA_s]
                      show upd (ar 23) (8 * i + 7) _ (8 * i + q) = upd (upd (D.2.1 i) 7 (h1 tx p).1) 8 (h2 tx p).1 q
                      unfold upd
                      rw [if_neg (by omega), if_neg (by omega), if_neg (by omega)]
                      exact n1 q hq
                    · rw [stA_s]
                      show upd (ar 23) (8 * i + 7) _ (8 * i + 7) = _
                      unfold upd
                      rw [if_pos rfl]
                      rfl
                    · show wi (h1 tx p).1 0 23 = true
                      rw [z5]
                      exact (wi_nI (l := 0) (h := 23) (by omega) (by omega) (by omega)).mpr (by omega)
                    · show wi (h2 tx p).1 1 24 = true
                      rw [z6]
                      exact (wi_nI (l := 1) (h := 24) (by omega) (by omega) (by omega)).mpr (by omega)
                    · show 0 < (h2 tx p).1
                      rw [z6]
                      exact (nI_ltI (a := 0) (by omega) (by omega)).mpr (by omega)
                  · rw [if_neg e]
                    obtain ⟨⟨v1, v2, v3⟩, v4⟩ := c7 i hi
                    have ne : ∀ q, q < 8 → (stA ar 23 (upd (ar 23) (8 * j + 7) (100 * (h1 tx p).1 + (h2 tx p).1))) 23 (8 * i + q) = ar 23 (8 * i + q) := fun q hq => by
                      rw [stA_s]
                      unfold upd
                      rw [if_neg (by omega)]
                    exact ⟨⟨fun q hq => (ne q (by omega)).trans (v1 q hq), fun z => ⟨(ne 7 (by omega)).trans (v2 z).1, (v2 z).2⟩, fun z => (ne 7 (by omega)).trans (v3 z)⟩, v4⟩
                · have e' : setR D.2.1 j (upd (upd (D.2.1 j) 7 (h1 tx p).1) 8 (h2 tx p).1) x 0 = setR D.2.1 j (upd (upd (D.2.1 j) 7 (h1 tx p).1) 8 (h2 tx p).1) y 0 := e
                  rwa [hl, hl] at e'
                · rw [stA_n (by decide), stA_n (by decide), stA_n (by decide)]
                  exact c9 i hi hi8
        · exact absurd (show (-1 : Int32) < 0 by decide) h_37
/-- the text is read -/
def TP (g : GG) (m0 : Mm) (a : Nat) (B : Nat → Nat) (sc : Fw) (ar : Ar) (r : Pd) : Ou → Mm → Prop := fun o m' => o = .inl none ∧ ∃ sc' ar', Md g m0 m' a B sc' ar' ∧ kS sc sc' ∧ kA ar ar' ∧ ((r.1 = true ∧ sc' 21 = -1 ∧ DM sc' ar' r.2.1 r.2.2) ∨ (r.1 = false ∧ sc' 21 = nI r.2.2 ∧ r.2.2 ≤ 500))
theorem kS_tr {a b c : Fw} (h : kS a b) (h' : kS b c) : kS a c := fun i e1 e2 e3 e4 e5 => (h' i e1 e2 e3 e4 e5).trans (h i e1 e2 e3 e4 e5)
theorem kA_tr {a b c : Ar} (h : kA a b) (h' : kA b c) : kA a c := fun k e1 e2 e3 e4 => (h' k e1 e2 e3 e4).trans (h k e1 e2 e3 e4)
theorem kS_P {sc sc' : Fw} {s : PSt} (h : kS sc sc') : kS sc (scP sc' s) := fun i e1 e2 e3 e4 e5 => by
  unfold scP upd
  rw [if_neg e2, if_neg e1]
  exact h i e1 e2 e3 e4 e5
theorem DM_P {sc : Fw} {ar : Ar} {D : Dst} {p : Nat} {s : PSt} (h : DM sc ar D p) : DM (scP sc s) ar D p := h
theorem RQ_k {sc sc' : Fw} {ar ar' : Ar} (h : RQ (sc 2) (ar 1) tx 500) (h1 : kS sc sc') (h2 : kA ar ar') : RQ (sc' 2) (ar' 1) tx 500 := by
  rw [h1 2 (by decide) (by decide) (by decide) (by decide) (by decide), h2 1 (by decide) (by decide) (by decide) (by decide)]
  exact h
set_option maxRecDepth 20000 in
theorem l_M_readText (hg : GO g) {sc0 : Fw} {ar0 : Ar} (hT0 : RQ (sc0 2) (ar0 1) tx 500) {Fi : Ou → Mm → Prop} : ∀ (n : Nat) (D : Dst) (p : Nat) (sc : Fw) (ar : Ar) (m : Mm) (x : List (Nat × Value)), 501 ≤ n + p → Md g m0 m a B (scP sc (p, none)) ar → kS sc0 sc → kA ar0 ar → DM sc ar D p → chk [(0, .ref a)] x → (∀ o m', TP g m0 a B sc0 ar0 (whF tx n D p) o m' → Fi o m') → V g m_M_readText 3 75 0 0 25 x [] m Fi := by
  intro n
  induction n with
  | zero =>
    intro D p sc ar m x hn hM hS hA hD hx hF
    have := hD.2.2.2.2.1
    omega
  | succ n ih =>
    intro D p sc ar m x hn hM hS hA hD hx hF
    have hT := RQ_k hT0 hS hA
    have hT2 := hT.2.1
    have c5 := hD.2.2.2.2.1
    have s1 : sOk (p, none) := ⟨c5, fun _ z => nomatch z⟩
    have e2 : sc 2 = nI tx.2 := hT.1
    refine V_lo _ hx ?_
    by_cases hlt : p < tx.2
    · rw [whF, if_pos hlt] at hF
      -- behind a line
      have key : ∀ (o : Ou) (m : Mm) (x : List (Nat × Value)), Lq g m0 a B sc ar tx (lnF tx D p) o m → chk [(0, .ref a)] x → V g m_M_readText 3 75 0 0 101 x [] m Fi := by
        intro o m x hL hx
        obtain ⟨-, sc', ar', s', hM, kS', kA', o', hL⟩ := hL
        have hT' := RQ_k hT kS' kA'
        refine V_lo _ hx ?_
        first | refine V_aload_n d_M_readText_101 rfl rfl ?_ | refine V_aloadN_n d_M_readText_101 rfl rfl ?_
        refine V_bipush (v := 10) d_M_readText_102 (by decide) ?_
        refine VcallV cb_M_take mv_M_133 rfl (ci := 6) rfl rfl d_M_readText_104 (c_M_take hg hM hT' o' 10) ⟨by decide, by decide⟩ rfl hM.1 rfl (Nat.le_of_ble_eq_true rfl) (fun _ _ h => nomatch h.1) (fun v m2 hR => ?_)
        obtain ⟨hv9, hM⟩ := hR
        cases hv9
        refine V_goto (tgt := 25) d_M_readText_107 (by decide) ?_
        rcases hL with ⟨z1, z2, z3⟩ | ⟨z1, z2⟩
        · rw [z2] at hM
          rw [if_pos z1] at hF
          have hgt := lnF_gt hT2 z1
          exact ih _ _ sc' ar' _ _ (by omega) hM (kS_tr hS kS') (kA_tr hA kA') z3 ⟨rfl, trivial⟩ hF
        · rw [if_neg (by rw [z1]; decide)] at hF
          have hok := tk_ok (c := 10) (by decide) hT2 o'
          have hw := hok.2 _ z2
          have e21 : (scP sc' (tkF tx 10 s')) 21 = nI (lnF tx D p).2.2 := by
            show mw (tkF tx 10 s').2 = _
            rw [z2]
            rfl
          have fin : V g m_M_readText 3 75 0 0 110 [(0, .ref a)] [] _ Fi := V_vret d_M_readText_110 rfl (hF _ _ ⟨rfl, _, _, hM, kS_P (kS_tr hS kS'), kA_tr hA kA', Or.inr ⟨z1, e21, hw⟩⟩)
          first | refine V_aload_n d_M_readText_25 rfl rfl ?_ | refine V_aloadN_n d_M_readText_25 rfl rfl ?_
          refine Vget fl_M_71 d_M_readText_26 hM.1 rfl ?_
          first | refine V_aload_n d_M_readText_29 rfl rfl ?_ | refine V_aloadN_n d_M_readText_29 rfl rfl ?_
          refine Vget fl_M_17 d_M_readText_30 hM.1 rfl ?_
          refine V_icmp_ge (tgt := 110) d_M_readText_33 (by decide) (fun h_33 => ?_) (fun h_33 => ?_)
          · exact fin
          · first | refine V_aload_n d_M_readText_36 rfl rfl ?_ | refine V_aloadN_n d_M_readText_36 rfl rfl ?_
            refine Vget fl_M_74 d_M_readText_37 hM.1 rfl ?_
            refine V_if_ge (tgt := 110) d_M_readText_40 (by decide) (fun h_40 => ?_) (fun h_40 => ?_)
            · exact fin
            · rw [e21] at h_40
              exact absurd (i_nlt (nI_pos (by omega))) h_40
      first | refine V_aload_n d_M_readText_25 rfl rfl ?_ | refine V_aloadN_n d_M_readText_25 rfl rfl ?_
      refine Vget fl_M_71 d_M_readText_26 hM.1 rfl ?_
      first | refine V_aload_n d_M_readText_29 rfl rfl ?_ | refine V_aloadN_n d_M_readText_29 rfl rfl ?_
      refine Vget fl_M_17 d_M_readText_30 hM.1 rfl ?_
      refine V_icmp_ge (tgt := 110) d_M_readText_33 (by decide) (fun h_33 => ?_) (fun h_33 => ?_)
      · have h33 : sc 2 ≤ nI p := h_33
        rw [e2] at h33
        exact absurd h33 (nI_ge hlt (by omega))
      · first | refine V_aload_n d_M_readText_36 rfl rfl ?_ | refine V_aloadN_n d_M_readText_36 rfl rfl ?_
        refine Vget fl_M_74 d_M_readText_37 hM.1 rfl ?_
        refine V_if_ge (tgt := 110) d_M_readText_40 (by decide) (fun h_40 => ?_) (fun h_40 => ?_)
        · exact absurd h_40 (show ¬ (0 : Int32) ≤ -1 by decide)
        · first | refine V_aload_n d_M_readText_43 rfl rfl ?_ | refine V_aloadN_n d_M_readText_43 rfl rfl ?_
          refine VcallV cb_M_here mv_M_116 rfl (ci := 6) rfl rfl d_M_readText_44 (c_M_here hg hM hT c5) ⟨by decide, by decide⟩ rfl hM.1 rfl (Nat.le_of_ble_eq_true rfl) (fun _ _ h => nomatch h.1) (fun v m2 hR => ?_)
          obtain ⟨hv9, e9⟩ := hR
          cases hv9
          subst m2
          refine V_istore_n d_M_readText_47 rfl rfl ?_
          refine V_iload_n d_M_readText_48 rfl rfl ?_
          refine V_bipush (v := 65) d_M_readText_49 (by decide) ?_
          refine V_icmp_lt (tgt := 67) d_M_readText_51 (by decide) (fun h_51 => ?_) (fun h_51 => ?_)
          -- the three other kinds of lines
          · refine V_iload_n d_M_readText_67 rfl rfl ?_
            refine V_bipush (v := 47) d_M_readText_68 (by decide) ?_
            refine V_icmp_ne (tgt := 80) d_M_readText_70 (by decide) (fun h_70 => ?_) (fun h_70 => ?_)
            · refine V_iload_n d_M_readText_80 rfl rfl ?_
              refine V_bipush (v := 42) d_M_readText_81 (by decide) ?_
              refine V_icmp_ne (tgt := 93) d_M_readText_83 (by decide) (fun h_83 => ?_) (fun h_83 => ?_)
              · first | refine V_aload_n d_M_readText_93 rfl rfl ?_ | refine V_aloadN_n d_M_readText_93 rfl rfl ?_
                first | refine V_aload_n d_M_readText_94 rfl rfl ?_ | refine V_aloadN_n d_M_readText_94 rfl rfl ?_
                refine Vget fl_M_71 d_M_readText_95 hM.1 rfl ?_
                refine ek_v (P := fun z => V g m_M_readText 3 75 0 0 _ _ z _ _) (show _ = [Value.int (nI p), .ref a] from rfl) ?_
                refine VcallV cb_M_fail mv_M_120 rfl (ci := 6) rfl rfl d_M_readText_98 (c_M_fail hg hM s1 p) ⟨by decide, by decide⟩ rfl hM.1 rfl (Nat.le_of_ble_eq_true rfl) (fun _ _ h => nomatch h.1) (fun v m2 hR => ?_)
                obtain ⟨hv9, hM⟩ := hR
                cases hv9
                have er : lnF tx D p = (false, D, p) := by
                  unfold lnF rdS
                  rw [if_neg h_70, if_neg h_83, if_pos (Or.inl (by unfold wi; rw [decide_eq_true h_51]; rfl))]
                refine key (.inl none) _ _ ⟨rfl, sc, ar, _, hM, kS_rf, kA_rf, ⟨c5, fun w z => by injection z with z; omega⟩, Or.inr ⟨by rw [er], by rw [er]; rfl⟩⟩ ⟨rfl, trivial⟩
              · have h83 : hr tx p = 42 := h_83
                first | refine V_aload_n d_M_readText_86 rfl rfl ?_ | refine V_aloadN_n d_M_readText_86 rfl rfl ?_
                refine VcallV cb_M_hoursLine mv_M_150 rfl (ci := 6) rfl rfl d_M_readText_87 (c_M_hoursLine hg hM hT hD h83) ⟨by decide, by decide⟩ rfl hM.1 rfl (Nat.le_of_ble_eq_true rfl) (fun _ _ h => nomatch h.1) (fun v m2 hR => ?_)
                have hv := hR.1
                cases hv
                refine V_goto (tgt := 101) d_M_readText_90 (by decide) ?_
                refine V_lo [(0, .ref a)] ⟨rfl, trivial⟩ ?_
                refine key (.inl none) _ [(0, .ref a)] ?_ ⟨rfl, trivial⟩
                rw [lnF, if_neg h_70, if_pos h83]
                exact hR
            · have h70 : hr tx p = 47 := h_70
              first | refine V_aload_n d_M_readText_73 rfl rfl ?_ | refine V_aloadN_n d_M_readText_73 rfl rfl ?_
              refine VcallV cb_M_range mv_M_147 rfl (ci := 6) rfl rfl d_M_readText_74 (c_M_range hg hM hT hD h70) ⟨by decide, by decide⟩ rfl hM.1 rfl (Nat.le_of_ble_eq_true rfl) (fun _ _ h => nomatch h.1) (fun v m2 hR => ?_)
              have hv := hR.1
              cases hv
              refine V_goto (tgt := 101) d_M_readText_77 (by decide) ?_
              refine V_lo [(0, .ref a)] ⟨rfl, trivial⟩ ?_
              refine key (.inl none) _ [(0, .ref a)] ?_ ⟨rfl, trivial⟩
              rw [lnF, if_pos h70]
              exact hR
          · refine V_iload_n d_M_readText_54 rfl rfl ?_
            refine V_bipush (v := 90) d_M_readText_55 (by decide) ?_
            refine V_icmp_gt (tgt := 67) d_M_readText_57 (by decide) (fun h_57 => ?_) (fun h_57 => ?_)
            · -- above Z
              have n47 : ¬ hr tx p = 47 := fun z => by rw [z] at h_57; exact absurd h_57 (by decide)
              have n42 : ¬ hr tx p = 42 := fun z => by rw [z] at h_57; exact absurd h_57 (by decide)
              refine V_iload_n d_M_readText_67 rfl rfl ?_
              refine V_bipush (v := 47) d_M_readText_68 (by decide) ?_
              refine V_icmp_ne (tgt := 80) d_M_readText_70 (by decide) (fun h_70 => ?_) (fun h_70 => ?_)
              · refine V_iload_n d_M_readText_80 rfl rfl ?_
                refine V_bipush (v := 42) d_M_readText_81 (by decide) ?_
                refine V_icmp_ne (tgt := 93) d_M_readText_83 (by decide) (fun h_83 => ?_) (fun h_83 => ?_)
                · first | refine V_aload_n d_M_readText_93 rfl rfl ?_ | refine V_aloadN_n d_M_readText_93 rfl rfl ?_
                  first | refine V_aload_n d_M_readText_94 rfl rfl ?_ | refine V_aloadN_n d_M_readText_94 rfl rfl ?_
                  refine Vget fl_M_71 d_M_readText_95 hM.1 rfl ?_
                  refine ek_v (P := fun z => V g m_M_readText 3 75 0 0 _ _ z _ _) (show _ = [Value.int (nI p), .ref a] from rfl) ?_
                  refine VcallV cb_M_fail mv_M_120 rfl (ci := 6) rfl rfl d_M_readText_98 (c_M_fail hg hM s1 p) ⟨by decide, by decide⟩ rfl hM.1 rfl (Nat.le_of_ble_eq_true rfl) (fun _ _ h => nomatch h.1) (fun v m2 hR => ?_)
                  obtain ⟨hv9, hM⟩ := hR
                  cases hv9
                  have er : lnF tx D p = (false, D, p) := by
                    unfold lnF rdS
                    rw [if_neg n47, if_neg n42, if_pos (Or.inl (by unfold wi; rw [decide_eq_true h_57, Bool.not_true, Bool.and_false]))]
                  refine key (.inl none) _ _ ⟨rfl, sc, ar, _, hM, kS_rf, kA_rf, ⟨c5, fun w z => by injection z with z; omega⟩, Or.inr ⟨by rw [er], by rw [er]; rfl⟩⟩ ⟨rfl, trivial⟩
                · exact absurd h_83 n42
              · exact absurd h_70 n47
            · have hwi : wi (hr tx p) 65 90 = true := by unfold wi; rw [decide_eq_false h_51, decide_eq_false h_57]; rfl
              have n47 : ¬ hr tx p = 47 := fun z => by rw [z] at hwi; exact absurd hwi (by decide)
              have n42 : ¬ hr tx p = 42 := fun z => by rw [z] at hwi; exact absurd hwi (by decide)
              first | refine V_aload_n d_M_readText_60 rfl rfl ?_ | refine V_aloadN_n d_M_readText_60 rfl rfl ?_
              refine VcallV cb_M_service mv_M_144 rfl (ci := 6) rfl rfl d_M_readText_61 (c_M_service hg hM hT hD hwi) ⟨by decide, by decide⟩ rfl hM.1 rfl (Nat.le_of_ble_eq_true rfl) (fun _ _ h => nomatch h.1) (fun v m2 hR => ?_)
              have hv := hR.1
              cases hv
              refine V_goto (tgt := 101) d_M_readText_64 (by decide) ?_
              refine V_lo [(0, .ref a)] ⟨rfl, trivial⟩ ?_
              refine key (.inl none) _ [(0, .ref a)] ?_ ⟨rfl, trivial⟩
              rw [lnF, if_neg n47, if_neg n42]
              exact hR
    · rw [whF, if_neg hlt] at hF
      have fin : V g m_M_readText 3 75 0 0 110 [(0, .ref a)] [] m Fi := V_vret d_M_readText_110 rfl (hF _ _ ⟨rfl, _, _, hM, kS_P hS, hA, Or.inl ⟨rfl, rfl, DM_P hD⟩⟩)
      first | refine V_aload_n d_M_readText_25 rfl rfl ?_ | refine V_aloadN_n d_M_readText_25 rfl rfl ?_
      refine Vget fl_M_71 d_M_readText_26 hM.1 rfl ?_
      first | refine V_aload_n d_M_readText_29 rfl rfl ?_ | refine V_aloadN_n d_M_readText_29 rfl rfl ?_
      refine Vget fl_M_17 d_M_readText_30 hM.1 rfl ?_
      refine V_icmp_ge (tgt := 110) d_M_readText_33 (by decide) (fun h_33 => ?_) (fun h_33 => ?_)
      · exact fin
      · have h33 : ¬ sc 2 ≤ nI p := h_33
        rw [e2] at h33
        exact absurd (nI_le (by omega) (by omega)) h33
theorem c_M_readText (hg : GO g) (hM : Md g m0 m a B sc ar) (hT : RQ (sc 2) (ar 1) tx 500) (f1 f2 f3 : Fw) : CT g m_M_readText 3 75 0 0 [.ref a] m (TP g m0 a B sc ar (rdZ tx f1 f2 f3)) := by
  refine CT_go (lo := [(0, .ref a)]) rfl rfl rfl rfl hg ?_
  first | refine V_aload_n d_M_readText_0 rfl rfl ?_ | refine V_aloadN_n d_M_readText_0 rfl rfl ?_
  refine V_iconst (v := 0) d_M_readText_1 (by decide) ?_
  refine Mput (k := 20) pl_M_71 d_M_readText_2 hM rfl rfl (fun m hM => ?_)
  first | refine V_aload_n d_M_readText_5 rfl rfl ?_ | refine V_aloadN_n d_M_readText_5 rfl rfl ?_
  refine V_iconst (v := -1) d_M_readText_6 (by decide) ?_
  refine Mput (k := 21) pl_M_74 d_M_readText_7 hM rfl rfl (fun m hM => ?_)
  first | refine V_aload_n d_M_readText_10 rfl rfl ?_ | refine V_aloadN_n d_M_readText_10 rfl rfl ?_
  refine V_iconst (v := 0) d_M_readText_11 (by decide) ?_
  refine Mput (k := 22) pl_M_77 d_M_readText_12 hM rfl rfl (fun m hM => ?_)
  first | refine V_aload_n d_M_readText_15 rfl rfl ?_ | refine V_aloadN_n d_M_readText_15 rfl rfl ?_
  refine V_iconst (v := 0) d_M_readText_16 (by decide) ?_
  refine Mput (k := 24) pl_M_83 d_M_readText_17 hM rfl rfl (fun m hM => ?_)
  first | refine V_aload_n d_M_readText_20 rfl rfl ?_ | refine V_aloadN_n d_M_readText_20 rfl rfl ?_
  refine V_iconst (v := -1) d_M_readText_21 (by decide) ?_
  refine Mput (k := 28) pl_M_95 d_M_readText_22 hM rfl rfl (fun m hM => ?_)
  have e0 : upd (upd (upd (upd (upd sc 20 0) 21 (-1)) 22 0) 24 0) 28 (-1) = scP (upd (upd (upd sc 22 0) 24 0) 28 (-1)) (0, none) := by
    funext j
    unfold scP upd
    by_cases h21 : j = 21
    · rw [if_pos h21, if_pos h21, if_neg (by omega), if_neg (by omega), if_neg (by omega)]; rfl
    · rw [if_neg h21, if_neg h21]
      by_cases h20 : j = 20
      · rw [if_pos h20, if_pos h20, if_neg (by omega), if_neg (by omega), if_neg (by omega)]; rfl
      · rw [if_neg h20, if_neg h20]
  rw [e0] at hM
  refine l_M_readText hg hT 501 (0, fun _ _ => 0, 0, f1, f2, f3, -1) 0 _ ar m _ (by omega) hM ?_ kA_rf ?_ ⟨rfl, trivial⟩ (fun _ _ z => z)
  · intro i e1 e2 e3 e4 e5
    unfold upd
    rw [if_neg e5, if_neg e4, if_neg e3]
  · exact ⟨rfl, Nat.zero_le _, rfl, Nat.le_refl _, Nat.zero_le _, rfl, fun j hj => absurd hj (Nat.not_lt_zero j), fun x y hx => absurd hx (Nat.not_lt_zero x), fun j hj => absurd hj (Nat.not_lt_zero j)⟩
end M6
