/-! the reference: read, and its constructor -/
def PqR (g : GG) (m0 : Mm) (a : Nat) (B : Nat → Nat) (tx lb pr : Sq) (n : Nat) (day : Int32) (len : Nat) (ft : Fw) (ed : Nat → Edd) (dy : Int32) (r : Pd) (o : Ou) (m' : Mm) : Prop :=
  (wi dy 0 1000 = false ∧ Pq g m0 a B [xIA, xUO] eIA tx lb pr n day len ft ed o m') ∨ wi dy 0 1000 = true ∧ ((r.1 = false ∧ Pq g m0 a B [xIA, xUO] (oI (-1 - nI r.2.2)) (tx.1, 0) lb pr n day len ft ed o m') ∨ r.1 = true ∧ ((((8 < r.2.1.1 ∨ 8 < r.2.1.2.2.1) ∨ 4 ≤ n) ∧ Pq g m0 a B [xIA, xUO] eUO (tx.1, 0) lb pr n day len ft ed o m') ∨ ¬ ((8 < r.2.1.1 ∨ 8 < r.2.1.2.2.1) ∨ 4 ≤ n) ∧ Pq g m0 a B [xIA, xUO] (oI (nI (n + 1))) (tx.1, 0) lb pr (n + 1) day 0 ft (edU ed n (edN r.2.1 dy)) o m'))
section M14
variable {g : GG} {m0 m : Mm} {a : Nat} {B : Nat → Nat} {sc : Fw} {ar : Ar} {tx lb pr : Sq} {n : Nat} {day : Int32} {len : Nat} {ft : Fw} {ed : Nat → Edd}
theorem REd_A {ar' : Ar} {i : Nat} {d : Edd} (h : REd ar i d) (hA : kA ar ar') : REd ar' i d := by
  have e : ∀ k, k ≠ 23 → k ≠ 25 → k ≠ 26 → k ≠ 27 → ar' k = ar k := hA
  unfold REd RSv at h ⊢
  rw [e 4 (by decide) (by decide) (by decide) (by decide), e 6 (by decide) (by decide) (by decide) (by decide), e 16 (by decide) (by decide) (by decide) (by decide), e 7 (by decide) (by decide) (by decide) (by decide), e 8 (by decide) (by decide) (by decide) (by decide), e 9 (by decide) (by decide) (by decide) (by decide), e 10 (by decide) (by decide) (by decide) (by decide), e 11 (by decide) (by decide) (by decide) (by decide), e 12 (by decide) (by decide) (by decide) (by decide), e 13 (by decide) (by decide) (by decide) (by decide), e 14 (by decide) (by decide) (by decide) (by decide), e 15 (by decide) (by decide) (by decide) (by decide), e 17 (by decide) (by decide) (by decide) (by decide), e 18 (by decide) (by decide) (by decide) (by decide), e 19 (by decide) (by decide) (by decide) (by decide)]
  exact h
theorem RM_k {sc' : Fw} {ar' : Ar} (h : RM sc ar tx lb pr n day len ft ed) (hS : kS sc sc') (hA : kA ar ar') : RM sc' ar' tx lb pr n day len ft ed := by
  obtain ⟨h1, h2, h3, h4, h5, h6, h7⟩ := h
  have s : ∀ i, i ≠ 20 → i ≠ 21 → i ≠ 22 → i ≠ 24 → i ≠ 28 → sc' i = sc i := hS
  have e : ∀ k, k ≠ 23 → k ≠ 25 → k ≠ 26 → k ≠ 27 → ar' k = ar k := hA
  unfold RM
  rw [s 2 (by decide) (by decide) (by decide) (by decide) (by decide), s 33 (by decide) (by decide) (by decide) (by decide) (by decide), s 31 (by decide) (by decide) (by decide) (by decide) (by decide), s 3 (by decide) (by decide) (by decide) (by decide) (by decide), s 5 (by decide) (by decide) (by decide) (by decide) (by decide), s 29 (by decide) (by decide) (by decide) (by decide) (by decide), e 1 (by decide) (by decide) (by decide) (by decide), e 34 (by decide) (by decide) (by decide) (by decide), e 32 (by decide) (by decide) (by decide) (by decide), e 30 (by decide) (by decide) (by decide) (by decide)]
  exact ⟨h1, h2, h3, h4, h5, h6, fun i hi => REd_A (h7 i hi) hA⟩
theorem RM_t0 {x : Int32} (h : RM sc ar tx lb pr n day len ft ed) : RM (upd (upd sc 0 x) 2 0) ar (tx.1, 0) lb pr n day len ft ed := ⟨⟨rfl, Nat.zero_le _, fun j hj => absurd hj (Nat.not_lt_zero j)⟩, h.2⟩
theorem RM_t1 (h : RM sc ar tx lb pr n day len ft ed) : RM (upd sc 2 0) ar (tx.1, 0) lb pr n day len ft ed := ⟨⟨rfl, Nat.zero_le _, fun j hj => absurd hj (Nat.not_lt_zero j)⟩, h.2⟩
set_option maxRecDepth 20000 in
set_option maxHeartbeats 1000000 in
theorem c_M_read (hg : GO g) (hM : Md g m0 m a B sc ar) (hR : RM sc ar tx lb pr n day len ft ed) (dy : Int32) (f1 f2 f3 : Fw) : CT g m_M_read 4 96 0 0 [.ref a, .int dy] m (PqR g m0 a B tx lb pr n day len ft ed dy (rdZ tx f1 f2 f3)) := by
  have hn4 := hR.2.2.2.1.2
  unfold PqR
  refine CT_go (lo := [(0, .ref a), (1, .int dy)]) rfl rfl rfl rfl hg ?_
  first | refine V_aload_n d_M_read_0 rfl rfl ?_ | refine V_aloadN_n d_M_read_0 rfl rfl ?_
  refine V_iload_n d_M_read_1 rfl rfl ?_
  refine V_iconst (v := 0) d_M_read_2 (by decide) ?_
  refine V_sipush (v := 1000) d_M_read_3 (by decide) ?_
  refine V_callS cb_M_not ms_M_156 rfl rfl d_M_read_6 (c_M_not hg dy 0 1000) ⟨by decide, by decide⟩ rfl rfl (Nat.le_of_ble_eq_true rfl) (fun _ _ h => nomatch h.1) (fun v m2 hR => ?_)
  obtain ⟨hv9, e9⟩ := hR
  cases hv9
  subst m2
  refine V_if_eq (tgt := 16) d_M_read_9 (by decide) (fun h_9 => ?_) (fun h_9 => ?_)
  · have e : wi dy 0 1000 = true := by simpa using bi_eq0.mp h_9
    have dy0 : ¬ dy < 0 := by
      have := wi_to e
      rw [show (0 : Int32).toInt = 0 from rfl] at this
      rw [Int32.lt_iff_toInt_lt, Int32.toInt_zero]
      omega
    refine V_iconst (v := 0) d_M_read_16 (by decide) ?_
    refine Mput (k := 0) pl_M_7 d_M_read_17 hM rfl rfl (fun m hM => ?_)
    first | refine V_aload_n d_M_read_20 rfl rfl ?_ | refine V_aloadN_n d_M_read_20 rfl rfl ?_
    refine Vget fl_M_7 d_M_read_21 hM.1 rfl ?_
    refine V_if_eq (tgt := 29) d_M_read_24 (by decide) (fun h_24 => ?_) (fun h_24 => ?_)
    · first | refine V_aload_n d_M_read_29 rfl rfl ?_ | refine V_aloadN_n d_M_read_29 rfl rfl ?_
      refine VcallV cb_M_readText mv_M_160 rfl (ci := 6) rfl rfl d_M_read_30 (c_M_readText hg hM (tx := tx) hR.1 f1 f2 f3) ⟨by decide, by decide⟩ rfl hM.1 rfl (Nat.le_of_ble_eq_true rfl) (fun _ _ h => nomatch h.1) (fun v m2 hR => ?_)
      obtain ⟨hv9, sc', ar', hM, hS, hA, hT⟩ := hR
      cases hv9
      have hR' : RM sc' ar' tx lb pr n day len ft ed := RM_k (RM_0 (code := 0) ‹RM sc ar tx lb pr n day len ft ed›) hS hA
      have hc0 : sc' 0 = 0 := hS 0 (by decide) (by decide) (by decide) (by decide) (by decide)
      have e3 : sc' 3 = nI n := hR'.2.2.2.1.1
      rcases hT with ⟨z1, z2, z3⟩ | ⟨z1, z2, z3⟩
      · -- a right text
        obtain ⟨c1, c2, c3, c4, c5, c6, c7, c8, c9⟩ := z3
        generalize rdZ tx f1 f2 f3 = r at z1 c1 c2 c3 c4 c5 c6 c7 c8 c9 ⊢
        have g1 : (8 : Int32) < nI r.2.1.1 ↔ 8 < r.2.1.1 := nI_ltI (a := 8) (by omega) (by omega)
        have g2 : (8 : Int32) < nI r.2.1.2.2.1 ↔ 8 < r.2.1.2.2.1 := nI_ltI (a := 8) (by omega) (by omega)
        have over : ((8 < r.2.1.1 ∨ 8 < r.2.1.2.2.1) ∨ 4 ≤ n) → ∀ x, chk [(0, .ref a), (1, .int dy)] x → V g m_M_read 4 96 0 0 79 x [.ref a] m2 (fun o m' => (wi dy 0 1000 = false ∧ Pq g m0 a B [xIA, xUO] eIA tx lb pr n day len ft ed o m') ∨ wi dy 0 1000 = true ∧ ((r.1 = false ∧ Pq g m0 a B [xIA, xUO] (oI (-1 - nI r.2.2)) (tx.1, 0) lb pr n day len ft ed o m') ∨ r.1 = true ∧ ((((8 < r.2.1.1 ∨ 8 < r.2.1.2.2.1) ∨ 4 ≤ n) ∧ Pq g m0 a B [xIA, xUO] eUO (tx.1, 0) lb pr n day len ft ed o m') ∨ ¬ ((8 < r.2.1.1 ∨ 8 < r.2.1.2.2.1) ∨ 4 ≤ n) ∧ Pq g m0 a B [xIA, xUO] (oI (nI (n + 1))) (tx.1, 0) lb pr (n + 1) day 0 ft (edU ed n (edN r.2.1 dy)) o m'))) := by
          intro hov x hx
          refine V_lo _ hx ?_
          refine V_iconst (v := 2) d_M_read_79 (by decide) ?_
          refine V_goto (tgt := 84) d_M_read_80 (by decide) ?_
          refine Mput (k := 0) pl_M_7 d_M_read_84 hM rfl rfl (fun m hM => ?_)
          first | refine V_aload_n d_M_read_87 rfl rfl ?_ | refine V_aloadN_n d_M_read_87 rfl rfl ?_
          refine V_iconst (v := 0) d_M_read_88 (by decide) ?_
          refine Mput (k := 2) pl_M_17 d_M_read_89 hM rfl rfl (fun m hM => ?_)
          first | refine V_aload_n d_M_read_92 rfl rfl ?_ | refine V_aloadN_n d_M_read_92 rfl rfl ?_
          refine Vget fl_M_7 d_M_read_93 hM.1 rfl ?_
          refine V_if_eq (tgt := 101) d_M_read_96 (by decide) (fun h_96 => ?_) (fun h_96 => ?_)
          · exact absurd h_96 (show ¬ (2 : Int32) = 0 by decide)
          · refine V_iconst (v := 0) d_M_read_99 (by decide) ?_
            exact V_iret d_M_read_100 rfl rfl (Or.inr ⟨e, Or.inr ⟨z1, Or.inl ⟨hov, _, rfl, _, _, hM, RM_t0 hR', (show AG [xIA, xUO] eUO 0 2 from ⟨by decide, by decide⟩)⟩⟩⟩)
        first | refine V_aload_n d_M_read_33 rfl rfl ?_ | refine V_aloadN_n d_M_read_33 rfl rfl ?_
        refine Vget fl_M_74 d_M_read_34 hM.1 rfl ?_
        refine V_if_lt (tgt := 52) d_M_read_37 (by decide) (fun h_37 => ?_) (fun h_37 => ?_)
        · first | refine V_aload_n d_M_read_52 rfl rfl ?_ | refine V_aloadN_n d_M_read_52 rfl rfl ?_
          first | refine V_aload_n d_M_read_53 rfl rfl ?_ | refine V_aloadN_n d_M_read_53 rfl rfl ?_
          refine Vget fl_M_77 d_M_read_54 hM.1 rfl ?_
          refine V_bipush (v := 8) d_M_read_57 (by decide) ?_
          refine V_icmp_gt (tgt := 79) d_M_read_59 (by decide) (fun h_59 => ?_) (fun h_59 => ?_)
          · have q : (8 : Int32) < sc' 22 := h_59
            rw [c1, g1] at q
            exact over (Or.inl (Or.inl q)) _ ⟨rfl, rfl, trivial⟩
          · have q1 : ¬ (8 : Int32) < sc' 22 := h_59
            rw [c1, g1] at q1
            first | refine V_aload_n d_M_read_62 rfl rfl ?_ | refine V_aloadN_n d_M_read_62 rfl rfl ?_
            refine Vget fl_M_83 d_M_read_63 hM.1 rfl ?_
            refine V_bipush (v := 8) d_M_read_66 (by decide) ?_
            refine V_icmp_gt (tgt := 79) d_M_read_68 (by decide) (fun h_68 => ?_) (fun h_68 => ?_)
            · have q : (8 : Int32) < sc' 24 := h_68
              rw [c3, g2] at q
              exact over (Or.inl (Or.inr q)) _ ⟨rfl, rfl, trivial⟩
            · have q2 : ¬ (8 : Int32) < sc' 24 := h_68
              rw [c3, g2] at q2
              first | refine V_aload_n d_M_read_71 rfl rfl ?_ | refine V_aloadN_n d_M_read_71 rfl rfl ?_
              refine Vget fl_M_20 d_M_read_72 hM.1 rfl ?_
              refine V_iconst (v := 4) d_M_read_75 (by decide) ?_
              refine V_icmp_ne (tgt := 83) d_M_read_76 (by decide) (fun h_76 => ?_) (fun h_76 => ?_)
              · have q3 : ¬ n = 4 := fun z => by
                  have h76 : ¬ sc' 3 = 4 := h_76
                  rw [e3, z] at h76
                  exact h76 rfl
                refine V_iconst (v := 0) d_M_read_83 (by decide) ?_
                refine Mput (k := 0) pl_M_7 d_M_read_84 hM rfl rfl (fun m hM => ?_)
                first | refine V_aload_n d_M_read_87 rfl rfl ?_ | refine V_aloadN_n d_M_read_87 rfl rfl ?_
                refine V_iconst (v := 0) d_M_read_88 (by decide) ?_
                refine Mput (k := 2) pl_M_17 d_M_read_89 hM rfl rfl (fun m hM => ?_)
                first | refine V_aload_n d_M_read_92 rfl rfl ?_ | refine V_aloadN_n d_M_read_92 rfl rfl ?_
                refine Vget fl_M_7 d_M_read_93 hM.1 rfl ?_
                refine V_if_eq (tgt := 101) d_M_read_96 (by decide) (fun h_96 => ?_) (fun h_96 => ?_)
                · first | refine V_aload_n d_M_read_101 rfl rfl ?_ | refine V_aloadN_n d_M_read_101 rfl rfl ?_
                  refine V_iconst (v := 0) d_M_read_102 (by decide) ?_
                  refine Mput (k := 29) pl_M_98 d_M_read_103 hM rfl rfl (fun m hM => ?_)
                  refine V_lo [(0, .ref a), (1, .int dy)] ⟨rfl, rfl, trivial⟩ ?_
                  have hW : NW (upd (upd (upd sc' 0 0) 2 0) 29 0) ar' r.2.1 := ⟨c1, by omega, c3, by omega, c7, c8, fun j hj => c9 j hj (by omega)⟩
                  first | refine V_aload_n d_M_read_106 rfl rfl ?_ | refine V_aloadN_n d_M_read_106 rfl rfl ?_
                  first | refine V_aload_n d_M_read_107 rfl rfl ?_ | refine V_aloadN_n d_M_read_107 rfl rfl ?_
                  refine Vget fl_M_20 d_M_read_108 hM.1 rfl ?_
                  refine V_iload_n d_M_read_111 rfl rfl ?_
                  refine ek_v (P := fun z => V g m_M_read 4 96 0 0 _ _ z _ _) (show _ = [Value.int dy, .int (nI n), .ref a] by rw [← e3]; rfl) ?_
                  refine VcallV cb_M_keepEdition mv_M_163 rfl (ci := 6) rfl rfl d_M_read_112 (c_M_keepEdition hg hM (D := r.2.1) (n := n) (by omega) hW dy) ⟨by decide, by decide⟩ rfl hM.1 rfl (Nat.le_of_ble_eq_true rfl) (fun _ _ h => nomatch h.1) (fun v m2 hR => ?_)
                  obtain ⟨hv9, ar2, hM, hE, hN⟩ := hR
                  cases hv9
                  first | refine V_aload_n d_M_read_115 rfl rfl ?_ | refine V_aloadN_n d_M_read_115 rfl rfl ?_
                  refine V_dup d_M_read_116 rfl ?_
                  refine Vget fl_M_20 d_M_read_117 hM.1 rfl ?_
                  refine V_iconst (v := 1) d_M_read_120 (by decide) ?_
                  refine V_iadd d_M_read_121 ?_
                  refine ek_v (P := fun z => V g m_M_read 4 96 0 0 _ _ z _ _) (show _ = [Value.int (nI (n + 1)), .ref a] by rw [← nI_1, ← e3]; rfl) ?_
                  refine Mput (k := 3) pl_M_20 d_M_read_122 hM rfl rfl (fun m hM => ?_)
                  first | refine V_aload_n d_M_read_125 rfl rfl ?_ | refine V_aloadN_n d_M_read_125 rfl rfl ?_
                  refine Vget fl_M_20 d_M_read_126 hM.1 rfl ?_
                  refine V_iret d_M_read_129 rfl rfl (Or.inr ⟨e, Or.inr ⟨z1, Or.inr ⟨fun z => by omega, _, rfl, _, _, hM, ?_, ?_⟩⟩⟩)
                  · have k1 : ar2 1 = ar' 1 := hE.1 1 (by decide) (by decide) (by decide) (by omega)
                    have k34 : ar2 34 = ar' 34 := hE.1 34 (by decide) (by decide) (by decide) (by omega)
                    have k32 : ar2 32 = ar' 32 := hE.1 32 (by decide) (by decide) (by decide) (by omega)
                    refine ⟨⟨rfl, Nat.zero_le _, fun j hj => absurd hj (Nat.not_lt_zero j)⟩, ?_, ?_, ⟨rfl, by omega⟩, hR'.2.2.2.2.1, ⟨rfl, Nat.zero_le _, fun j hj => absurd hj (Nat.not_lt_zero j)⟩, fun i hi => ?_⟩
                    · rw [k34]; exact hR'.2.1
                    · rw [k32]; exact hR'.2.2.1
                    · unfold edU
                      by_cases ei : i = n
                      · subst ei
                        rw [if_pos rfl]
                        exact hN dy0
                      · rw [if_neg ei]
                        exact REd_k (hR'.2.2.2.2.2.2 i (by omega)) hE (by omega)
                  · exact ⟨rfl, rfl⟩
                · exact absurd rfl h_96
              · have q3 : n = 4 := by
                  have h76 : sc' 3 = 4 := h_76
                  rw [e3] at h76
                  exact nI_ij (b := 4) (by omega) (by omega) h76
                exact over (Or.inr (by omega)) _ ⟨rfl, rfl, trivial⟩
        · rw [z2] at h_37
          exact absurd (show (-1 : Int32) < 0 by decide) h_37
      · -- a wrong one
        first | refine V_aload_n d_M_read_33 rfl rfl ?_ | refine V_aloadN_n d_M_read_33 rfl rfl ?_
        refine Vget fl_M_74 d_M_read_34 hM.1 rfl ?_
        refine V_if_lt (tgt := 52) d_M_read_37 (by decide) (fun h_37 => ?_) (fun h_37 => ?_)
        · rw [z2] at h_37
          exact absurd h_37 (nI_pos (by omega))
        · first | refine V_aload_n d_M_read_40 rfl rfl ?_ | refine V_aloadN_n d_M_read_40 rfl rfl ?_
          refine V_iconst (v := 0) d_M_read_41 (by decide) ?_
          refine Mput (k := 2) pl_M_17 d_M_read_42 hM rfl rfl (fun m hM => ?_)
          refine V_iconst (v := -1) d_M_read_45 (by decide) ?_
          first | refine V_aload_n d_M_read_46 rfl rfl ?_ | refine V_aloadN_n d_M_read_46 rfl rfl ?_
          refine Vget fl_M_74 d_M_read_47 hM.1 rfl ?_
          refine V_isub d_M_read_50 ?_
          refine V_iret d_M_read_51 rfl rfl (Or.inr ⟨e, Or.inl ⟨z1, _, rfl, _, _, hM, RM_t1 hR', hc0, ?_⟩⟩)
          show -1 - sc' 21 = _
          rw [z2]
    · exact absurd rfl h_24
  · have e : wi dy 0 1000 = false := by simpa using bi_ne0.mp h_9
    refine V_iconst (v := 1) d_M_read_12 (by decide) ?_
    refine V_goto (tgt := 17) d_M_read_13 (by decide) ?_
    refine Mput (k := 0) pl_M_7 d_M_read_17 hM rfl rfl (fun m hM => ?_)
    first | refine V_aload_n d_M_read_20 rfl rfl ?_ | refine V_aloadN_n d_M_read_20 rfl rfl ?_
    refine Vget fl_M_7 d_M_read_21 hM.1 rfl ?_
    refine V_if_eq (tgt := 29) d_M_read_24 (by decide) (fun h_24 => ?_) (fun h_24 => ?_)
    · exact absurd h_24 (show ¬ (1 : Int32) = 0 by decide)
    · refine V_iconst (v := 0) d_M_read_27 (by decide) ?_
      exact V_iret d_M_read_28 rfl rfl (Or.inl ⟨e, _, rfl, _, _, hM, hR, (show AG [xIA, xUO] eIA 0 1 from ⟨by decide, by decide⟩)⟩)
end M14
section M14b
variable {g : GG} {t : Mt} {fr lc bc bs pc : Nat} {lo : List (Nat × Value)} {st : List Value} {Fi : Ou → Mm → Prop}
theorem V_sip {m0 m : Mm} {a ci k idx : Nat} {ty : FieldType} {v : Value} {fs : List Value} {L : List (Nat × Nat)} (hI : Ob m a ci fs) (hA : Ars g m0 m a L) (ha : a ∈ m0.2) (hF : PL t.1.cls idx ci k ty) (hd : decode t.2.1 pc = .ok (.putfield idx, 3)) (hn : narrow ty v = v) (hfit : fits ty v = true) (hlen : k < fs.length) (kk : ∀ m' : Mm, Ob m' a ci (fs.set k v) → Ars g m0 m' a L → V g t fr lc bc bs (pc + 3) lo st m' Fi) : V g t fr lc bc bs pc lo (v :: .ref a :: st) m Fi :=
  Vput hF hd hI hn hfit hlen (kk _ (Ob_s hI) ⟨fun z hz => ⟨Ia_n (hA.1 z hz).1 (fun y => (hA.1 z hz).2 (y ▸ ha)), (hA.1 z hz).2⟩, hA.2.1, Fr_up hA.2.2 rfl⟩)
end M14b
theorem mdN_c {k : Nat} (h : mdN k ≠ 0) : k = 1 ∨ k = 4 ∨ k = 6 ∨ k = 7 ∨ k = 8 ∨ k = 9 ∨ k = 10 ∨ k = 11 ∨ k = 12 ∨ k = 13 ∨ k = 14 ∨ k = 15 ∨ k = 16 ∨ k = 17 ∨ k = 18 ∨ k = 19 ∨ k = 23 ∨ k = 25 ∨ k = 26 ∨ k = 27 ∨ k = 30 ∨ k = 32 ∨ k = 34 := by
  unfold mdN at h
  split at h <;> first | omega | exact absurd rfl h
def sc00 : Fw := fun k => if k = 21 ∨ k = 28 then -1 else 0
section M14c
variable {g : GG}
set_option maxRecDepth 20000 in
set_option maxHeartbeats 4000000 in
theorem c_M_init (hg : GO g) {mm : Mm} {a : Nat} (h : Ob mm a 6 [.int 0, .null, .int 0, .int 0, .null, .int 0, .null, .null, .null, .null, .null, .null, .null, .null, .null, .null, .null, .null, .null, .null, .int 0, .int 0, .int 0, .null, .int 0, .null, .null, .null, .int 0, .int 0, .null, .int 0, .null, .int 0, .null]) : CT g m_M_init 1 20 23 1220 [.ref a] mm (fun o m' => o = .inl none ∧ ∃ B, Md g m' m' a B sc00 (fun _ _ => 0) ∧ Fr (fun b => b = a) mm m' ∧ ∀ k, mdN k ≠ 0 → B k ∉ mm.2) := by
  refine CT_go (lo := [(0, .ref a)]) rfl rfl rfl rfl hg ?_
  first | refine V_aload_n d_M_init_0 rfl rfl ?_ | refine V_aloadN_n d_M_init_0 rfl rfl ?_
  refine V_objI oi_M_1 oi_i oi_c d_M_init_1 ⟨by decide, by decide⟩ (Nat.le_of_ble_eq_true rfl) ?_
  have hA0 : Ars g mm mm a [] := Ars_nil
  have h0 := h
  first | refine V_aload_n d_M_init_4 rfl rfl ?_ | refine V_aloadN_n d_M_init_4 rfl rfl ?_
  refine V_iconst (v := 0) d_M_init_5 (by decide) ?_
  refine V_sip h0 hA0 h.1 pl_M_7 d_M_init_6 rfl rfl (Nat.le_of_ble_eq_true rfl) (fun m1 h1 hA1 => ?_)
  replace h1 : Ob m1 a 6 [.int 0, .null, .int 0, .int 0, .null, .int 0, .null, .null, .null, .null, .null, .null, .null, .null, .null, .null, .null, .null, .null, .null, .int 0, .int 0, .int 0, .null, .int 0, .null, .null, .null, .int 0, .int 0, .null, .int 0, .null, .int 0, .null] := h1
  first | refine V_aload_n d_M_init_9 rfl rfl ?_ | refine V_aloadN_n d_M_init_9 rfl rfl ?_
  refine V_sipush (v := 500) d_M_init_10 (by decide) ?_
  refine V_nip (n := 500) (N := 500) (bc := 22) (bs := 720) h1 hA1 h.1 pf_M_13 rfl d_M_init_13 d_M_init_15 (by decide) rfl (by decide) (fun _ => rfl) (fun _ => rfl) (Nat.le_of_ble_eq_true rfl) (fun r1 m2 h2 hA2 => ?_)
  replace h2 : Ob m2 a 6 [.int 0, .ref r1, .int 0, .int 0, .null, .int 0, .null, .null, .null, .null, .null, .null, .null, .null, .null, .null, .null, .null, .null, .null, .int 0, .int 0, .int 0, .null, .int 0, .null, .null, .null, .int 0, .int 0, .null, .int 0, .null, .int 0, .null] := h2
  first | refine V_aload_n d_M_init_18 rfl rfl ?_ | refine V_aloadN_n d_M_init_18 rfl rfl ?_
  refine V_iconst (v := 0) d_M_init_19 (by decide) ?_
  refine V_sip h2 hA2 h.1 pl_M_17 d_M_init_20 rfl rfl (Nat.le_of_ble_eq_true rfl) (fun m3 h3 hA3 => ?_)
  replace h3 : Ob m3 a 6 [.int 0, .ref r1, .int 0, .int 0, .null, .int 0, .null, .null, .null, .null, .null, .null, .null, .null, .null, .null, .null, .null, .null, .null, .int 0, .int 0, .int 0, .null, .int 0, .null, .null, .null, .int 0, .int 0, .null, .int 0, .null, .int 0, .null] := h3
  first | refine V_aload_n d_M_init_23 rfl rfl ?_ | refine V_aloadN_n d_M_init_23 rfl rfl ?_
  refine V_iconst (v := 0) d_M_init_24 (by decide) ?_
  refine V_sip h3 hA3 h.1 pl_M_20 d_M_init_25 rfl rfl (Nat.le_of_ble_eq_true rfl) (fun m4 h4 hA4 => ?_)
  replace h4 : Ob m4 a 6 [.int 0, .ref r1, .int 0, .int 0, .null, .int 0, .null, .null, .null, .null, .null, .null, .null, .null, .null, .null, .null, .null, .null, .null, .int 0, .int 0, .int 0, .null, .int 0, .null, .null, .null, .int 0, .int 0, .null, .int 0, .null, .int 0, .null] := h4
  first | refine V_aload_n d_M_init_28 rfl rfl ?_ | refine V_aloadN_n d_M_init_28 rfl rfl ?_
  refine V_iconst (v := 4) d_M_init_29 (by decide) ?_
  refine V_nip (n := 4) (N := 4) (bc := 21) (bs := 716) h4 hA4 h.1 pf_M_23 rfl d_M_init_30 d_M_init_32 (by decide) rfl (by decide) (fun _ => rfl) (fun _ => rfl) (Nat.le_of_ble_eq_true rfl) (fun r4 m5 h5 hA5 => ?_)
  replace h5 : Ob m5 a 6 [.int 0, .ref r1, .int 0, .int 0, .ref r4, .int 0, .null, .null, .null, .null, .null, .null, .null, .null, .null, .null, .null, .null, .null, .null, .int 0, .int 0, .int 0, .null, .int 0, .null, .null, .null, .int 0, .int 0, .null, .int 0, .null, .int 0, .null] := h5
  first | refine V_aload_n d_M_init_35 rfl rfl ?_ | refine V_aloadN_n d_M_init_35 rfl rfl ?_
  refine V_iconst (v := 0) d_M_init_36 (by decide) ?_
  refine V_sip h5 hA5 h.1 pl_M_26 d_M_init_37 rfl rfl (Nat.le_of_ble_eq_true rfl) (fun m6 h6 hA6 => ?_)
  replace h6 : Ob m6 a 6 [.int 0, .ref r1, .int 0, .int 0, .ref r4, .int 0, .null, .null, .null, .null, .null, .null, .null, .null, .null, .null, .null, .null, .null, .null, .int 0, .int 0, .int 0, .null, .int 0, .null, .null, .null, .int 0, .int 0, .null, .int 0, .null, .int 0, .null] := h6
  first | refine V_aload_n d_M_init_40 rfl rfl ?_ | refine V_aloadN_n d_M_init_40 rfl rfl ?_
  refine V_iconst (v := 4) d_M_init_41 (by decide) ?_
  refine V_nip (n := 4) (N := 4) (bc := 20) (bs := 712) h6 hA6 h.1 pf_M_29 rfl d_M_init_42 d_M_init_44 (by decide) rfl (by decide) (fun _ => rfl) (fun _ => rfl) (Nat.le_of_ble_eq_true rfl) (fun r6 m7 h7 hA7 => ?_)
  replace h7 : Ob m7 a 6 [.int 0, .ref r1, .int 0, .int 0, .ref r4, .int 0, .ref r6, .null, .null, .null, .null, .null, .null, .null, .null, .null, .null, .null, .null, .null, .int 0, .int 0, .int 0, .null, .int 0, .null, .null, .null, .int 0, .int 0, .null, .int 0, .null, .int 0, .null] := h7
  first | refine V_aload_n d_M_init_47 rfl rfl ?_ | refine V_aloadN_n d_M_init_47 rfl rfl ?_
  refine V_bipush (v := 32) d_M_init_48 (by decide) ?_
  refine V_nip (n := 32) (N := 32) (bc := 19) (bs := 680) h7 hA7 h.1 pf_M_32 rfl d_M_init_50 d_M_init_52 (by decide) rfl (by decide) (fun _ => rfl) (fun _ => rfl) (Nat.le_of_ble_eq_true rfl) (fun r7 m8 h8 hA8 => ?_)
  replace h8 : Ob m8 a 6 [.int 0, .ref r1, .int 0, .int 0, .ref r4, .int 0, .ref r6, .ref r7, .null, .null, .null, .null, .null, .null, .null, .null, .null, .null, .null, .null, .int 0, .int 0, .int 0, .null, .int 0, .null, .null, .null, .int 0, .int 0, .null, .int 0, .null, .int 0, .null] := h8
  first | refine V_aload_n d_M_init_55 rfl rfl ?_ | refine V_aloadN_n d_M_init_55 rfl rfl ?_
  refine V_bipush (v := 32) d_M_init_56 (by decide) ?_
  refine V_nip (n := 32) (N := 32) (bc := 18) (bs := 648) h8 hA8 h.1 pf_M_35 rfl d_M_init_58 d_M_init_60 (by decide) rfl (by decide) (fun _ => rfl) (fun _ => rfl) (Nat.le_of_ble_eq_true rfl) (fun r8 m9 h9 hA9 => ?_)
  replace h9 : Ob m9 a 6 [.int 0, .ref r1, .int 0, .int 0, .ref r4, .int 0, .ref r6, .ref r7, .ref r8, .null, .null, .null, .null, .null, .null, .null, .null, .null, .null, .null, .int 0, .int 0, .int 0, .null, .int 0, .null, .null, .null, .int 0, .int 0, .null, .int 0, .null, .int 0, .null] := h9
  first | refine V_aload_n d_M_init_63 rfl rfl ?_ | refine V_aloadN_n d_M_init_63 rfl rfl ?_
  refine V_bipush (v := 32) d_M_init_64 (by decide) ?_
  refine V_nip (n := 32) (N := 32) (bc := 17) (bs := 616) h9 hA9 h.1 pf_M_38 rfl d_M_init_66 d_M_init_68 (by decide) rfl (by decide) (fun _ => rfl) (fun _ => rfl) (Nat.le_of_ble_eq_true rfl) (fun r9 m10 h10 hA10 => ?_)
  replace h10 : Ob m10 a 6 [.int 0, .ref r1, .int 0, .int 0, .ref r4, .int 0, .ref r6, .ref r7, .ref r8, .ref r9, .null, .null, .null, .null, .null, .null, .null, .null, .null, .null, .int 0, .int 0, .int 0, .null, .int 0, .null, .null, .null, .int 0, .int 0, .null, .int 0, .null, .int 0, .null] := h10
  first | refine V_aload_n d_M_init_71 rfl rfl ?_ | refine V_aloadN_n d_M_init_71 rfl rfl ?_
  refine V_bipush (v := 32) d_M_init_72 (by decide) ?_
  refine V_nip (n := 32) (N := 32) (bc := 16) (bs := 584) h10 hA10 h.1 pf_M_41 rfl d_M_init_74 d_M_init_76 (by decide) rfl (by decide) (fun _ => rfl) (fun _ => rfl) (Nat.le_of_ble_eq_true rfl) (fun r10 m11 h11 hA11 => ?_)
  replace h11 : Ob m11 a 6 [.int 0, .ref r1, .int 0, .int 0, .ref r4, .int 0, .ref r6, .ref r7, .ref r8, .ref r9, .ref r10, .null, .null, .null, .null, .null, .null, .null, .null, .null, .int 0, .int 0, .int 0, .null, .int 0, .null, .null, .null, .int 0, .int 0, .null, .int 0, .null, .int 0, .null] := h11
  first | refine V_aload_n d_M_init_79 rfl rfl ?_ | refine V_aloadN_n d_M_init_79 rfl rfl ?_
  refine V_bipush (v := 32) d_M_init_80 (by decide) ?_
  refine V_nip (n := 32) (N := 32) (bc := 15) (bs := 552) h11 hA11 h.1 pf_M_44 rfl d_M_init_82 d_M_init_84 (by decide) rfl (by decide) (fun _ => rfl) (fun _ => rfl) (Nat.le_of_ble_eq_true rfl) (fun r11 m12 h12 hA12 => ?_)
  replace h12 : Ob m12 a 6 [.int 0, .ref r1, .int 0, .int 0, .ref r4, .int 0, .ref r6, .ref r7, .ref r8, .ref r9, .ref r10, .ref r11, .null, .null, .null, .null, .null, .null, .null, .null, .int 0, .int 0, .int 0, .null, .int 0, .null, .null, .null, .int 0, .int 0, .null, .int 0, .null, .int 0, .null] := h12
  first | refine V_aload_n d_M_init_87 rfl rfl ?_ | refine V_aloadN_n d_M_init_87 rfl rfl ?_
  refine V_bipush (v := 32) d_M_init_88 (by decide) ?_
  refine V_nip (n := 32) (N := 32) (bc := 14) (bs := 520) h12 hA12 h.1 pf_M_47 rfl d_M_init_90 d_M_init_92 (by decide) rfl (by decide) (fun _ => rfl) (fun _ => rfl) (Nat.le_of_ble_eq_true rfl) (fun r12 m13 h13 hA13 => ?_)
  replace h13 : Ob m13 a 6 [.int 0, .ref r1, .int 0, .int 0, .ref r4, .int 0, .ref r6, .ref r7, .ref r8, .ref r9, .ref r10, .ref r11, .ref r12, .null, .null, .null, .null, .null, .null, .null, .int 0, .int 0, .int 0, .null, .int 0, .null, .null, .null, .int 0, .int 0, .null, .int 0, .null, .int 0, .null] := h13
  first | refine V_aload_n d_M_init_95 rfl rfl ?_ | refine V_aloadN_n d_M_init_95 rfl rfl ?_
  refine V_bipush (v := 32) d_M_init_96 (by decide) ?_
  refine V_nip (n := 32) (N := 32) (bc := 13) (bs := 488) h13 hA13 h.1 pf_M_50 rfl d_M_init_98 d_M_init_100 (by decide) rfl (by decide) (fun _ => rfl) (fun _ => rfl) (Nat.le_of_ble_eq_true rfl) (fun r13 m14 h14 hA14 => ?_)
  replace h14 : Ob m14 a 6 [.int 0, .ref r1, .int 0, .int 0, .ref r4, .int 0, .ref r6, .ref r7, .ref r8, .ref r9, .ref r10, .ref r11, .ref r12, .ref r13, .null, .null, .null, .null, .null, .null, .int 0, .int 0, .int 0, .null, .int 0, .null, .null, .null, .int 0, .int 0, .null, .int 0, .null, .int 0, .null] := h14
  first | refine V_aload_n d_M_init_103 rfl rfl ?_ | refine V_aloadN_n d_M_init_103 rfl rfl ?_
  refine V_bipush (v := 32) d_M_init_104 (by decide) ?_
  refine V_nip (n := 32) (N := 32) (bc := 12) (bs := 456) h14 hA14 h.1 pf_M_53 rfl d_M_init_106 d_M_init_108 (by decide) rfl (by decide) (fun _ => rfl) (fun _ => rfl) (Nat.le_of_ble_eq_true rfl) (fun r14 m15 h15 hA15 => ?_)
  replace h15 : Ob m15 a 6 [.int 0, .ref r1, .int 0, .int 0, .ref r4, .int 0, .ref r6, .ref r7, .ref r8, .ref r9, .ref r10, .ref r11, .ref r12, .ref r13, .ref r14, .null, .null, .null, .null, .null, .int 0, .int 0, .int 0, .null, .int 0, .null, .null, .null, .int 0, .int 0, .null, .int 0, .null, .int 0, .null] := h15
  first | refine V_aload_n d_M_init_111 rfl rfl ?_ | refine V_aloadN_n d_M_init_111 rfl rfl ?_
  refine V_bipush (v := 32) d_M_init_112 (by decide) ?_
  refine V_nip (n := 32) (N := 32) (bc := 11) (bs := 424) h15 hA15 h.1 pf_M_56 rfl d_M_init_114 d_M_init_116 (by decide) rfl (by decide) (fun _ => rfl) (fun _ => rfl) (Nat.le_of_ble_eq_true rfl) (fun r15 m16 h16 hA16 => ?_)
  replace h16 : Ob m16 a 6 [.int 0, .ref r1, .int 0, .int 0, .ref r4, .int 0, .ref r6, .ref r7, .ref r8, .ref r9, .ref r10, .ref r11, .ref r12, .ref r13, .ref r14, .ref r15, .null, .null, .null, .null, .int 0, .int 0, .int 0, .null, .int 0, .null, .null, .null, .int 0, .int 0, .null, .int 0, .null, .int 0, .null] := h16
  first | refine V_aload_n d_M_init_119 rfl rfl ?_ | refine V_aloadN_n d_M_init_119 rfl rfl ?_
  refine V_iconst (v := 4) d_M_init_120 (by decide) ?_
  refine V_nip (n := 4) (N := 4) (bc := 10) (bs := 420) h16 hA16 h.1 pf_M_59 rfl d_M_init_121 d_M_init_123 (by decide) rfl (by decide) (fun _ => rfl) (fun _ => rfl) (Nat.le_of_ble_eq_true rfl) (fun r16 m17 h17 hA17 => ?_)
  replace h17 : Ob m17 a 6 [.int 0, .ref r1, .int 0, .int 0, .ref r4, .int 0, .ref r6, .ref r7, .ref r8, .ref r9, .ref r10, .ref r11, .ref r12, .ref r13, .ref r14, .ref r15, .ref r16, .null, .null, .null, .int 0, .int 0, .int 0, .null, .int 0, .null, .null, .null, .int 0, .int 0, .null, .int 0, .null, .int 0, .null] := h17
  first | refine V_aload_n d_M_init_126 rfl rfl ?_ | refine V_aloadN_n d_M_init_126 rfl rfl ?_
  refine V_bipush (v := 32) d_M_init_127 (by decide) ?_
  refine V_nip (n := 32) (N := 32) (bc := 9) (bs := 388) h17 hA17 h.1 pf_M_62 rfl d_M_init_129 d_M_init_131 (by decide) rfl (by decide) (fun _ => rfl) (fun _ => rfl) (Nat.le_of_ble_eq_true rfl) (fun r17 m18 h18 hA18 => ?_)
  replace h18 : Ob m18 a 6 [.int 0, .ref r1, .int 0, .int 0, .ref r4, .int 0, .ref r6, .ref r7, .ref r8, .ref r9, .ref r10, .ref r11, .ref r12, .ref r13, .ref r14, .ref r15, .ref r16, .ref r17, .null, .null, .int 0, .int 0, .int 0, .null, .int 0, .null, .null, .null, .int 0, .int 0, .null, .int 0, .null, .int 0, .null] := h18
  first | refine V_aload_n d_M_init_134 rfl rfl ?_ | refine V_aloadN_n d_M_init_134 rfl rfl ?_
  refine V_bipush (v := 32) d_M_init_135 (by decide) ?_
  refine V_nip (n := 32) (N := 32) (bc := 8) (bs := 356) h18 hA18 h.1 pf_M_65 rfl d_M_init_137 d_M_init_139 (by decide) rfl (by decide) (fun _ => rfl) (fun _ => rfl) (Nat.le_of_ble_eq_true rfl) (fun r18 m19 h19 hA19 => ?_)
  replace h19 : Ob m19 a 6 [.int 0, .ref r1, .int 0, .int 0, .ref r4, .int 0, .ref r6, .ref r7, .ref r8, .ref r9, .ref r10, .ref r11, .ref r12, .ref r13, .ref r14, .ref r15, .ref r16, .ref r17, .ref r18, .null, .int 0, .int 0, .int 0, .null, .int 0, .null, .null, .null, .int 0, .int 0, .null, .int 0, .null, .int 0, .null] := h19
  first | refine V_aload_n d_M_init_142 rfl rfl ?_ | refine V_aloadN_n d_M_init_142 rfl rfl ?_
  refine V_bipush (v := 32) d_M_init_143 (by decide) ?_
  refine V_nip (n := 32) (N := 32) (bc := 7) (bs := 324) h19 hA19 h.1 pf_M_68 rfl d_M_init_145 d_M_init_147 (by decide) rfl (by decide) (fun _ => rfl) (fun _ => rfl) (Nat.le_of_ble_eq_true rfl) (fun r19 m20 h20 hA20 => ?_)
  replace h20 : Ob m20 a 6 [.int 0, .ref r1, .int 0, .int 0, .ref r4, .int 0, .ref r6, .ref r7, .ref r8, .ref r9, .ref r10, .ref r11, .ref r12, .ref r13, .ref r14, .ref r15, .ref r16, .ref r17, .ref r18, .ref r19, .int 0, .int 0, .int 0, .null, .int 0, .null, .null, .null, .int 0, .int 0, .null, .int 0, .null, .int 0, .null] := h20
  first | refine V_aload_n d_M_init_150 rfl rfl ?_ | refine V_aloadN_n d_M_init_150 rfl rfl ?_
  refine V_iconst (v := 0) d_M_init_151 (by decide) ?_
  refine V_sip h20 hA20 h.1 pl_M_71 d_M_init_152 rfl rfl (Nat.le_of_ble_eq_true rfl) (fun m21 h21 hA21 => ?_)
  replace h21 : Ob m21 a 6 [.int 0, .ref r1, .int 0, .int 0, .ref r4, .int 0, .ref r6, .ref r7, .ref r8, .ref r9, .ref r10, .ref r11, .ref r12, .ref r13, .ref r14, .ref r15, .ref r16, .ref r17, .ref r18, .ref r19, .int 0, .int 0, .int 0, .null, .int 0, .null, .null, .null, .int 0, .int 0, .null, .int 0, .null, .int 0, .null] := h21
  first | refine V_aload_n d_M_init_155 rfl rfl ?_ | refine V_aloadN_n d_M_init_155 rfl rfl ?_
  refine V_iconst (v := -1) d_M_init_156 (by decide) ?_
  refine V_sip h21 hA21 h.1 pl_M_74 d_M_init_157 rfl rfl (Nat.le_of_ble_eq_true rfl) (fun m22 h22 hA22 => ?_)
  replace h22 : Ob m22 a 6 [.int 0, .ref r1, .int 0, .int 0, .ref r4, .int 0, .ref r6, .ref r7, .ref r8, .ref r9, .ref r10, .ref r11, .ref r12, .ref r13, .ref r14, .ref r15, .ref r16, .ref r17, .ref r18, .ref r19, .int 0, .int (-1), .int 0, .null, .int 0, .null, .null, .null, .int 0, .int 0, .null, .int 0, .null, .int 0, .null] := h22
  first | refine V_aload_n d_M_init_160 rfl rfl ?_ | refine V_aloadN_n d_M_init_160 rfl rfl ?_
  refine V_iconst (v := 0) d_M_init_161 (by decide) ?_
  refine V_sip h22 hA22 h.1 pl_M_77 d_M_init_162 rfl rfl (Nat.le_of_ble_eq_true rfl) (fun m23 h23 hA23 => ?_)
  replace h23 : Ob m23 a 6 [.int 0, .ref r1, .int 0, .int 0, .ref r4, .int 0, .ref r6, .ref r7, .ref r8, .ref r9, .ref r10, .ref r11, .ref r12, .ref r13, .ref r14, .ref r15, .ref r16, .ref r17, .ref r18, .ref r19, .int 0, .int (-1), .int 0, .null, .int 0, .null, .null, .null, .int 0, .int 0, .null, .int 0, .null, .int 0, .null] := h23
  first | refine V_aload_n d_M_init_165 rfl rfl ?_ | refine V_aloadN_n d_M_init_165 rfl rfl ?_
  refine V_sipush (v := 208) d_M_init_166 (by decide) ?_
  refine V_nip (n := 208) (N := 208) (bc := 6) (bs := 116) h23 hA23 h.1 pf_M_80 rfl d_M_init_169 d_M_init_171 (by decide) rfl (by decide) (fun _ => rfl) (fun _ => rfl) (Nat.le_of_ble_eq_true rfl) (fun r23 m24 h24 hA24 => ?_)
  replace h24 : Ob m24 a 6 [.int 0, .ref r1, .int 0, .int 0, .ref r4, .int 0, .ref r6, .ref r7, .ref r8, .ref r9, .ref r10, .ref r11, .ref r12, .ref r13, .ref r14, .ref r15, .ref r16, .ref r17, .ref r18, .ref r19, .int 0, .int (-1), .int 0, .ref r23, .int 0, .null, .null, .null, .int 0, .int 0, .null, .int 0, .null, .int 0, .null] := h24
  first | refine V_aload_n d_M_init_174 rfl rfl ?_ | refine V_aloadN_n d_M_init_174 rfl rfl ?_
  refine V_iconst (v := 0) d_M_init_175 (by decide) ?_
  refine V_sip h24 hA24 h.1 pl_M_83 d_M_init_176 rfl rfl (Nat.le_of_ble_eq_true rfl) (fun m25 h25 hA25 => ?_)
  replace h25 : Ob m25 a 6 [.int 0, .ref r1, .int 0, .int 0, .ref r4, .int 0, .ref r6, .ref r7, .ref r8, .ref r9, .ref r10, .ref r11, .ref r12, .ref r13, .ref r14, .ref r15, .ref r16, .ref r17, .ref r18, .ref r19, .int 0, .int (-1), .int 0, .ref r23, .int 0, .null, .null, .null, .int 0, .int 0, .null, .int 0, .null, .int 0, .null] := h25
  first | refine V_aload_n d_M_init_179 rfl rfl ?_ | refine V_aloadN_n d_M_init_179 rfl rfl ?_
  refine V_bipush (v := 8) d_M_init_180 (by decide) ?_
  refine V_nip (n := 8) (N := 8) (bc := 5) (bs := 108) h25 hA25 h.1 pf_M_86 rfl d_M_init_182 d_M_init_184 (by decide) rfl (by decide) (fun _ => rfl) (fun _ => rfl) (Nat.le_of_ble_eq_true rfl) (fun r25 m26 h26 hA26 => ?_)
  replace h26 : Ob m26 a 6 [.int 0, .ref r1, .int 0, .int 0, .ref r4, .int 0, .ref r6, .ref r7, .ref r8, .ref r9, .ref r10, .ref r11, .ref r12, .ref r13, .ref r14, .ref r15, .ref r16, .ref r17, .ref r18, .ref r19, .int 0, .int (-1), .int 0, .ref r23, .int 0, .ref r25, .null, .null, .int 0, .int 0, .null, .int 0, .null, .int 0, .null] := h26
  first | refine V_aload_n d_M_init_187 rfl rfl ?_ | refine V_aloadN_n d_M_init_187 rfl rfl ?_
  refine V_bipush (v := 8) d_M_init_188 (by decide) ?_
  refine V_nip (n := 8) (N := 8) (bc := 4) (bs := 100) h26 hA26 h.1 pf_M_89 rfl d_M_init_190 d_M_init_192 (by decide) rfl (by decide) (fun _ => rfl) (fun _ => rfl) (Nat.le_of_ble_eq_true rfl) (fun r26 m27 h27 hA27 => ?_)
  replace h27 : Ob m27 a 6 [.int 0, .ref r1, .int 0, .int 0, .ref r4, .int 0, .ref r6, .ref r7, .ref r8, .ref r9, .ref r10, .ref r11, .ref r12, .ref r13, .ref r14, .ref r15, .ref r16, .ref r17, .ref r18, .ref r19, .int 0, .int (-1), .int 0, .ref r23, .int 0, .ref r25, .ref r26, .null, .int 0, .int 0, .null, .int 0, .null, .int 0, .null] := h27
  first | refine V_aload_n d_M_init_195 rfl rfl ?_ | refine V_aloadN_n d_M_init_195 rfl rfl ?_
  refine V_bipush (v := 8) d_M_init_196 (by decide) ?_
  refine V_nip (n := 8) (N := 8) (bc := 3) (bs := 92) h27 hA27 h.1 pf_M_92 rfl d_M_init_198 d_M_init_200 (by decide) rfl (by decide) (fun _ => rfl) (fun _ => rfl) (Nat.le_of_ble_eq_true rfl) (fun r27 m28 h28 hA28 => ?_)
  replace h28 : Ob m28 a 6 [.int 0, .ref r1, .int 0, .int 0, .ref r4, .int 0, .ref r6, .ref r7, .ref r8, .ref r9, .ref r10, .ref r11, .ref r12, .ref r13, .ref r14, .ref r15, .ref r16, .ref r17, .ref r18, .ref r19, .int 0, .int (-1), .int 0, .ref r23, .int 0, .ref r25, .ref r26, .ref r27, .int 0, .int 0, .null, .int 0, .null, .int 0, .null] := h28
  first | refine V_aload_n d_M_init_203 rfl rfl ?_ | refine V_aloadN_n d_M_init_203 rfl rfl ?_
  refine V_iconst (v := -1) d_M_init_204 (by decide) ?_
  refine V_sip h28 hA28 h.1 pl_M_95 d_M_init_205 rfl rfl (Nat.le_of_ble_eq_true rfl) (fun m29 h29 hA29 => ?_)
  replace h29 : Ob m29 a 6 [.int 0, .ref r1, .int 0, .int 0, .ref r4, .int 0, .ref r6, .ref r7, .ref r8, .ref r9, .ref r10, .ref r11, .ref r12, .ref r13, .ref r14, .ref r15, .ref r16, .ref r17, .ref r18, .ref r19, .int 0, .int (-1), .int 0, .ref r23, .int 0, .ref r25, .ref r26, .ref r27, .int (-1), .int 0, .null, .int 0, .null, .int 0, .null] := h29
  first | refine V_aload_n d_M_init_208 rfl rfl ?_ | refine V_aloadN_n d_M_init_208 rfl rfl ?_
  refine V_iconst (v := 0) d_M_init_209 (by decide) ?_
  refine V_sip h29 hA29 h.1 pl_M_98 d_M_init_210 rfl rfl (Nat.le_of_ble_eq_true rfl) (fun m30 h30 hA30 => ?_)
  replace h30 : Ob m30 a 6 [.int 0, .ref r1, .int 0, .int 0, .ref r4, .int 0, .ref r6, .ref r7, .ref r8, .ref r9, .ref r10, .ref r11, .ref r12, .ref r13, .ref r14, .ref r15, .ref r16, .ref r17, .ref r18, .ref r19, .int 0, .int (-1), .int 0, .ref r23, .int 0, .ref r25, .ref r26, .ref r27, .int (-1), .int 0, .null, .int 0, .null, .int 0, .null] := h30
  first | refine V_aload_n d_M_init_213 rfl rfl ?_ | refine V_aloadN_n d_M_init_213 rfl rfl ?_
  refine V_bipush (v := 8) d_M_init_214 (by decide) ?_
  refine V_nip (n := 8) (N := 8) (bc := 2) (bs := 84) h30 hA30 h.1 pf_M_101 rfl d_M_init_216 d_M_init_218 (by decide) rfl (by decide) (fun _ => rfl) (fun _ => rfl) (Nat.le_of_ble_eq_true rfl) (fun r30 m31 h31 hA31 => ?_)
  replace h31 : Ob m31 a 6 [.int 0, .ref r1, .int 0, .int 0, .ref r4, .int 0, .ref r6, .ref r7, .ref r8, .ref r9, .ref r10, .ref r11, .ref r12, .ref r13, .ref r14, .ref r15, .ref r16, .ref r17, .ref r18, .ref r19, .int 0, .int (-1), .int 0, .ref r23, .int 0, .ref r25, .ref r26, .ref r27, .int (-1), .int 0, .ref r30, .int 0, .null, .int 0, .null] := h31
  first | refine V_aload_n d_M_init_221 rfl rfl ?_ | refine V_aloadN_n d_M_init_221 rfl rfl ?_
  refine V_iconst (v := 0) d_M_init_222 (by decide) ?_
  refine V_sip h31 hA31 h.1 pl_M_104 d_M_init_223 rfl rfl (Nat.le_of_ble_eq_true rfl) (fun m32 h32 hA32 => ?_)
  replace h32 : Ob m32 a 6 [.int 0, .ref r1, .int 0, .int 0, .ref r4, .int 0, .ref r6, .ref r7, .ref r8, .ref r9, .ref r10, .ref r11, .ref r12, .ref r13, .ref r14, .ref r15, .ref r16, .ref r17, .ref r18, .ref r19, .int 0, .int (-1), .int 0, .ref r23, .int 0, .ref r25, .ref r26, .ref r27, .int (-1), .int 0, .ref r30, .int 0, .null, .int 0, .null] := h32
  first | refine V_aload_n d_M_init_226 rfl rfl ?_ | refine V_aloadN_n d_M_init_226 rfl rfl ?_
  refine V_bipush (v := 64) d_M_init_227 (by decide) ?_
  refine V_nip (n := 64) (N := 64) (bc := 1) (bs := 20) h32 hA32 h.1 pf_M_107 rfl d_M_init_229 d_M_init_231 (by decide) rfl (by decide) (fun _ => rfl) (fun _ => rfl) (Nat.le_of_ble_eq_true rfl) (fun r32 m33 h33 hA33 => ?_)
  replace h33 : Ob m33 a 6 [.int 0, .ref r1, .int 0, .int 0, .ref r4, .int 0, .ref r6, .ref r7, .ref r8, .ref r9, .ref r10, .ref r11, .ref r12, .ref r13, .ref r14, .ref r15, .ref r16, .ref r17, .ref r18, .ref r19, .int 0, .int (-1), .int 0, .ref r23, .int 0, .ref r25, .ref r26, .ref r27, .int (-1), .int 0, .ref r30, .int 0, .ref r32, .int 0, .null] := h33
  first | refine V_aload_n d_M_init_234 rfl rfl ?_ | refine V_aloadN_n d_M_init_234 rfl rfl ?_
  refine V_iconst (v := 0) d_M_init_235 (by decide) ?_
  refine V_sip h33 hA33 h.1 pl_M_110 d_M_init_236 rfl rfl (Nat.le_of_ble_eq_true rfl) (fun m34 h34 hA34 => ?_)
  replace h34 : Ob m34 a 6 [.int 0, .ref r1, .int 0, .int 0, .ref r4, .int 0, .ref r6, .ref r7, .ref r8, .ref r9, .ref r10, .ref r11, .ref r12, .ref r13, .ref r14, .ref r15, .ref r16, .ref r17, .ref r18, .ref r19, .int 0, .int (-1), .int 0, .ref r23, .int 0, .ref r25, .ref r26, .ref r27, .int (-1), .int 0, .ref r30, .int 0, .ref r32, .int 0, .null] := h34
  first | refine V_aload_n d_M_init_239 rfl rfl ?_ | refine V_aloadN_n d_M_init_239 rfl rfl ?_
  refine V_bipush (v := 20) d_M_init_240 (by decide) ?_
  refine V_nip (n := 20) (N := 20) (bc := 0) (bs := 0) h34 hA34 h.1 pf_M_113 rfl d_M_init_242 d_M_init_244 (by decide) rfl (by decide) (fun _ => rfl) (fun _ => rfl) (Nat.le_of_ble_eq_true rfl) (fun r34 m35 h35 hA35 => ?_)
  replace h35 : Ob m35 a 6 [.int 0, .ref r1, .int 0, .int 0, .ref r4, .int 0, .ref r6, .ref r7, .ref r8, .ref r9, .ref r10, .ref r11, .ref r12, .ref r13, .ref r14, .ref r15, .ref r16, .ref r17, .ref r18, .ref r19, .int 0, .int (-1), .int 0, .ref r23, .int 0, .ref r25, .ref r26, .ref r27, .int (-1), .int 0, .ref r30, .int 0, .ref r32, .int 0, .ref r34] := h35
  obtain ⟨B, hB⟩ : ∃ B : Nat → Nat, B = fun k => match k with | 1 => r1 | 4 => r4 | 6 => r6 | 7 => r7 | 8 => r8 | 9 => r9 | 10 => r10 | 11 => r11 | 12 => r12 | 13 => r13 | 14 => r14 | 15 => r15 | 16 => r16 | 17 => r17 | 18 => r18 | 19 => r19 | 23 => r23 | 25 => r25 | 26 => r26 | 27 => r27 | 30 => r30 | 32 => r32 | _ => r34 := ⟨_, rfl⟩
  have hP : ([r34, r32, r30, r27, r26, r25, r23, r19, r18, r17, r16, r15, r14, r13, r12, r11, r10, r9, r8, r7, r6, r4, r1] : List Nat).Pairwise (fun x y => x ≠ y) := by
    have q := hA35.2.1
    exact List.Pairwise.map (R := fun z w : Nat × Nat => z.1 ≠ w.1) (S := fun x y : Nat => x ≠ y) Prod.fst (fun _ _ z => z) q
  have key : ∀ k, mdN k ≠ 0 → ∃ i : Nat, ([r34, r32, r30, r27, r26, r25, r23, r19, r18, r17, r16, r15, r14, r13, r12, r11, r10, r9, r8, r7, r6, r4, r1] : List Nat)[i]? = some (B k) ∧ ([34, 32, 30, 27, 26, 25, 23, 19, 18, 17, 16, 15, 14, 13, 12, 11, 10, 9, 8, 7, 6, 4, 1] : List Nat)[i]? = some k ∧ (B k, mdN k) ∈ ([(r34, 20), (r32, 64), (r30, 8), (r27, 8), (r26, 8), (r25, 8), (r23, 208), (r19, 32), (r18, 32), (r17, 32), (r16, 4), (r15, 32), (r14, 32), (r13, 32), (r12, 32), (r11, 32), (r10, 32), (r9, 32), (r8, 32), (r7, 32), (r6, 4), (r4, 4), (r1, 500)] : List (Nat × Nat)) := by
    intro k hk
    rw [hB]
    rcases mdN_c hk with rfl | rfl | rfl | rfl | rfl | rfl | rfl | rfl | rfl | rfl | rfl | rfl | rfl | rfl | rfl | rfl | rfl | rfl | rfl | rfl | rfl | rfl | rfl
    · exact ⟨22, rfl, rfl, List.mem_of_getElem? (i := 22) rfl⟩
    · exact ⟨21, rfl, rfl, List.mem_of_getElem? (i := 21) rfl⟩
    · exact ⟨20, rfl, rfl, List.mem_of_getElem? (i := 20) rfl⟩
    · exact ⟨19, rfl, rfl, List.mem_of_getElem? (i := 19) rfl⟩
    · exact ⟨18, rfl, rfl, List.mem_of_getElem? (i := 18) rfl⟩
    · exact ⟨17, rfl, rfl, List.mem_of_getElem? (i := 17) rfl⟩
    · exact ⟨16, rfl, rfl, List.mem_of_getElem? (i := 16) rfl⟩
    · exact ⟨15, rfl, rfl, List.mem_of_getElem? (i := 15) rfl⟩
    · exact ⟨14, rfl, rfl, List.mem_of_getElem? (i := 14) rfl⟩
    · exact ⟨13, rfl, rfl, List.mem_of_getElem? (i := 13) rfl⟩
    · exact ⟨12, rfl, rfl, List.mem_of_getElem? (i := 12) rfl⟩
    · exact ⟨11, rfl, rfl, List.mem_of_getElem? (i := 11) rfl⟩
    · exact ⟨10, rfl, rfl, List.mem_of_getElem? (i := 10) rfl⟩
    · exact ⟨9, rfl, rfl, List.mem_of_getElem? (i := 9) rfl⟩
    · exact ⟨8, rfl, rfl, List.mem_of_getElem? (i := 8) rfl⟩
    · exact ⟨7, rfl, rfl, List.mem_of_getElem? (i := 7) rfl⟩
    · exact ⟨6, rfl, rfl, List.mem_of_getElem? (i := 6) rfl⟩
    · exact ⟨5, rfl, rfl, List.mem_of_getElem? (i := 5) rfl⟩
    · exact ⟨4, rfl, rfl, List.mem_of_getElem? (i := 4) rfl⟩
    · exact ⟨3, rfl, rfl, List.mem_of_getElem? (i := 3) rfl⟩
    · exact ⟨2, rfl, rfl, List.mem_of_getElem? (i := 2) rfl⟩
    · exact ⟨1, rfl, rfl, List.mem_of_getElem? (i := 1) rfl⟩
    · exact ⟨0, rfl, rfl, List.mem_of_getElem? (i := 0) rfl⟩
  refine V_vret d_M_init_247 rfl ⟨rfl, B, ⟨?_, fun k hk => ?_, fun k l hk hl e => ?_, Fr_rf⟩, hA35.2.2, fun k hk => ?_⟩
  · rw [hB]
    exact h35
  · obtain ⟨i, q1, q2, q3⟩ := key k hk
    exact (hA35.1 _ q3).1
  · obtain ⟨i, q1, q2, q3⟩ := key k hk
    obtain ⟨i', q1', q2', q3'⟩ := key l hl
    rw [← e] at q1'
    have ei := (posL_get hP q1).symm.trans (posL_get hP q1')
    subst ei
    rw [q2] at q2'
    injection q2'
  · obtain ⟨i, q1, q2, q3⟩ := key k hk
    exact (hA35.1 _ q3).2
end M14c
