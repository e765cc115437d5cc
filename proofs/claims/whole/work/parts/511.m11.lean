/-! the reference: label, track, told -/
section M11
variable {g : GG} {m0 m : Mm} {a : Nat} {B : Nat → Nat} {sc : Fw} {ar : Ar} {tx lb pr : Sq} {n : Nat} {day : Int32} {len : Nat} {ft : Fw} {ed : Nat → Edd}
theorem l_M_labD (hg : GO g) {w : Nat} (hw : w < 10000) {Fi : Ou → Mm → Prop} : ∀ (j : Nat) (s : Sq) (F : Fw) (m : Mm) (x : List (Nat × Value)), j ≤ 4 → s.2 + j ≤ 37 → Md g m0 m a B (upd sc 31 (nI s.2)) (stA ar 32 F) → PRl F s → chk [(0, .ref a), (2, .int (nI w)), (6, .int (nI (10 ^ j / 10)))] x → (∀ m' F', Md g m0 m' a B (upd sc 31 (nI (dnF w j (10 ^ j / 10) s).2)) (stA ar 32 F') → PRl F' (dnF w j (10 ^ j / 10) s) → V g m_M_label 1 23 0 0 156 [(0, .ref a)] [] m' Fi) → V g m_M_label 1 23 0 0 127 x [] m Fi := by
  intro j
  induction j with
  | zero =>
    intro s F m x hj hs hM hP hx hF
    refine V_lo _ hx ?_
    refine V_iload d_M_label_127 rfl ?_
    refine V_if_le (tgt := 156) d_M_label_129 (by decide) (fun h_129 => ?_) (fun h_129 => ?_)
    · exact V_lo [(0, .ref a)] ⟨rfl, trivial⟩ (hF m F hM hP)
    · exact absurd (show nI (10 ^ 0 / 10) ≤ 0 by decide) h_129
  | succ j ih =>
    intro s F m x hj hs hM hP hx hF
    have hpow : 10 ^ (j + 1) / 10 = 10 ^ j := by rw [Nat.pow_succ]; omega
    have hP0 : 0 < 10 ^ j := Nat.pow_pos (by omega)
    have hP1 : 10 ^ j ≤ 1000 := by
      have hjj : j = 0 ∨ j = 1 ∨ j = 2 ∨ j = 3 := by omega
      rcases hjj with rfl | rfl | rfl | rfl <;> decide
    rw [hpow] at hx hF
    rw [dnF] at hF
    refine V_lo _ hx ?_
    refine V_iload d_M_label_127 rfl ?_
    refine V_if_le (tgt := 156) d_M_label_129 (by decide) (fun h_129 => ?_) (fun h_129 => ?_)
    · exact absurd h_129 (nI_nle hP0 (by omega))
    · first | refine V_aload_n d_M_label_132 rfl rfl ?_ | refine V_aloadN_n d_M_label_132 rfl rfl ?_
      refine V_bipush (v := 48) d_M_label_133 (by decide) ?_
      refine V_iload_n d_M_label_135 rfl rfl ?_
      refine V_iload d_M_label_136 rfl ?_
      refine V_idiv d_M_label_138 (fun z => nI_nle hP0 (by omega) (by rw [z]; exact Int32.le_refl 0)) ?_
      refine V_bipush (v := 10) d_M_label_139 (by decide) ?_
      refine V_irem d_M_label_141 (by decide) ?_
      rw [dn_dg hw hP0 hP1]
      refine V_iadd d_M_label_142 ?_
      refine VcallV cb_M_put mv_M_153 rfl (ci := 6) rfl rfl d_M_label_143 (c_M_put hg hM hP (by omega) _) ⟨by decide, by decide⟩ rfl hM.1 rfl (Nat.le_of_ble_eq_true rfl) (fun _ _ h => nomatch h.1) (fun v m2 hR => ?_)
      obtain ⟨hv9, F, hM, hP⟩ := hR
      cases hv9
      have hl := apN_len (n := 37) (s := s) (c := 48 + nI (w / 10 ^ j % 10))
      refine V_iload d_M_label_146 rfl ?_
      refine V_bipush (v := 10) d_M_label_148 (by decide) ?_
      refine V_idiv d_M_label_150 (by decide) ?_
      refine V_istore d_M_label_151 rfl ?_
      refine V_goto (tgt := 127) d_M_label_153 (by decide) ?_
      refine ih _ F _ _ (by omega) (by omega) hM hP ⟨rfl, rfl, ?_, trivial⟩ hF
      show some (Value.int (nI (10 ^ j) / nI 10)) = some (Value.int (nI (10 ^ j / 10)))
      rw [pk_div (by omega) (by omega) (by omega)]
set_option maxRecDepth 20000 in
set_option maxHeartbeats 1000000 in
theorem c_M_label (hg : GO g) (hM : Md g m0 m a B sc ar) (hR : RM sc ar tx lb pr n day len ft ed) (c code : Int32) : CT g m_M_label 1 23 0 0 [.ref a, .int c, .int code] m (Pq g m0 a B [xNE, xIA, xIS] (labO pr ed c code (acA ed n day)).1 tx lb (labO pr ed c code (acA ed n day)).2 n day len ft ed) := by
  have hn4 := hR.2.2.2.1.2
  -- it throws
  have thr : ∀ (k : Int32) (r : Ou × Sq), labO pr ed c code (acA ed n day) = r → r.2 = pr → ¬ k = 0 → AG [xNE, xIA, xIS] r.1 0 k → ∀ x, chk [(0, .ref a)] x → V g m_M_label 1 23 0 0 55 x [.int k, .ref a] m (Pq g m0 a B [xNE, xIA, xIS] (labO pr ed c code (acA ed n day)).1 tx lb (labO pr ed c code (acA ed n day)).2 n day len ft ed) := by
    intro k r er er2 h0 hA x hx
    rw [er, er2]
    refine V_lo _ hx ?_
    refine Mput (k := 0) pl_M_7 d_M_label_55 hM rfl rfl (fun m hM => ?_)
    first | refine V_aload_n d_M_label_58 rfl rfl ?_ | refine V_aloadN_n d_M_label_58 rfl rfl ?_
    refine Vget fl_M_7 d_M_label_59 hM.1 rfl ?_
    refine V_if_eq (tgt := 67) d_M_label_62 (by decide) (fun h_62 => ?_) (fun h_62 => ?_)
    · exact absurd h_62 h0
    · refine V_iconst (v := 0) d_M_label_65 (by decide) ?_
      exact V_iret d_M_label_66 rfl rfl ⟨_, rfl, _, _, hM, hR, hA⟩
  refine CT_go (lo := [(0, .ref a), (1, .int c), (2, .int code)]) rfl rfl rfl rfl hg ?_
  first | refine V_aload_n d_M_label_0 rfl rfl ?_ | refine V_aloadN_n d_M_label_0 rfl rfl ?_
  refine VcallV cb_M_acting mv_M_167 rfl (ci := 6) rfl rfl d_M_label_1 (c_M_acting hg hM hR) ⟨by decide, by decide⟩ rfl hM.1 rfl (Nat.le_of_ble_eq_true rfl) (fun _ _ h => nomatch h.1) (fun v m2 hR => ?_)
  obtain ⟨hv9, e9⟩ := hR
  cases hv9
  subst m2
  cases ha : acA ed n day with
  | none =>
    rw [ha] at thr
    refine V_istore_n d_M_label_4 rfl rfl ?_
    refine V_iload_n d_M_label_5 rfl rfl ?_
    refine V_if_ge (tgt := 13) d_M_label_6 (by decide) (fun h_6 => ?_) (fun h_6 => ?_)
    · exact absurd h_6 (show ¬ (0 : Int32) ≤ -1 by decide)
    · refine V_iconst (v := -1) d_M_label_9 (by decide) ?_
      refine V_goto (tgt := 19) d_M_label_10 (by decide) ?_
      refine V_istore d_M_label_19 rfl ?_
      first | refine V_aload_n d_M_label_21 rfl rfl ?_ | refine V_aloadN_n d_M_label_21 rfl rfl ?_
      refine V_iload_n d_M_label_22 rfl rfl ?_
      refine V_if_ge (tgt := 30) d_M_label_23 (by decide) (fun h_23 => ?_) (fun h_23 => ?_)
      · exact absurd h_23 (show ¬ (0 : Int32) ≤ -1 by decide)
      · refine V_iconst (v := 3) d_M_label_26 (by decide) ?_
        refine V_goto (tgt := 55) d_M_label_27 (by decide) ?_
        exact thr 3 _ rfl rfl (by decide) ⟨by decide, by decide⟩ _ ⟨rfl, trivial⟩
  | some i =>
    rw [ha] at thr
    have hi := acA_lt ha
    have hE := hR.2.2.2.2.2.2 i hi
    have hp : (0 : Int32) ≤ nI i := i_nlt (nI_pos (by omega))
    refine V_istore_n d_M_label_4 rfl rfl ?_
    refine V_iload_n d_M_label_5 rfl rfl ?_
    refine V_if_ge (tgt := 13) d_M_label_6 (by decide) (fun h_6 => ?_) (fun h_6 => ?_)
    · first | refine V_aload_n d_M_label_13 rfl rfl ?_ | refine V_aloadN_n d_M_label_13 rfl rfl ?_
      refine V_iload_n d_M_label_14 rfl rfl ?_
      refine V_iload_n d_M_label_15 rfl rfl ?_
      refine ek_v (P := fun z => V g m_M_label 1 23 0 0 _ _ z _ _) (show _ = [Value.int c, .int (nI i), .ref a] from rfl) ?_
      refine VcallV cb_M_find mv_M_170 rfl (ci := 6) rfl rfl d_M_label_16 (c_M_find hg hM (by omega) hE c) ⟨by decide, by decide⟩ rfl hM.1 rfl (Nat.le_of_ble_eq_true rfl) (fun _ _ h => nomatch h.1) (fun v m2 hR => ?_)
      obtain ⟨hv9, e9⟩ := hR
      cases hv9
      subst m2
      rw [labO] at thr ⊢
      cases hf : fndF (ed i).2.1 c (ed i).1 0 with
      | none =>
        rw [hf] at thr
        refine V_istore d_M_label_19 rfl ?_
        first | refine V_aload_n d_M_label_21 rfl rfl ?_ | refine V_aloadN_n d_M_label_21 rfl rfl ?_
        refine V_iload_n d_M_label_22 rfl rfl ?_
        refine V_if_ge (tgt := 30) d_M_label_23 (by decide) (fun h_23 => ?_) (fun h_23 => ?_)
        · refine V_iload d_M_label_30 rfl ?_
          refine V_if_ge (tgt := 39) d_M_label_32 (by decide) (fun h_32 => ?_) (fun h_32 => ?_)
          · exact absurd h_32 (show ¬ (0 : Int32) ≤ -1 by decide)
          · refine V_iconst (v := 1) d_M_label_35 (by decide) ?_
            refine V_goto (tgt := 55) d_M_label_36 (by decide) ?_
            exact thr 1 _ rfl rfl (by decide) ⟨by decide, by decide⟩ _ ⟨rfl, trivial⟩
        · exact absurd hp h_23
      | some j =>
        rw [hf, labS] at thr
        obtain ⟨-, hj, hvc⟩ := fndF_some hf
        have h8 := hE.2.2.2.2.1
        obtain ⟨⟨r1, r2, r3, r4, r5, r6, r7, r8, r9⟩, s1, -⟩ := hE.2.2.2.2.2.2.1 j (by omega)
        have hin : vp_in (nI (8 * i + j)) 32 := vp_nI (by omega) (by omega)
        rw [labS]
        refine V_istore d_M_label_19 rfl ?_
        first | refine V_aload_n d_M_label_21 rfl rfl ?_ | refine V_aloadN_n d_M_label_21 rfl rfl ?_
        refine V_iload_n d_M_label_22 rfl rfl ?_
        refine V_if_ge (tgt := 30) d_M_label_23 (by decide) (fun h_23 => ?_) (fun h_23 => ?_)
        · refine V_iload d_M_label_30 rfl ?_
          refine V_if_ge (tgt := 39) d_M_label_32 (by decide) (fun h_32 => ?_) (fun h_32 => ?_)
          · refine V_iload_n d_M_label_39 rfl rfl ?_
            refine V_iconst (v := 0) d_M_label_40 (by decide) ?_
            refine V_sipush (v := 9999) d_M_label_41 (by decide) ?_
            refine V_callS cb_M_not ms_M_156 rfl rfl d_M_label_44 (c_M_not hg code 0 9999) ⟨by decide, by decide⟩ rfl rfl (Nat.le_of_ble_eq_true rfl) (fun _ _ h => nomatch h.1) (fun v m2 hR => ?_)
            obtain ⟨hv9, e9⟩ := hR
            cases hv9
            subst m2
            refine V_if_eq (tgt := 54) d_M_label_47 (by decide) (fun h_47 => ?_) (fun h_47 => ?_)
            · have e : wi code 0 9999 = true := by simpa using bi_eq0.mp h_47
              have hc : ¬ wi code 0 9999 = false := by rw [e]; decide
              rw [if_neg hc]
              obtain ⟨w, ew, -, hw⟩ := wi_ex (l := 0) (h := 9999) (by omega) (by omega) e
              refine V_lo [(4, .int (nI (8 * i + j))), (3, .int (nI i)), (0, .ref a), (1, .int c), (2, .int code)] ⟨rfl, rfl, rfl, rfl, rfl, trivial⟩ ?_
              refine V_iconst (v := 0) d_M_label_54 (by decide) ?_
              refine Mput (k := 0) pl_M_7 d_M_label_55 hM rfl rfl (fun m hM => ?_)
              first | refine V_aload_n d_M_label_58 rfl rfl ?_ | refine V_aloadN_n d_M_label_58 rfl rfl ?_
              refine Vget fl_M_7 d_M_label_59 hM.1 rfl ?_
              refine V_if_eq (tgt := 67) d_M_label_62 (by decide) (fun h_62 => ?_) (fun h_62 => ?_)
              · first | refine V_aload_n d_M_label_67 rfl rfl ?_ | refine V_aloadN_n d_M_label_67 rfl rfl ?_
                refine V_iload_n d_M_label_68 rfl rfl ?_
                refine V_iload_n d_M_label_69 rfl rfl ?_
                refine VcallV cb_M_zoneBy mv_M_177 rfl (ci := 6) rfl rfl d_M_label_70 (c_M_zoneBy hg hM (by omega) hE code) ⟨by decide, by decide⟩ rfl hM.1 rfl (Nat.le_of_ble_eq_true rfl) (fun _ _ h => nomatch h.1) (fun v m2 hR => ?_)
                obtain ⟨hv9, e9⟩ := hR
                cases hv9
                subst m2
                refine V_istore d_M_label_73 rfl ?_
                refine V_iload d_M_label_75 rfl ?_
                refine V_if_eq (tgt := 95) d_M_label_77 (by decide) (fun h_77 => ?_) (fun h_77 => ?_)
                · -- no zone
                  have h77 : zC (ed i) code = 0 := h_77
                  have hz : hasD ((ed i).2.1 j 1) (zC (ed i) code) = false := by rw [h77]; rfl
                  rw [if_pos hz]
                  refine V_iconst (v := 0) d_M_label_95 (by decide) ?_
                  exact V_iret d_M_label_96 rfl rfl ⟨_, rfl, _, _, hM, hR, rfl, rfl⟩
                · obtain ⟨k, k1, k9, ek⟩ := (zC_rg hE code).resolve_left h_77
                  first | refine V_aload_n d_M_label_80 rfl rfl ?_ | refine V_aloadN_n d_M_label_80 rfl rfl ?_
                  refine Vget fl_M_35 d_M_label_81 hM.1 rfl ?_
                  refine V_iload d_M_label_84 rfl ?_
                  refine Miald d_M_label_86 hM (by decide) (by exact hin) ?_
                  rw [nI_clamp (by omega), show (ar 8 (8 * i + j)) = (ed i).2.1 j 1 from r2]
                  refine V_iload d_M_label_87 rfl ?_
                  refine V_ishr d_M_label_89 ?_
                  refine V_iconst (v := 1) d_M_label_90 (by decide) ?_
                  refine V_iand d_M_label_91 ?_
                  rw [ek]
                  refine V_if_ne (tgt := 97) d_M_label_92 (by decide) (fun h_92 => ?_) (fun h_92 => ?_)
                  · -- it goes there
                    have hb : hasD ((ed i).2.1 j 1) (nI k) = true := by
                      rw [hasD_bt k1 k9]
                      cases hbt : bt ((ed i).2.1 j 1) k with
                      | true => rfl
                      | false => exact absurd ((bitZ (by omega)).mpr hbt) h_92
                    rw [if_neg (by rw [hb]; decide)]
                    obtain ⟨w0, e0, l0, u0⟩ := wi_ex (l := 65) (h := 90) (by omega) (by omega) s1
                    rw [e0] at hvc
                    rw [e0, ew]
                    have hcc : c = nI w0 := hvc.symm
                    subst hcc
                    first | refine V_aload_n d_M_label_97 rfl rfl ?_ | refine V_aloadN_n d_M_label_97 rfl rfl ?_
                    refine V_iconst (v := 0) d_M_label_98 (by decide) ?_
                    refine Mput (k := 31) pl_M_104 d_M_label_99 hM rfl rfl (fun m hM => ?_)
                    have hM1 : Md g m0 m a B (upd (upd sc 0 0) 31 (nI (pr.1, 0).2)) (stA ar 32 (ar 32)) := by rw [stA_id]; exact hM
                    have hP1 : PRl (ar 32) (pr.1, 0) := fun j hj => absurd hj (Nat.not_lt_zero j)
                    have n0 : SMs (pr.1, 0) := fun j hj => absurd hj (Nat.not_lt_zero j)
                    clear hM
                    have hM := hM1
                    first | refine V_aload_n d_M_label_102 rfl rfl ?_ | refine V_aloadN_n d_M_label_102 rfl rfl ?_
                    refine V_iload_n d_M_label_103 rfl rfl ?_
                    refine VcallV cb_M_put mv_M_153 rfl (ci := 6) rfl rfl d_M_label_104 (c_M_put hg hM hP1 (show 0 < 37 by omega) _) ⟨by decide, by decide⟩ rfl hM.1 rfl (Nat.le_of_ble_eq_true rfl) (fun _ _ h => nomatch h.1) (fun v m2 hR => ?_)
                    obtain ⟨hv9, F, hM, hP⟩ := hR
                    cases hv9
                    have n1 : SMs (apN 37 (pr.1, 0) (nI w0)) := SM_ap n0 (by omega)
                    have t1 : (apN 37 (pr.1, 0) (nI w0)).2 = 1 := by rw [apN_1 (show 0 < 37 by omega)]
                    generalize hs1 : apN 37 (pr.1, 0) (nI w0) = S1 at hM hP n1 t1
                    first | refine V_aload_n d_M_label_107 rfl rfl ?_ | refine V_aloadN_n d_M_label_107 rfl rfl ?_
                    refine V_bipush (v := 48) d_M_label_108 (by decide) ?_
                    refine V_iload d_M_label_110 rfl ?_
                    refine V_iadd d_M_label_112 ?_
                    refine ek_v (P := fun z => V g m_M_label 1 23 0 0 _ _ z _ _) (show _ = [Value.int (nI (48 + k)), .ref a] by rw [← nI_add]; rfl) ?_
                    refine VcallV cb_M_put mv_M_153 rfl (ci := 6) rfl rfl d_M_label_113 (c_M_put hg hM hP (by omega) _) ⟨by decide, by decide⟩ rfl hM.1 rfl (Nat.le_of_ble_eq_true rfl) (fun _ _ h => nomatch h.1) (fun v m2 hR => ?_)
                    obtain ⟨hv9, F, hM, hP⟩ := hR
                    cases hv9
                    have n2 : SMs (apN 37 S1 (nI (48 + k))) := SM_ap n1 (by omega)
                    have t2 : (apN 37 S1 (nI (48 + k))).2 = 2 := by rw [apN_1 (by omega)]; show S1.2 + 1 = 2; omega
                    generalize hs2 : apN 37 S1 (nI (48 + k)) = S2 at hM hP n2 t2
                    first | refine V_aload_n d_M_label_116 rfl rfl ?_ | refine V_aloadN_n d_M_label_116 rfl rfl ?_
                    refine V_bipush (v := 45) d_M_label_117 (by decide) ?_
                    refine VcallV cb_M_put mv_M_153 rfl (ci := 6) rfl rfl d_M_label_119 (c_M_put hg hM hP (by omega) _) ⟨by decide, by decide⟩ rfl hM.1 rfl (Nat.le_of_ble_eq_true rfl) (fun _ _ h => nomatch h.1) (fun v m2 hR => ?_)
                    obtain ⟨hv9, F, hM, hP⟩ := hR
                    cases hv9
                    have n3 : SMs (apN 37 S2 (nI 45)) := SM_ap n2 (by omega)
                    have t3 : (apN 37 S2 (nI 45)).2 = 3 := by rw [apN_1 (by omega)]; show S2.2 + 1 = 3; omega
                    change Md g m0 _ a B (upd (upd sc 0 0) 31 (nI (apN 37 S2 (nI 45)).2)) (stA ar 32 F) at hM
                    change PRl F (apN 37 S2 (nI 45)) at hP
                    generalize hs3 : apN 37 S2 (nI 45) = S3 at hM hP n3 t3
                    have n4 := SM_dn (w := w) 4 1000 S3 n3
                    have t4 := dn_eq (w := w) 4 1000 S3 (by omega)
                    have hpS : plS pr (nI w0) (nI k) (nI w) = dnF w 4 1000 S3 := by
                      unfold plS
                      rw [hs1, show (48 : Int32) + nI k = nI (48 + k) from nI_add 48 k, hs2]
                      rw [show apN 37 S2 45 = S3 from hs3, num4_eq (by omega)]
                    refine V_sipush (v := 1000) d_M_label_122 (by decide) ?_
                    refine V_istore d_M_label_125 rfl ?_
                    refine l_M_labD hg (w := w) (by omega) 4 S3 F _ _ (by omega) (by omega) hM hP ⟨rfl, rfl, rfl, trivial⟩ (fun m5 F5 hM hP => ?_)
                    change Md g m0 m5 a B (upd (upd sc 0 0) 31 (nI (dnF w 4 1000 S3).2)) (stA ar 32 F5) at hM
                    change PRl F5 (dnF w 4 1000 S3) at hP
                    have hck : ckL F5 = ckL (sF (dnF w 4 1000 S3)) := ckL_c (fun j hj => by rw [sF_at (by omega) (by omega)]; exact hP j (by omega))
                    obtain ⟨u, hu, hu2⟩ := ckL_nn (f := sF (dnF w 4 1000 S3)) (fun j hj => by rw [sF_at (by omega) (by omega)]; exact n4 j (by omega))
                    first | refine V_aload_n d_M_label_156 rfl rfl ?_ | refine V_aloadN_n d_M_label_156 rfl rfl ?_
                    first | refine V_aload_n d_M_label_157 rfl rfl ?_ | refine V_aloadN_n d_M_label_157 rfl rfl ?_
                    refine Vget fl_M_107 d_M_label_158 hM.1 rfl ?_
                    have hI : Ia g m5 (B 32) 64 F5 := hM.2.1 32 (by decide)
                    refine V_callS cb_M_check ms_M_180 rfl rfl d_M_label_161 (c_M_check hg hI (by omega) (by omega)) ⟨by decide, by decide⟩ rfl rfl (Nat.le_of_ble_eq_true rfl) (fun _ _ h => nomatch h.1) (fun v m2 hR => ?_)
                    obtain ⟨hv9, e9⟩ := hR
                    cases hv9
                    subst m2
                    rw [hck]
                    refine VcallV cb_M_put mv_M_153 rfl (ci := 6) rfl rfl d_M_label_164 (c_M_put hg hM hP (by omega) _) ⟨by decide, by decide⟩ rfl hM.1 rfl (Nat.le_of_ble_eq_true rfl) (fun _ _ h => nomatch h.1) (fun v m2 hR => ?_)
                    obtain ⟨hv9, F, hM, hP⟩ := hR
                    cases hv9
                    have hpF : plF pr (nI w0) (nI k) (nI w) = apN 37 (dnF w 4 1000 S3) (ckL (sF (dnF w 4 1000 S3))) := by unfold plF; rw [hpS]
                    have n5 : SMs (apN 37 (dnF w 4 1000 S3) (ckL (sF (dnF w 4 1000 S3)))) := by rw [hu]; exact SM_ap n4 hu2
                    have t5 : (apN 37 (dnF w 4 1000 S3) (ckL (sF (dnF w 4 1000 S3)))).2 = 8 := by rw [apN_1 (by omega)]; show (dnF w 4 1000 S3).2 + 1 = 8; omega
                    refine V_bipush (v := 8) d_M_label_167 (by decide) ?_
                    rw [hpF]
                    refine V_iret d_M_label_169 rfl rfl ⟨_, rfl, _, _, hM, RM_pr ‹RM sc ar tx lb pr n day len ft ed› (by omega) hP (SM_nn n5), rfl, ?_⟩
                    rw [t5]
                    rfl
                  · have hb : hasD ((ed i).2.1 j 1) (nI k) = false := by
                      rw [hasD_bt k1 k9]
                      exact (bitZ (by omega)).mp h_92
                    rw [if_pos hb]
                    refine V_iconst (v := 0) d_M_label_95 (by decide) ?_
                    exact V_iret d_M_label_96 rfl rfl ⟨_, rfl, _, _, hM, hR, rfl, rfl⟩
              · exact absurd rfl h_62
            · have e : wi code 0 9999 = false := by simpa using bi_ne0.mp h_47
              rw [if_pos e] at thr ⊢
              refine V_iconst (v := 2) d_M_label_50 (by decide) ?_
              refine V_goto (tgt := 55) d_M_label_51 (by decide) ?_
              exact thr 2 _ rfl rfl (by decide) ⟨by decide, by decide⟩ _ ⟨rfl, trivial⟩
          · exact absurd (i_nlt (nI_pos (by omega))) h_32
        · exact absurd hp h_23
    · exact absurd hp h_6
/-! told -/
theorem l_M_told (hg : GO g) {i : Nat} {d : Edd} (hi : i < 4) (hE : REd ar i d) (w : Int32) {Fi : Ou → Mm → Prop} (hM : Md g m0 m a B sc ar) : ∀ (k j c : Nat) (x : List (Nat × Value)), j + k = d.1 → c ≤ j → chk [(0, .ref a), (1, .int (nI (i + 1))), (2, .int w), (3, .int (nI c)), (4, .int (nI (8 * i + j)))] x → V g m_M_told 1 22 0 0 99 [(0, .ref a), (1, .int (nI (i + 1))), (2, .int w), (3, .int (nI (c + hrF d.2.1 k j)))] [] m Fi → V g m_M_told 1 22 0 0 54 x [] m Fi := by
  obtain ⟨e1, e2, e3, e4, e5, e6, e7, e8, e9⟩ := hE
  have h8 : 8 * nI (i + 1) - 8 = nI (8 * i) := by
    rw [nI8, show 8 * (i + 1) = 8 * i + 8 by omega]
    exact nI_subC _ 8
  have i4 : vp_in (nI i) 4 := vp_nI hi (by omega)
  intro k
  induction k with
  | zero =>
    intro j c x hj hc hx hV
    refine V_lo _ hx ?_
    refine V_iload d_M_told_54 rfl ?_
    refine V_bipush (v := 8) d_M_told_56 (by decide) ?_
    refine V_iload_n d_M_told_58 rfl rfl ?_
    refine V_imul d_M_told_59 ?_
    refine V_bipush (v := 8) d_M_told_60 (by decide) ?_
    refine V_isub d_M_told_62 ?_
    rw [h8]
    first | refine V_aload_n d_M_told_63 rfl rfl ?_ | refine V_aloadN_n d_M_told_63 rfl rfl ?_
    refine Vget fl_M_29 d_M_told_64 hM.1 rfl ?_
    refine V_iload_n d_M_told_67 rfl rfl ?_
    refine V_iconst (v := 1) d_M_told_68 (by decide) ?_
    refine V_isub d_M_told_69 ?_
    rw [nI_sub1]
    refine Miald d_M_told_70 hM (by decide) (by assumption) ?_
    rw [nI_clamp (by omega), e3]
    refine V_iadd d_M_told_71 ?_
    rw [nI_add]
    refine V_icmp_ge (tgt := 99) d_M_told_72 (by decide) (fun h_72 => ?_) (fun h_72 => ?_)
    · exact V_lo [(0, .ref a), (1, .int (nI (i + 1))), (2, .int w), (3, .int (nI c))] ⟨rfl, rfl, rfl, rfl, trivial⟩ hV
    · exact absurd (nI_le (by omega) (by omega)) h_72
  | succ k ih =>
    intro j c x hj hc hx hV
    have hin : vp_in (nI (8 * i + j)) 32 := vp_nI (by omega) (by omega)
    obtain ⟨⟨r1, r2, r3, r4, r5, r6, r7, r8, r9⟩, -⟩ := e7 j (by omega)
    rw [hrF] at hV
    refine V_lo _ hx ?_
    refine V_iload d_M_told_54 rfl ?_
    refine V_bipush (v := 8) d_M_told_56 (by decide) ?_
    refine V_iload_n d_M_told_58 rfl rfl ?_
    refine V_imul d_M_told_59 ?_
    refine V_bipush (v := 8) d_M_told_60 (by decide) ?_
    refine V_isub d_M_told_62 ?_
    rw [h8]
    first | refine V_aload_n d_M_told_63 rfl rfl ?_ | refine V_aloadN_n d_M_told_63 rfl rfl ?_
    refine Vget fl_M_29 d_M_told_64 hM.1 rfl ?_
    refine V_iload_n d_M_told_67 rfl rfl ?_
    refine V_iconst (v := 1) d_M_told_68 (by decide) ?_
    refine V_isub d_M_told_69 ?_
    rw [nI_sub1]
    refine Miald d_M_told_70 hM (by decide) (by assumption) ?_
    rw [nI_clamp (by omega), e3]
    refine V_iadd d_M_told_71 ?_
    rw [nI_add]
    refine V_icmp_ge (tgt := 99) d_M_told_72 (by decide) (fun h_72 => ?_) (fun h_72 => ?_)
    · exact absurd h_72 (nI_ge (by omega) (by omega))
    · refine V_iload_n d_M_told_75 rfl rfl ?_
      first | refine V_aload_n d_M_told_76 rfl rfl ?_ | refine V_aloadN_n d_M_told_76 rfl rfl ?_
      refine Vget fl_M_53 d_M_told_77 hM.1 rfl ?_
      refine V_iload d_M_told_80 rfl ?_
      refine Miald d_M_told_82 hM (by decide) (by exact hin) ?_
      rw [nI_clamp (by omega)]
      by_cases h9 : 0 < d.2.1 j 8
      · rw [(r8 h9).1]
        rw [if_pos h9] at hV
        refine V_if_lt (tgt := 90) d_M_told_83 (by decide) (fun h_83 => ?_) (fun h_83 => ?_)
        · exact absurd h_83 (r8 h9).2.2
        · refine V_iconst (v := 1) d_M_told_86 (by decide) ?_
          refine V_goto (tgt := 91) d_M_told_87 (by decide) ?_
          refine V_iadd d_M_told_91 ?_
          refine V_istore_n d_M_told_92 rfl rfl ?_
          refine V_iinc d_M_told_93 rfl (nI_inc _) rfl ?_
          refine V_goto (tgt := 54) d_M_told_96 (by decide) ?_
          refine ih (j + 1) (c + 1) _ (by omega) (by omega) ⟨rfl, rfl, rfl, ?_, rfl, trivial⟩ (by rw [show c + 1 + hrF d.2.1 k (j + 1) = c + (1 + hrF d.2.1 k (j + 1)) by omega]; exact hV)
          exact congrArg (fun z => some (Value.int z)) (nI_1 c)
      · rw [r9 h9]
        rw [if_neg h9, Nat.zero_add] at hV
        refine V_if_lt (tgt := 90) d_M_told_83 (by decide) (fun h_83 => ?_) (fun h_83 => ?_)
        · refine V_iconst (v := 0) d_M_told_90 (by decide) ?_
          refine V_iadd d_M_told_91 ?_
          refine V_istore_n d_M_told_92 rfl rfl ?_
          refine V_iinc d_M_told_93 rfl (nI_inc _) rfl ?_
          refine V_goto (tgt := 54) d_M_told_96 (by decide) ?_
          refine ih (j + 1) c _ (by omega) (by omega) ⟨rfl, rfl, rfl, ?_, rfl, trivial⟩ hV
          exact congrArg (fun z => some (Value.int z)) (Int32.add_zero _)
        · exact absurd (show (-1 : Int32) < 0 by decide) h_83
theorem c_M_told (hg : GO g) (hM : Md g m0 m a B sc ar) (hR : RM sc ar tx lb pr n day len ft ed) (x w : Int32) : CT g m_M_told 1 22 0 0 [.ref a, .int x, .int w] m (Pq g m0 a B [xNE, xIA] (tolO ed w (edO n x)) tx lb pr n day len ft ed) := by
  have hn4 := hR.2.2.2.1.2
  have e3 : sc 3 = nI n := hR.2.2.2.1.1
  have thr : ∀ (code : Int32), ¬ code = 0 → AG [xNE, xIA] (tolO ed w (edO n x)) 0 code → ∀ x', chk [(0, .ref a)] x' → V g m_M_told 1 22 0 0 31 x' [.int code, .ref a] m (Pq g m0 a B [xNE, xIA] (tolO ed w (edO n x)) tx lb pr n day len ft ed) := by
    intro code h0 hA x' hx
    refine V_lo _ hx ?_
    refine Mput (k := 0) pl_M_7 d_M_told_31 hM rfl rfl (fun m hM => ?_)
    first | refine V_aload_n d_M_told_34 rfl rfl ?_ | refine V_aloadN_n d_M_told_34 rfl rfl ?_
    refine Vget fl_M_7 d_M_told_35 hM.1 rfl ?_
    refine V_if_eq (tgt := 43) d_M_told_38 (by decide) (fun h_38 => ?_) (fun h_38 => ?_)
    · exact absurd h_38 h0
    · refine V_iconst (v := 0) d_M_told_41 (by decide) ?_
      exact V_iret d_M_told_42 rfl rfl ⟨_, rfl, _, _, hM, hR, hA⟩
  refine CT_go (lo := [(0, .ref a), (1, .int x), (2, .int w)]) rfl rfl rfl rfl hg ?_
  first | refine V_aload_n d_M_told_0 rfl rfl ?_ | refine V_aloadN_n d_M_told_0 rfl rfl ?_
  refine V_iload_n d_M_told_1 rfl rfl ?_
  refine V_iconst (v := 1) d_M_told_2 (by decide) ?_
  first | refine V_aload_n d_M_told_3 rfl rfl ?_ | refine V_aloadN_n d_M_told_3 rfl rfl ?_
  refine Vget fl_M_20 d_M_told_4 hM.1 rfl ?_
  refine ek_v (P := fun z => V g m_M_told 1 22 0 0 _ _ z _ _) (show _ = [Value.int (nI n), .int 1, .int x, .ref a] by rw [← e3]) ?_
  refine V_callS cb_M_not ms_M_156 rfl rfl d_M_told_7 (c_M_not hg x 1 (nI n)) ⟨by decide, by decide⟩ rfl rfl (Nat.le_of_ble_eq_true rfl) (fun _ _ h => nomatch h.1) (fun v m2 hR => ?_)
  obtain ⟨hv9, e9⟩ := hR
  cases hv9
  subst m2
  rcases edX (x := x) hn4 with ⟨hw, i, hi, rfl, he⟩ | ⟨hw, he⟩
  · have hE := hR.2.2.2.2.2.2 i hi
    have i4 : vp_in (nI i) 4 := vp_nI (by omega) (by omega)
    have h8 : 8 * nI (i + 1) - 8 = nI (8 * i) := by
      rw [nI8, show 8 * (i + 1) = 8 * i + 8 by omega]
      exact nI_subC _ 8
    rw [hw]
    rw [he, tolO] at thr ⊢
    refine V_if_eq (tgt := 17) d_M_told_10 (by decide) (fun h_10 => ?_) (fun h_10 => ?_)
    · refine V_iload_n d_M_told_17 rfl rfl ?_
      refine V_iconst (v := 0) d_M_told_18 (by decide) ?_
      refine V_iconst (v := 3) d_M_told_19 (by decide) ?_
      refine V_callS cb_M_not ms_M_156 rfl rfl d_M_told_20 (c_M_not hg w 0 3) ⟨by decide, by decide⟩ rfl rfl (Nat.le_of_ble_eq_true rfl) (fun _ _ h => nomatch h.1) (fun v m2 hR => ?_)
      obtain ⟨hv9, e9⟩ := hR
      cases hv9
      subst m2
      refine V_if_eq (tgt := 30) d_M_told_23 (by decide) (fun h_23 => ?_) (fun h_23 => ?_)
      · have e : wi w 0 3 = true := by simpa using bi_eq0.mp h_23
        obtain ⟨q, eq, -, hq⟩ := wi_ex (l := 0) (h := 3) (by omega) (by omega) e
        subst eq
        refine V_iconst (v := 0) d_M_told_30 (by decide) ?_
        refine Mput (k := 0) pl_M_7 d_M_told_31 hM rfl rfl (fun m hM => ?_)
        first | refine V_aload_n d_M_told_34 rfl rfl ?_ | refine V_aloadN_n d_M_told_34 rfl rfl ?_
        refine Vget fl_M_7 d_M_told_35 hM.1 rfl ?_
        refine V_if_eq (tgt := 43) d_M_told_38 (by decide) (fun h_38 => ?_) (fun h_38 => ?_)
        · refine V_iconst (v := 0) d_M_told_43 (by decide) ?_
          refine V_istore_n d_M_told_44 rfl rfl ?_
          refine V_bipush (v := 8) d_M_told_45 (by decide) ?_
          refine V_iload_n d_M_told_47 rfl rfl ?_
          refine V_imul d_M_told_48 ?_
          refine V_bipush (v := 8) d_M_told_49 (by decide) ?_
          refine V_isub d_M_told_51 ?_
          rw [h8]
          refine V_istore d_M_told_52 rfl ?_
          refine l_M_told hg (by omega) hE (nI q) hM (ed i).1 0 0 _ (by omega) (Nat.le_refl _) ⟨rfl, rfl, rfl, rfl, rfl, trivial⟩ ?_
          rw [Nat.zero_add]
          have hqq : q = 0 ∨ q = 1 ∨ q = 2 ∨ q = 3 := by omega
          rcases hqq with rfl | rfl | rfl | rfl
          · rw [if_pos (show nI 0 = 0 from rfl)]
            refine V_iload_n d_M_told_99 rfl rfl ?_
            refine V_if_ne (tgt := 114) d_M_told_100 (by decide) (fun h_100 => ?_) (fun h_100 => ?_)
            · exact absurd rfl h_100
            · first | refine V_aload_n d_M_told_103 rfl rfl ?_ | refine V_aloadN_n d_M_told_103 rfl rfl ?_
              refine Vget fl_M_23 d_M_told_104 hM.1 rfl ?_
              refine V_iload_n d_M_told_107 rfl rfl ?_
              refine V_iconst (v := 1) d_M_told_108 (by decide) ?_
              refine V_isub d_M_told_109 ?_
              rw [nI_sub1]
              refine Miald d_M_told_110 hM (by decide) (by assumption) ?_
              refine V_goto (tgt := 147) d_M_told_111 (by decide) ?_
              rw [nI_clamp (by omega)]
              exact V_iret d_M_told_147 rfl rfl ⟨_, rfl, _, _, hM, hR, rfl, hE.1⟩
          · rw [if_neg (show ¬ nI 1 = 0 by decide), if_pos (show nI 1 = 1 from rfl)]
            refine V_iload_n d_M_told_99 rfl rfl ?_
            refine V_if_ne (tgt := 114) d_M_told_100 (by decide) (fun h_100 => ?_) (fun h_100 => ?_)
            · refine V_iload_n d_M_told_114 rfl rfl ?_
              refine V_iconst (v := 1) d_M_told_115 (by decide) ?_
              refine V_icmp_ne (tgt := 130) d_M_told_116 (by decide) (fun h_116 => ?_) (fun h_116 => ?_)
              · exact absurd rfl h_116
              · first | refine V_aload_n d_M_told_119 rfl rfl ?_ | refine V_aloadN_n d_M_told_119 rfl rfl ?_
                refine Vget fl_M_29 d_M_told_120 hM.1 rfl ?_
                refine V_iload_n d_M_told_123 rfl rfl ?_
                refine V_iconst (v := 1) d_M_told_124 (by decide) ?_
                refine V_isub d_M_told_125 ?_
                rw [nI_sub1]
                refine Miald d_M_told_126 hM (by decide) (by assumption) ?_
                refine V_goto (tgt := 147) d_M_told_127 (by decide) ?_
                rw [nI_clamp (by omega)]
                exact V_iret d_M_told_147 rfl rfl ⟨_, rfl, _, _, hM, hR, rfl, hE.2.2.1⟩
            · exact absurd h_100 (by decide)
          · rw [if_neg (show ¬ nI 2 = 0 by decide), if_neg (show ¬ nI 2 = 1 by decide), if_pos (show nI 2 = 2 from rfl)]
            refine V_iload_n d_M_told_99 rfl rfl ?_
            refine V_if_ne (tgt := 114) d_M_told_100 (by decide) (fun h_100 => ?_) (fun h_100 => ?_)
            · refine V_iload_n d_M_told_114 rfl rfl ?_
              refine V_iconst (v := 1) d_M_told_115 (by decide) ?_
              refine V_icmp_ne (tgt := 130) d_M_told_116 (by decide) (fun h_116 => ?_) (fun h_116 => ?_)
              · refine V_iload_n d_M_told_130 rfl rfl ?_
                refine V_iconst (v := 2) d_M_told_131 (by decide) ?_
                refine V_icmp_ne (tgt := 146) d_M_told_132 (by decide) (fun h_132 => ?_) (fun h_132 => ?_)
                · exact absurd rfl h_132
                · first | refine V_aload_n d_M_told_135 rfl rfl ?_ | refine V_aloadN_n d_M_told_135 rfl rfl ?_
                  refine Vget fl_M_59 d_M_told_136 hM.1 rfl ?_
                  refine V_iload_n d_M_told_139 rfl rfl ?_
                  refine V_iconst (v := 1) d_M_told_140 (by decide) ?_
                  refine V_isub d_M_told_141 ?_
                  rw [nI_sub1]
                  refine Miald d_M_told_142 hM (by decide) (by assumption) ?_
                  refine V_goto (tgt := 147) d_M_told_143 (by decide) ?_
                  rw [nI_clamp (by omega)]
                  exact V_iret d_M_told_147 rfl rfl ⟨_, rfl, _, _, hM, hR, rfl, hE.2.2.2.1⟩
              · exact absurd h_116 (by decide)
            · exact absurd h_100 (by decide)
          · rw [if_neg (show ¬ nI 3 = 0 by decide), if_neg (show ¬ nI 3 = 1 by decide), if_neg (show ¬ nI 3 = 2 by decide), if_pos (show nI 3 = 3 from rfl)]
            refine V_iload_n d_M_told_99 rfl rfl ?_
            refine V_if_ne (tgt := 114) d_M_told_100 (by decide) (fun h_100 => ?_) (fun h_100 => ?_)
            · refine V_iload_n d_M_told_114 rfl rfl ?_
              refine V_iconst (v := 1) d_M_told_115 (by decide) ?_
              refine V_icmp_ne (tgt := 130) d_M_told_116 (by decide) (fun h_116 => ?_) (fun h_116 => ?_)
              · refine V_iload_n d_M_told_130 rfl rfl ?_
                refine V_iconst (v := 2) d_M_told_131 (by decide) ?_
                refine V_icmp_ne (tgt := 146) d_M_told_132 (by decide) (fun h_132 => ?_) (fun h_132 => ?_)
                · refine V_iload_n d_M_told_146 rfl rfl ?_
                  exact V_iret d_M_told_147 rfl rfl ⟨_, rfl, _, _, hM, hR, rfl, rfl⟩
                · exact absurd h_132 (by decide)
              · exact absurd h_116 (by decide)
            · exact absurd h_100 (by decide)
        · exact absurd rfl h_38
      · have e : wi w 0 3 = false := by simpa using bi_ne0.mp h_23
        have nq : ∀ q : Nat, q ≤ 3 → ¬ w = nI q := fun q hq z => by
          rw [z] at e
          have e2 : wi (nI q) 0 3 = true := (wi_nI (l := 0) (h := 3) (by omega) (by omega) (by omega)).mpr ⟨Nat.zero_le _, hq⟩
          rw [e] at e2
          cases e2
        have er : (if w = 0 then oI (ed i).2.2.2.2.2.2 else if w = 1 then oI (nI (ed i).1) else if w = 2 then oI (nI (ed i).2.2.1) else if w = 3 then oI (nI (hrF (ed i).2.1 (ed i).1 0)) else eIA) = eIA := by
          rw [if_neg (show ¬ w = 0 from nq 0 (by omega)), if_neg (show ¬ w = 1 from nq 1 (by omega)), if_neg (show ¬ w = 2 from nq 2 (by omega)), if_neg (show ¬ w = 3 from nq 3 (by omega))]
        refine V_iconst (v := 2) d_M_told_26 (by decide) ?_
        refine V_goto (tgt := 31) d_M_told_27 (by decide) ?_
        exact thr 2 (by decide) (by rw [er]; exact ⟨by decide, by decide⟩) _ ⟨rfl, trivial⟩
    · exact absurd rfl h_10
  · rw [hw]
    rw [he] at thr ⊢
    refine V_if_eq (tgt := 17) d_M_told_10 (by decide) (fun h_10 => ?_) (fun h_10 => ?_)
    · exact absurd h_10 (show ¬ bi (!false) = 0 by decide)
    · refine V_iconst (v := 1) d_M_told_13 (by decide) ?_
      refine V_goto (tgt := 31) d_M_told_14 (by decide) ?_
      exact thr 1 (by decide) ⟨by decide, by decide⟩ _ ⟨rfl, trivial⟩
end M11
