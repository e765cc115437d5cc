/-! what a frame leaves -/
theorem Ob_f {S : Nat → Prop} {mm m' : Mm} {b ci : Nat} {fs : List Value} (h : Ob mm b ci fs) (hF : Fr S mm m') (hb : ¬ S b) : Ob m' b ci fs := ⟨hF.1 b h.1, (hF.2 b h.1 hb).trans h.2⟩
theorem Ia_f {g : GG} {S : Nat → Prop} {mm m' : Mm} {b n : Nat} {f : Nat → Int32} (h : Ia g mm b n f) (hF : Fr S mm m') (hb : ¬ S b) : Ia g m' b n f := ⟨hF.1 b h.1, (hF.2 b h.1 hb).trans h.2⟩
theorem La_f {g : GG} {S : Nat → Prop} {mm m' : Mm} {b n : Nat} {f : Nat → Int64} (h : La g mm b n f) (hF : Fr S mm m') (hb : ¬ S b) : La g m' b n f := ⟨hF.1 b h.1, (hF.2 b h.1 hb).trans h.2⟩
theorem Qa_f {g : GG} {S : Nat → Prop} {mm m' : Mm} {j b n : Nat} {f : Nat → Option Nat} (h : Qa g mm j b n f) (hF : Fr S mm m') (hb : ¬ S b) : Qa g m' j b n f := ⟨hF.1 b h.1, (hF.2 b h.1 hb).trans h.2⟩
theorem Sgm_f {g : GG} {S : Nat → Prop} {mm m' : Mm} {a r n : Nat} {s : Sq} (h : Sgm g mm a r n s) (hF : Fr S mm m') (ha : ¬ S a) (hr : ¬ S r) : Sgm g m' a r n s := ⟨Ob_f h.1 hF ha, Ia_f h.2.1 hF hr, h.2.2.1, h.2.2.2⟩
/-- new rows of ints, each put into a field of the object a -/
def Ars (g : GG) (m0 m : Mm) (a : Nat) (L : List (Nat × Nat)) : Prop := (∀ z ∈ L, Ia g m z.1 z.2 (fun _ => 0) ∧ z.1 ∉ m0.2) ∧ L.Pairwise (fun z w => z.1 ≠ w.1) ∧ Fr (fun b => b = a) m0 m
theorem Ars_nil {g : GG} {m : Mm} {a : Nat} : Ars g m m a [] := ⟨(fun _ h => nomatch h), List.Pairwise.nil, Fr_rf⟩
section C11
variable {g : GG} {t : Mt} {fr lc bc bs pc : Nat} {lo : List (Nat × Value)} {st : List Value} {mm : Mm} {Fi : Ou → Mm → Prop}
theorem V_nip {m0 m : Mm} {a ci k idx N : Nat} {ty : FieldType} {n : Int32} {fs : List Value} {L : List (Nat × Nat)} (hI : Ob m a ci fs) (hA : Ars g m0 m a L) (ha : a ∈ m0.2) (hF : PF t.1.cls idx ci k ty) (hi : t.1.name = "<init>") (hd : decode t.2.1 pc = .ok (.newarray .int, 2)) (hd2 : decode t.2.1 (pc + 2) = .ok (.putfield idx, 3)) (hn : ¬ n < 0) (hN : n.toNatClampNeg = N) (hb : N * 4 ≤ 536870912) (hnw : ∀ q, narrow ty (.ref q) = .ref q) (hfit : ∀ q, fits ty (.ref q) = true) (hlen : k < fs.length)
    (kk : ∀ (q : Nat) (m' : Mm), Ob m' a ci (fs.set k (.ref q)) → Ars g m0 m' a ((q, N) :: L) → V g t fr lc bc bs (pc + 2 + 3) lo st m' Fi) : V g t fr lc (bc + 1) (bs + N) pc lo (.int n :: .ref a :: st) m Fi := by
  refine V_newI ac_I hd hn hN hb (fun q hq => ?_)
  have h1 : Ob (ad m q (.inl (g.2.2.2.2 0, N, .inl (fun _ => 0)))) a ci fs := Ob_a hI hq
  have hqa : q ≠ a := fun z => hq (z ▸ hI.1)
  refine VputF hF hi hd2 h1 (hnw q) (hfit q) hlen (kk q _ (Ob_s h1) ⟨fun z hz => ?_, ?_, ?_⟩)
  · rcases List.mem_cons.mp hz with rfl | hz
    · exact ⟨Ia_n Ia_z hqa, fun y => hq (hA.2.2.1 _ y)⟩
    · obtain ⟨h2, h3⟩ := hA.1 z hz
      exact ⟨Ia_n (Ia_a h2 hq) (fun y => h3 (y ▸ ha)), h3⟩
  · exact List.Pairwise.cons (fun z hz (y : q = z.1) => hq (show q ∈ m.2 from y ▸ (hA.1 z hz).1.1)) hA.2.1
  · exact Fr_up (Fr_ad hA.2.2 hq) rfl
end C11
section C11b
variable {g : GG}
/-- a new edition -/
def EdN (g : GG) (mm : Mm) (e : Nat) (m' : Mm) : Prop := ∃ sa fa la za, Ob m' e 0 (edL sa fa la za 0 0 0) ∧ Qa g m' 2 sa 26 (fun _ => none) ∧ Rgs g m' fa la za (fun _ => 0) (fun _ => 0) (fun _ => 0) ∧ (fa ≠ la ∧ fa ≠ za ∧ la ≠ za) ∧ (sa ∉ mm.2 ∧ fa ∉ mm.2 ∧ la ∉ mm.2 ∧ za ∉ mm.2) ∧ Fr (fun b => b = e) mm m'
theorem c_E_init (hg : GO g) {mm : Mm} {e : Nat} (h : Ob mm e 0 [.null, .null, .null, .null, .int 0, .int 0, .int 0]) : CT g m_E_init 1 20 4 50 [.ref e] mm (fun o m' => o = .inl none ∧ EdN g mm e m') := by
  refine CT_go (lo := [(0, .ref e)]) rfl rfl rfl rfl hg ?_
  first | refine V_aload_n d_E_init_0 rfl rfl ?_ | refine V_aloadN_n d_E_init_0 rfl rfl ?_
  refine V_objI oi_E_3 oi_i oi_c d_E_init_1 ⟨by decide, by decide⟩ (Nat.le_of_ble_eq_true rfl) ?_
  first | refine V_aload_n d_E_init_4 rfl rfl ?_ | refine V_aloadN_n d_E_init_4 rfl rfl ?_
  refine V_bipush (v := 26) d_E_init_5 (by decide) ?_
  refine V_newA (j := 2) (n := 26) (N := 26) (bc := 3) (bs := 24) cl_E_9 ao_S (fun _ => rfl) d_E_init_7 (by decide) rfl (by decide) (fun sa hsa => ?_)
  have h1 : Ob (ad mm sa (.inl (g.2.2.2.2 2, 26, .inr (.inr (.inr (.inr (fun _ => none))))))) e 0 [.null, .null, .null, .null, .int 0, .int 0, .int 0] := Ob_a h hsa
  have hse : sa ≠ e := fun z => hsa (z ▸ h.1)
  refine VputF pf_E_11 rfl d_E_init_10 h1 rfl rfl (Nat.le_of_ble_eq_true rfl) ?_
  have h2 := Ob_s (ci := 0) (fs := [.ref sa, .null, .null, .null, .int 0, .int 0, .int 0]) h1
  have hQ : Qa g (up (ad mm sa (.inl (g.2.2.2.2 2, 26, .inr (.inr (.inr (.inr (fun _ => none))))))) e (.inr (0, [.ref sa, .null, .null, .null, .int 0, .int 0, .int 0]))) 2 sa 26 (fun _ => none) := Qa_n Qa_z hse
  have hF : Fr (fun b => b = e) mm (up (ad mm sa (.inl (g.2.2.2.2 2, 26, .inr (.inr (.inr (.inr (fun _ => none))))))) e (.inr (0, [.ref sa, .null, .null, .null, .int 0, .int 0, .int 0]))) := Fr_up (Fr_ad Fr_rf hsa) rfl
  refine ek_v (P := fun z => V g m_E_init 1 20 3 24 _ _ _ z _) (show _ = up (ad mm sa (.inl (g.2.2.2.2 2, 26, .inr (.inr (.inr (.inr (fun _ => none))))))) e (.inr (0, [.ref sa, .null, .null, .null, .int 0, .int 0, .int 0])) from rfl) ?_
  have hm : e ∈ (up (ad mm sa (.inl (g.2.2.2.2 2, 26, .inr (.inr (.inr (.inr (fun _ => none))))))) e (.inr (0, [.ref sa, .null, .null, .null, .int 0, .int 0, .int 0]))).2 := h2.1
  generalize up (ad mm sa (.inl (g.2.2.2.2 2, 26, .inr (.inr (.inr (.inr (fun _ => none))))))) e (.inr (0, [.ref sa, .null, .null, .null, .int 0, .int 0, .int 0])) = m1 at h2 hQ hF hm ⊢
  first | refine V_aload_n d_E_init_13 rfl rfl ?_ | refine V_aloadN_n d_E_init_13 rfl rfl ?_
  refine V_bipush (v := 8) d_E_init_14 (by decide) ?_
  refine V_nip (n := 8) (N := 8) (bc := 2) (bs := 16) h2 Ars_nil hm pf_E_17 rfl d_E_init_16 d_E_init_18 (by decide) rfl (by decide) (fun _ => rfl) (fun _ => rfl) (Nat.le_of_ble_eq_true rfl) (fun fa m2 h3 hA3 => ?_)
  first | refine V_aload_n d_E_init_21 rfl rfl ?_ | refine V_aloadN_n d_E_init_21 rfl rfl ?_
  refine V_bipush (v := 8) d_E_init_22 (by decide) ?_
  refine V_nip (n := 8) (N := 8) (bc := 1) (bs := 8) h3 hA3 hm pf_E_21 rfl d_E_init_24 d_E_init_26 (by decide) rfl (by decide) (fun _ => rfl) (fun _ => rfl) (Nat.le_of_ble_eq_true rfl) (fun la m3 h4 hA4 => ?_)
  first | refine V_aload_n d_E_init_29 rfl rfl ?_ | refine V_aloadN_n d_E_init_29 rfl rfl ?_
  refine V_bipush (v := 8) d_E_init_30 (by decide) ?_
  refine V_nip (n := 8) (N := 8) (bc := 0) (bs := 0) h4 hA4 hm pf_E_24 rfl d_E_init_32 d_E_init_34 (by decide) rfl (by decide) (fun _ => rfl) (fun _ => rfl) (Nat.le_of_ble_eq_true rfl) (fun za m4 h5 hA5 => ?_)
  refine V_vret d_E_init_37 rfl ⟨rfl, sa, fa, la, za, h5, Qa_f hQ hA5.2.2 hse, ?_⟩
  obtain ⟨a1, a2, a3⟩ := hA5
  have b1 := a1 (za, 8) (List.mem_cons_self)
  have b2 := a1 (la, 8) (List.mem_cons_of_mem _ List.mem_cons_self)
  have b3 := a1 (fa, 8) (List.mem_cons_of_mem _ (List.mem_cons_of_mem _ List.mem_cons_self))
  simp only [List.pairwise_cons, List.mem_cons, List.not_mem_nil, or_false, forall_eq_or_imp, forall_eq] at a2
  refine ⟨⟨b3.1, b2.1, b1.1⟩, ⟨Ne.symm a2.2.1, Ne.symm a2.1.2, Ne.symm a2.1.1⟩, ⟨hsa, fun z => b3.2 (hF.1 _ z), fun z => b2.2 (hF.1 _ z), fun z => b1.2 (hF.1 _ z)⟩, Fr_tr hF a3 (fun _ _ z => z)⟩
/-- the reader has a new draft -/
def RdN (g : GG) (mm : Mm) (rd ts p : Nat) (lk : Int32) (m' : Mm) : Prop := ∃ e sa fa la za, Ob m' rd 2 (rdL ts e p lk) ∧ Ob m' e 0 (edL sa fa la za 0 0 0) ∧ Qa g m' 2 sa 26 (fun _ => none) ∧ Rgs g m' fa la za (fun _ => 0) (fun _ => 0) (fun _ => 0) ∧ (fa ≠ la ∧ fa ≠ za ∧ la ≠ za) ∧ (e ∉ mm.2 ∧ sa ∉ mm.2 ∧ fa ∉ mm.2 ∧ la ∉ mm.2 ∧ za ∉ mm.2) ∧ Fr (fun b => b = rd) mm m'
theorem RdN_of {mm m2 : Mm} {rd ts e p : Nat} {lk : Int32} {v : Value} (h : Ob mm rd 2 [.ref ts, v, .int (nI p), .int lk]) (hq : e ∉ mm.2) (h2 : EdN g (ad mm e (.inr (0, [.null, .null, .null, .null, .int 0, .int 0, .int 0]))) e m2) : Ob m2 rd 2 [.ref ts, v, .int (nI p), .int lk] ∧ RdN g mm rd ts p lk (up m2 rd (.inr (2, [.ref ts, .ref e, .int (nI p), .int lk]))) := by
  obtain ⟨sa, fa, la, za, k1, k2, k3, k4, ⟨k5, k6, k7, k8⟩, k9⟩ := h2
  have hre : rd ≠ e := fun z => hq (z ▸ h.1)
  have hr2 : Ob m2 rd 2 [.ref ts, v, .int (nI p), .int lk] := Ob_f (Ob_a h hq) k9 hre
  have up' : ∀ {b}, b ∉ (ad mm e (.inr (0, [.null, .null, .null, .null, .int 0, .int 0, .int 0]))).2 → b ∉ mm.2 := fun hb z => hb (List.mem_append_left _ z)
  refine ⟨hr2, e, sa, fa, la, za, Ob_s hr2, Ob_n k1 (Ne.symm hre), Qa_n k2 (Ne.symm (Ob_neQ hr2 k2)), ⟨Ia_n k3.1 (Ne.symm (Ob_neI hr2 k3.1)), Ia_n k3.2.1 (Ne.symm (Ob_neI hr2 k3.2.1)), Ia_n k3.2.2 (Ne.symm (Ob_neI hr2 k3.2.2))⟩, k4, ⟨hq, up' k5, up' k6, up' k7, up' k8⟩, ?_⟩
  exact Fr_up (Fr_tr (S := fun b => b = rd) (Fr_ad Fr_rf hq) k9 (fun b hb z => absurd (show e ∈ mm.2 from z ▸ hb) hq)) rfl
theorem c_R_handOverDraft (hg : GO g) {mm : Mm} {rd ts ed p : Nat} {lk : Int32} (h : Ob mm rd 2 (rdL ts ed p lk)) : CT g m_R_handOverDraft 2 40 5 57 [.ref rd] mm (fun o m' => o = .inl (some (.ref ed)) ∧ RdN g mm rd ts p lk m') := by
  refine CT_go (lo := [(0, .ref rd)]) rfl rfl rfl rfl hg ?_
  first | refine V_aload_n d_R_handOverDraft_0 rfl rfl ?_ | refine V_aloadN_n d_R_handOverDraft_0 rfl rfl ?_
  refine Vget fl_R_18 d_R_handOverDraft_1 (by repeat first | assumption | apply Ob_s | apply Ob_n) rfl ?_
  first | refine V_astore_n d_R_handOverDraft_4 rfl rfl ?_ | refine V_astoreN_n d_R_handOverDraft_4 rfl rfl ?_
  first | refine V_aload_n d_R_handOverDraft_5 rfl rfl ?_ | refine V_aloadN_n d_R_handOverDraft_5 rfl rfl ?_
  refine V_new (bc := 4) (bs := 50) nl_R_15 d_R_handOverDraft_6 (fun e he => ?_)
  refine V_dup d_R_handOverDraft_9 rfl ?_
  have h0 : Ob (ad mm e (.inr (0, [.null, .null, .null, .null, .int 0, .int 0, .int 0]))) e 0 [.null, .null, .null, .null, .int 0, .int 0, .int 0] := Ob_z
  have c0 := c_E_init hg h0
  refine V_callI (bc := 0) (bs := 0) (mc' := 4) (ms' := 50) cb_E_init mi_R_17 rfl rfl rfl d_R_handOverDraft_10 c0 ⟨by decide, by decide⟩ rfl rfl (Nat.le_of_ble_eq_true rfl) (fun _ _ h => nomatch h.1) (fun v m2 hR => ?_)
  obtain ⟨hv9, hE⟩ := hR
  cases hv9
  obtain ⟨h2, hN⟩ := RdN_of h he hE
  refine Vput pl_R_18 d_R_handOverDraft_13 (by repeat first | assumption | apply Ob_s | apply Ob_n) rfl rfl (Nat.le_of_ble_eq_true rfl) ?_
  first | refine V_aload_n d_R_handOverDraft_16 rfl rfl ?_ | refine V_aloadN_n d_R_handOverDraft_16 rfl rfl ?_
  exact V_aret (r := some ed) d_R_handOverDraft_17 rfl (Or.inl ⟨_, rfl⟩) ⟨rfl, hN⟩
theorem c_R_init (hg : GO g) {mm : Mm} {rd ts : Nat} (h : Ob mm rd 2 [.null, .null, .int 0, .int 0]) : CT g m_R_init 2 40 5 57 [.ref rd, .ref ts] mm (fun o m' => o = .inl none ∧ RdN g (up mm rd (.inr (2, [.ref ts, .null, .int 0, .int 0]))) rd ts 0 0 m') := by
  refine CT_go (lo := [(0, .ref rd), (1, .ref ts)]) rfl rfl rfl rfl hg ?_
  first | refine V_aload_n d_R_init_0 rfl rfl ?_ | refine V_aloadN_n d_R_init_0 rfl rfl ?_
  refine V_objI oi_R_3 oi_i oi_c d_R_init_1 ⟨by decide, by decide⟩ (Nat.le_of_ble_eq_true rfl) ?_
  first | refine V_aload_n d_R_init_4 rfl rfl ?_ | refine V_aloadN_n d_R_init_4 rfl rfl ?_
  first | refine V_aload_n d_R_init_5 rfl rfl ?_ | refine V_aloadN_n d_R_init_5 rfl rfl ?_
  refine VputF pf_R_9 rfl d_R_init_6 (by repeat first | assumption | apply Ob_s | apply Ob_n) rfl rfl (Nat.le_of_ble_eq_true rfl) ?_
  first | refine V_aload_n d_R_init_9 rfl rfl ?_ | refine V_aloadN_n d_R_init_9 rfl rfl ?_
  have h1 : Ob (up mm rd (.inr (2, [.ref ts, .null, .int 0, .int 0]))) rd 2 [.ref ts, .null, .int (nI 0), .int 0] := Ob_s h
  refine V_new (bc := 4) (bs := 50) nl_R_15 d_R_init_10 (fun e he => ?_)
  refine V_dup d_R_init_13 rfl ?_
  have h0 : Ob (ad (up mm rd (.inr (2, [.ref ts, .null, .int 0, .int 0]))) e (.inr (0, [.null, .null, .null, .null, .int 0, .int 0, .int 0]))) e 0 [.null, .null, .null, .null, .int 0, .int 0, .int 0] := Ob_z
  have c0 := c_E_init hg h0
  refine V_callI (bc := 0) (bs := 0) (mc' := 4) (ms' := 50) cb_E_init mi_R_17 rfl rfl rfl d_R_init_14 c0 ⟨by decide, by decide⟩ rfl rfl (Nat.le_of_ble_eq_true rfl) (fun _ _ h => nomatch h.1) (fun v m2 hR => ?_)
  obtain ⟨hv9, hE⟩ := hR
  cases hv9
  obtain ⟨h2, hN⟩ := RdN_of h1 he hE
  refine Vput pl_R_18 d_R_init_17 (by repeat first | assumption | apply Ob_s | apply Ob_n) rfl rfl (Nat.le_of_ble_eq_true rfl) ?_
  exact V_vret d_R_init_20 rfl ⟨rfl, hN⟩
theorem c_G_init (hg : GO g) {mm : Mm} {a n : Nat} (h : Ob mm a 4 [.null, .int 0]) (hn : n < 1000) (h0 : 0 < n) : CT g m_G_init 1 20 1 n [.ref a, .int (nI n)] mm (fun o m' => o = .inl none ∧ ∃ r, Sgm g m' a r n (fun _ => 0, 0) ∧ r ∉ mm.2 ∧ Fr (fun b => b = a) mm m') := by
  refine CT_go (lo := [(0, .ref a), (1, .int (nI n))]) rfl rfl rfl rfl hg ?_
  first | refine V_aload_n d_G_init_0 rfl rfl ?_ | refine V_aloadN_n d_G_init_0 rfl rfl ?_
  refine V_objI oi_G_1 oi_i oi_c d_G_init_1 ⟨by decide, by decide⟩ (Nat.le_of_ble_eq_true rfl) ?_
  first | refine V_aload_n d_G_init_4 rfl rfl ?_ | refine V_aloadN_n d_G_init_4 rfl rfl ?_
  refine V_iload_n d_G_init_5 rfl rfl ?_
  refine V_if_le (tgt := 13) d_G_init_6 (by decide) (fun h_6 => ?_) (fun h_6 => ?_)
  · exact absurd h_6 (by rw [Int32.le_iff_toInt_le, nI_toInt (by omega), Int32.toInt_zero]; omega)
  · refine V_iload_n d_G_init_9 rfl rfl ?_
    refine V_goto (tgt := 14) d_G_init_10 (by decide) ?_
    refine V_bud (bc' := 0 + 1) (bs' := 0 + n) (by omega) (by omega) ?_
    refine V_nip h Ars_nil h.1 pf_G_7 rfl d_G_init_14 d_G_init_16 (nI_pos (by omega)) (nI_clamp (by omega)) (by omega) (fun _ => rfl) (fun _ => rfl) (Nat.le_of_ble_eq_true rfl) (fun q m' h1 hA => ?_)
    exact V_vret d_G_init_19 rfl ⟨rfl, q, ⟨h1, (hA.1 _ List.mem_cons_self).1, Nat.zero_le _, hn⟩, (hA.1 _ List.mem_cons_self).2, hA.2.2⟩
theorem c_K_init (hg : GO g) {mm : Mm} {a : Nat} (h : Ob mm a 1 [.null, .null, .int 0]) : CT g m_K_init 1 20 2 16 [.ref a] mm (fun o m' => o = .inl none ∧ ∃ kl kp, Ob m' a 1 [.ref kl, .ref kp, .int 0] ∧ Ia g m' kl 8 (fun _ => 0) ∧ Ia g m' kp 8 (fun _ => 0) ∧ kl ≠ kp ∧ kl ∉ mm.2 ∧ kp ∉ mm.2 ∧ Fr (fun b => b = a) mm m') := by
  refine CT_go (lo := [(0, .ref a)]) rfl rfl rfl rfl hg ?_
  first | refine V_aload_n d_K_init_0 rfl rfl ?_ | refine V_aloadN_n d_K_init_0 rfl rfl ?_
  refine V_objI oi_K_3 oi_i oi_c d_K_init_1 ⟨by decide, by decide⟩ (Nat.le_of_ble_eq_true rfl) ?_
  first | refine V_aload_n d_K_init_4 rfl rfl ?_ | refine V_aloadN_n d_K_init_4 rfl rfl ?_
  refine V_bipush (v := 8) d_K_init_5 (by decide) ?_
  refine V_nip (n := 8) (N := 8) (bc := 1) (bs := 8) h Ars_nil h.1 pf_K_9 rfl d_K_init_7 d_K_init_9 (by decide) rfl (by decide) (fun _ => rfl) (fun _ => rfl) (Nat.le_of_ble_eq_true rfl) (fun kl m1 h1 hA1 => ?_)
  first | refine V_aload_n d_K_init_12 rfl rfl ?_ | refine V_aloadN_n d_K_init_12 rfl rfl ?_
  refine V_bipush (v := 8) d_K_init_13 (by decide) ?_
  refine V_nip (n := 8) (N := 8) (bc := 0) (bs := 0) h1 hA1 h.1 pf_K_15 rfl d_K_init_15 d_K_init_17 (by decide) rfl (by decide) (fun _ => rfl) (fun _ => rfl) (Nat.le_of_ble_eq_true rfl) (fun kp m2 h2 hA2 => ?_)
  obtain ⟨a1, a2, a3⟩ := hA2
  have b1 := a1 (kp, 8) List.mem_cons_self
  have b2 := a1 (kl, 8) (List.mem_cons_of_mem _ List.mem_cons_self)
  simp only [List.pairwise_cons, List.mem_cons, List.not_mem_nil, or_false, forall_eq] at a2
  exact V_vret d_K_init_20 rfl ⟨rfl, kl, kp, h2, b2.1, b1.1, Ne.symm a2.1, b2.2, b1.2, a3⟩
/-! the ranking -/
theorem c_K_clear (hg : GO g) {mm : Mm} {a kl kp : Nat} {n : Int32} (h : Ob mm a 1 [.ref kl, .ref kp, .int n]) : CT g m_K_clear 0 0 0 0 [.ref a] mm (Re none (up mm a (.inr (1, [.ref kl, .ref kp, .int 0])))) := by
  refine CT_go (lo := [(0, .ref a)]) rfl rfl rfl rfl hg ?_
  first | refine V_aload_n d_K_clear_0 rfl rfl ?_ | refine V_aloadN_n d_K_clear_0 rfl rfl ?_
  refine V_iconst (v := 0) d_K_clear_1 (by decide) ?_
  refine Vput pl_K_18 d_K_clear_2 (by repeat first | assumption | apply Ob_s | apply Ob_n) rfl rfl (Nat.le_of_ble_eq_true rfl) ?_
  exact V_vret d_K_clear_5 rfl ⟨rfl, rfl⟩
theorem c_K_letterAt (hg : GO g) {mm : Mm} {a kl kp n : Nat} {f : Fw} (h : Ob mm a 1 [.ref kl, .ref kp, .int (nI n)]) (hl : Ia g mm kl 8 f) (hn : n ≤ 8) (i : Int32) : CT g m_K_letterAt 0 0 0 0 [.ref a, .int i] mm (Re (some (.int (sAt (f, n) i))) mm) := by
  refine CT_go (lo := [(0, .ref a), (1, .int i)]) rfl rfl rfl rfl hg ?_
  refine V_iload_n d_K_letterAt_0 rfl rfl ?_
  refine V_if_lt (tgt := 27) d_K_letterAt_1 (by decide) (fun h_1 => ?_) (fun h_1 => ?_)
  · refine V_iconst (v := -1) d_K_letterAt_27 (by decide) ?_
    refine V_iret d_K_letterAt_28 rfl rfl ?_
    first | exact absurd (nI_tr (by omega) (by omega) (show nI 8 ≤ i from ‹(8 : Int32) ≤ i›)) ‹¬ nI n ≤ i› | (refine ⟨?_, rfl⟩; simp only [sAt]; first | rw [if_pos ‹i < 0›] | rw [if_neg ‹¬ i < 0›, if_pos ‹nI n ≤ i›] | rw [if_neg ‹¬ i < 0›, if_neg ‹¬ nI n ≤ i›])
  · refine V_iload_n d_K_letterAt_4 rfl rfl ?_
    first | refine V_aload_n d_K_letterAt_5 rfl rfl ?_ | refine V_aloadN_n d_K_letterAt_5 rfl rfl ?_
    refine Vget fl_K_18 d_K_letterAt_6 (by repeat first | assumption | apply Ob_s | apply Ob_n) rfl ?_
    refine V_icmp_ge (tgt := 27) d_K_letterAt_9 (by decide) (fun h_9 => ?_) (fun h_9 => ?_)
    · refine V_iconst (v := -1) d_K_letterAt_27 (by decide) ?_
      refine V_iret d_K_letterAt_28 rfl rfl ?_
      first | exact absurd (nI_tr (by omega) (by omega) (show nI 8 ≤ i from ‹(8 : Int32) ≤ i›)) ‹¬ nI n ≤ i› | (refine ⟨?_, rfl⟩; simp only [sAt]; first | rw [if_pos ‹i < 0›] | rw [if_neg ‹¬ i < 0›, if_pos ‹nI n ≤ i›] | rw [if_neg ‹¬ i < 0›, if_neg ‹¬ nI n ≤ i›])
    · refine V_iload_n d_K_letterAt_12 rfl rfl ?_
      refine V_bipush (v := 8) d_K_letterAt_13 (by decide) ?_
      refine V_icmp_ge (tgt := 27) d_K_letterAt_15 (by decide) (fun h_15 => ?_) (fun h_15 => ?_)
      · refine V_iconst (v := -1) d_K_letterAt_27 (by decide) ?_
        refine V_iret d_K_letterAt_28 rfl rfl ?_
        first | exact absurd (nI_tr (by omega) (by omega) (show nI 8 ≤ i from ‹(8 : Int32) ≤ i›)) ‹¬ nI n ≤ i› | (refine ⟨?_, rfl⟩; simp only [sAt]; first | rw [if_pos ‹i < 0›] | rw [if_neg ‹¬ i < 0›, if_pos ‹nI n ≤ i›] | rw [if_neg ‹¬ i < 0›, if_neg ‹¬ nI n ≤ i›])
      · first | refine V_aload_n d_K_letterAt_18 rfl rfl ?_ | refine V_aloadN_n d_K_letterAt_18 rfl rfl ?_
        refine Vget fl_K_9 d_K_letterAt_19 (by repeat first | assumption | apply Ob_s | apply Ob_n) rfl ?_
        refine V_iload_n d_K_letterAt_22 rfl rfl ?_
        refine Viald d_K_letterAt_23 (by repeat first | assumption | apply Ia_s | apply Ia_n) (by exact in_of h_1 (show ¬ nI 8 ≤ i from h_15) (by omega)) ?_
        refine V_goto (tgt := 28) d_K_letterAt_24 (by decide) ?_
        refine V_iret d_K_letterAt_28 rfl rfl ?_
        first | exact absurd (nI_tr (by omega) (by omega) (show nI 8 ≤ i from ‹(8 : Int32) ≤ i›)) ‹¬ nI n ≤ i› | (refine ⟨?_, rfl⟩; simp only [sAt]; first | rw [if_pos ‹i < 0›] | rw [if_neg ‹¬ i < 0›, if_pos ‹nI n ≤ i›] | rw [if_neg ‹¬ i < 0›, if_neg ‹¬ nI n ≤ i›])
def insF (c p : Int32) : Nat → Fw × Fw → Fw × Fw
  | 0, s => (upd s.1 0 c, upd s.2 0 p)
  | j + 1, s => if s.2 j ≤ p then (upd s.1 (j + 1) c, upd s.2 (j + 1) p) else insF c p j (upd s.1 (j + 1) (s.1 j), upd s.2 (j + 1) (s.2 j))
def kM (g : GG) (mm : Mm) (kl kp : Nat) (s : Fw × Fw) : Mm := up (up mm kl (.inl (g.2.2.2.2 0, 8, .inl s.1))) kp (.inl (g.2.2.2.2 0, 8, .inl s.2))
theorem nI_sub1 (n : Nat) : nI (n + 1) - 1 = nI n := by rw [nI_succ, Int32.add_sub_cancel]
theorem kM_up {mm : Mm} {kl kp : Nat} {s : Fw × Fw} {f h : Fw} (hne : kl ≠ kp) : up (up (kM g mm kl kp s) kl (.inl (g.2.2.2.2 0, 8, .inl f))) kp (.inl (g.2.2.2.2 0, 8, .inl h)) = kM g mm kl kp (f, h) := by
  unfold kM
  rw [up_com (a := kl) (b := kp) hne, up_up, up_com (a := kp) (b := kl) (Ne.symm hne), up_up]
set_option maxRecDepth 20000 in
theorem l_K_insert (hg : GO g) {mm : Mm} {a kl kp n : Nat} {f0 p0 : Fw} (h : Ob mm a 1 [.ref kl, .ref kp, .int (nI n)]) (hl : Ia g mm kl 8 f0) (hp : Ia g mm kp 8 p0) (hne : kl ≠ kp) (c p : Int32) {Fi : Ou → Mm → Prop} : ∀ (j : Nat) (s : Fw × Fw) (x : List (Nat × Value)), j < 8 → chk [(0, .ref a), (1, .int c), (2, .int p), (3, .int (nI j))] x → Fi (.inl none) (up (kM g mm kl kp (insF c p j s)) a (.inr (1, [.ref kl, .ref kp, .int (nI (n + 1))]))) → V g m_K_insert 0 0 0 0 22 x [] (kM g mm kl kp s) Fi := by
  have n1 := Ob_neI h hl
  have n2 := Ob_neI h hp
  have hkl : ∀ s, Ia g (kM g mm kl kp s) kl 8 s.1 := fun s => Ia_n (Ia_s hl) hne
  have hkp : ∀ s, Ia g (kM g mm kl kp s) kp 8 s.2 := fun s => Ia_s (Ia_n hp (Ne.symm hne))
  have hob : ∀ s, Ob (kM g mm kl kp s) a 1 [.ref kl, .ref kp, .int (nI n)] := fun s => Ob_n (Ob_n h n1) n2
  have hne' := Ne.symm hne
  -- the end: letter and price are put at place j
  have fin : ∀ (j : Nat) (s : Fw × Fw) (x : List (Nat × Value)), j < 8 → chk [(0, .ref a), (1, .int c), (2, .int p), (3, .int (nI j))] x → Fi (.inl none) (up (kM g mm kl kp (upd s.1 j c, upd s.2 j p)) a (.inr (1, [.ref kl, .ref kp, .int (nI (n + 1))]))) → V g m_K_insert 0 0 0 0 72 x [] (kM g mm kl kp s) Fi := by
    intro j s x hj hx hF
    have i1 := hkl s
    have i2 := hkp s
    have i3 := hob s
    have hin : vp_in (nI j) 8 := vp_nI hj (by omega)
    refine V_lo _ hx ?_
    first | refine V_aload_n d_K_insert_72 rfl rfl ?_ | refine V_aloadN_n d_K_insert_72 rfl rfl ?_
    refine Vget fl_K_9 d_K_insert_73 (by repeat first | assumption | apply Ob_s | apply Ob_n) rfl ?_
    refine V_iload_n d_K_insert_76 rfl rfl ?_
    refine V_iload_n d_K_insert_77 rfl rfl ?_
    refine Viast d_K_insert_78 (by repeat first | assumption | apply Ia_s | apply Ia_n) (by assumption) ?_
    first | refine V_aload_n d_K_insert_79 rfl rfl ?_ | refine V_aloadN_n d_K_insert_79 rfl rfl ?_
    refine Vget fl_K_15 d_K_insert_80 (by repeat first | assumption | apply Ob_s | apply Ob_n) rfl ?_
    refine V_iload_n d_K_insert_83 rfl rfl ?_
    refine V_iload_n d_K_insert_84 rfl rfl ?_
    refine Viast d_K_insert_85 (by repeat first | assumption | apply Ia_s | apply Ia_n) (by assumption) ?_
    rw [nI_clamp (by omega)]
    refine ek_v (P := fun z => V g m_K_insert 0 0 0 0 _ _ _ z _) (kM_up hne) ?_
    have i4 := hob (upd s.1 j c, upd s.2 j p)
    first | refine V_aload_n d_K_insert_86 rfl rfl ?_ | refine V_aloadN_n d_K_insert_86 rfl rfl ?_
    refine V_dup d_K_insert_87 rfl ?_
    refine Vget fl_K_18 d_K_insert_88 (by repeat first | assumption | apply Ob_s | apply Ob_n) rfl ?_
    refine V_iconst (v := 1) d_K_insert_91 (by decide) ?_
    refine V_iadd d_K_insert_92 ?_
    refine Vput pl_K_18 d_K_insert_93 (by repeat first | assumption | apply Ob_s | apply Ob_n) rfl rfl (Nat.le_of_ble_eq_true rfl) ?_
    refine V_vret d_K_insert_96 rfl ?_
    rw [nI_succ] at hF
    exact hF
  intro j
  induction j with
  | zero =>
    intro s x hj hx hF
    refine V_lo _ hx ?_
    refine V_iload_n d_K_insert_22 rfl rfl ?_
    refine V_if_le (tgt := 72) d_K_insert_23 (by decide) (fun h_23 => ?_) (fun h_23 => ?_)
    · exact fin 0 s _ hj ⟨rfl, rfl, rfl, rfl, trivial⟩ hF
    · exact absurd (by decide) h_23
  | succ j ih =>
    intro s x hj hx hF
    have i1 := hkl s
    have i2 := hkp s
    have i3 := hob s
    have hin : vp_in (nI j) 8 := vp_nI (by omega) (by omega)
    have hin1 : vp_in (nI (j + 1)) 8 := vp_nI (by omega) (by omega)
    refine V_lo _ hx ?_
    refine V_iload_n d_K_insert_22 rfl rfl ?_
    refine V_if_le (tgt := 72) d_K_insert_23 (by decide) (fun h_23 => ?_) (fun h_23 => ?_)
    · exact absurd h_23 (by rw [Int32.le_iff_toInt_le, nI_toInt (by omega), Int32.toInt_zero]; omega)
    · first | refine V_aload_n d_K_insert_26 rfl rfl ?_ | refine V_aloadN_n d_K_insert_26 rfl rfl ?_
      refine Vget fl_K_15 d_K_insert_27 (by repeat first | assumption | apply Ob_s | apply Ob_n) rfl ?_
      refine V_iload_n d_K_insert_30 rfl rfl ?_
      refine V_iconst (v := 1) d_K_insert_31 (by decide) ?_
      refine V_isub d_K_insert_32 ?_
      rw [nI_sub1]
      refine Viald d_K_insert_33 (by repeat first | assumption | apply Ia_s | apply Ia_n) (by assumption) ?_
      rw [nI_clamp (by omega)]
      refine V_iload_n d_K_insert_34 rfl rfl ?_
      refine V_icmp_le (tgt := 72) d_K_insert_35 (by decide) (fun h_35 => ?_) (fun h_35 => ?_)
      · rw [insF, if_pos h_35] at hF
        exact fin (j + 1) s _ hj ⟨rfl, rfl, rfl, rfl, trivial⟩ hF
      · rw [insF, if_neg h_35] at hF
        first | refine V_aload_n d_K_insert_38 rfl rfl ?_ | refine V_aloadN_n d_K_insert_38 rfl rfl ?_
        refine Vget fl_K_9 d_K_insert_39 (by repeat first | assumption | apply Ob_s | apply Ob_n) rfl ?_
        refine V_iload_n d_K_insert_42 rfl rfl ?_
        first | refine V_aload_n d_K_insert_43 rfl rfl ?_ | refine V_aloadN_n d_K_insert_43 rfl rfl ?_
        refine Vget fl_K_9 d_K_insert_44 (by repeat first | assumption | apply Ob_s | apply Ob_n) rfl ?_
        refine V_iload_n d_K_insert_47 rfl rfl ?_
        refine V_iconst (v := 1) d_K_insert_48 (by decide) ?_
        refine V_isub d_K_insert_49 ?_
        rw [nI_sub1]
        refine Viald d_K_insert_50 (by repeat first | assumption | apply Ia_s | apply Ia_n) (by assumption) ?_
        refine Viast d_K_insert_51 (by repeat first | assumption | apply Ia_s | apply Ia_n) (by assumption) ?_
        rw [nI_clamp (by omega), nI_clamp (by omega)]
        first | refine V_aload_n d_K_insert_52 rfl rfl ?_ | refine V_aloadN_n d_K_insert_52 rfl rfl ?_
        refine Vget fl_K_15 d_K_insert_53 (by repeat first | assumption | apply Ob_s | apply Ob_n) rfl ?_
        refine V_iload_n d_K_insert_56 rfl rfl ?_
        first | refine V_aload_n d_K_insert_57 rfl rfl ?_ | refine V_aloadN_n d_K_insert_57 rfl rfl ?_
        refine Vget fl_K_15 d_K_insert_58 (by repeat first | assumption | apply Ob_s | apply Ob_n) rfl ?_
        refine V_iload_n d_K_insert_61 rfl rfl ?_
        refine V_iconst (v := 1) d_K_insert_62 (by decide) ?_
        refine V_isub d_K_insert_63 ?_
        rw [nI_sub1]
        refine Viald d_K_insert_64 (by repeat first | assumption | apply Ia_s | apply Ia_n) (by assumption) ?_
        refine Viast d_K_insert_65 (by repeat first | assumption | apply Ia_s | apply Ia_n) (by assumption) ?_
        rw [nI_clamp (by omega), nI_clamp (by omega)]
        refine ek_v (P := fun z => V g m_K_insert 0 0 0 0 _ _ _ z _) (kM_up hne) ?_
        refine V_iinc d_K_insert_66 rfl (nI_dec _) rfl ?_
        refine V_goto (tgt := 22) d_K_insert_69 (by decide) ?_
        exact ih _ _ (by omega) ⟨rfl, rfl, rfl, rfl, trivial⟩ hF
theorem kM_id {mm : Mm} {kl kp : Nat} {f p : Fw} (hl : Ia g mm kl 8 f) (hp : Ia g mm kp 8 p) : kM g mm kl kp (f, p) = mm := by
  unfold kM
  rw [up_id hl.2, up_id hp.2]
theorem c_K_insert (hg : GO g) {mm : Mm} {a kl kp n : Nat} {f0 p0 : Fw} (h : Ob mm a 1 [.ref kl, .ref kp, .int (nI n)]) (hl : Ia g mm kl 8 f0) (hp : Ia g mm kp 8 p0) (hne : kl ≠ kp) (hn : n < 8) (c p : Int32) : CT g m_K_insert 0 0 0 0 [.ref a, .int c, .int p] mm (Re none (up (kM g mm kl kp (insF c p n (f0, p0))) a (.inr (1, [.ref kl, .ref kp, .int (nI (n + 1))])))) := by
  refine CT_go (lo := [(0, .ref a), (1, .int c), (2, .int p)]) rfl rfl rfl rfl hg ?_
  first | refine V_aload_n d_K_insert_0 rfl rfl ?_ | refine V_aloadN_n d_K_insert_0 rfl rfl ?_
  refine Vget fl_K_18 d_K_insert_1 (by repeat first | assumption | apply Ob_s | apply Ob_n) rfl ?_
  refine V_if_lt (tgt := 16) d_K_insert_4 (by decide) (fun h_4 => ?_) (fun h_4 => ?_)
  · exact absurd h_4 (nI_pos (by omega))
  · first | refine V_aload_n d_K_insert_7 rfl rfl ?_ | refine V_aloadN_n d_K_insert_7 rfl rfl ?_
    refine Vget fl_K_18 d_K_insert_8 (by repeat first | assumption | apply Ob_s | apply Ob_n) rfl ?_
    refine V_bipush (v := 8) d_K_insert_11 (by decide) ?_
    refine V_icmp_lt (tgt := 17) d_K_insert_13 (by decide) (fun h_13 => ?_) (fun h_13 => ?_)
    · first | refine V_aload_n d_K_insert_17 rfl rfl ?_ | refine V_aloadN_n d_K_insert_17 rfl rfl ?_
      refine Vget fl_K_18 d_K_insert_18 (by repeat first | assumption | apply Ob_s | apply Ob_n) rfl ?_
      refine V_istore_n d_K_insert_21 rfl rfl ?_
      refine ek_v (P := fun z => V g m_K_insert 0 0 0 0 _ _ _ z _) (kM_id hl hp).symm ?_
      exact l_K_insert hg h hl hp hne c p n (f0, p0) _ hn ⟨rfl, rfl, rfl, rfl, trivial⟩ ⟨rfl, rfl⟩
    · exact absurd ((nI_ltI (b := 8) (by omega) (by omega)).mpr hn) h_13
end C11b
