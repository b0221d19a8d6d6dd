/-! THE COMPONENT: Reader: readWord -/
def rwJ (h h' : PH) (sz m : Int) (D : Nat) (s s' : RS) : Prop := Srn (chR h sz) sz m s s' ∧ lowQ D s s' ∧ lowT D s s' ∧ rbg s' D = 1 ∧ rat s ≤ rat s' ∧ rat s' ≤ sz ∧ gI h' pRe 6 = skA (chR h sz) sz (rat s') ∧ SWl h' s' D ∧ SWt h' s' D ∧ SWs h' s' D ∧ flK h h' ∧ FrP Prr h h'
theorem step_Re_readWord (d : Nat) (hm_Re_readFactor : MetP y_Re_readFactor (md_Re_readFactor d) (fun _ => 0) (fun _ => 0) (Ct_Re_readFactor d)) : MetP y_Re_readWord (md_Re_readWord (d + 1)) (fun _ => 0) (fun _ => 0) (Ct_Re_readWord (d + 1)) := by
  refine metL1 (body := (B_Re_readWord_0 (Ct_Re_readFactor d))) (B1 := B_Re_readWord_70 (Ct_Re_readFactor d)) (by decide) rfl rfl (fun lc lz => S_Re_readWord_0 d lc lz hm_Re_readFactor) (fun lc lz => S_Re_readWord_70 d lc lz hm_Re_readFactor) ?_
  intro av h post hc hH hav
  unfold Ct_Re_readWord at hc
  split at hc
  rotate_left
  · exact hc.elim
  rename_i p dep
  obtain ⟨rfl, sz, m, D, s, rfl, D8, hc, hl, hb, hpl, r0, r1, ea, hS, hT, hd, hp⟩ := hc
  refine ⟨Nat.le_of_ble_eq_true rfl, ?_⟩
  obtain ⟨w, h4, h5, z0, z1, h7, m1, m5⟩ := id hc
  obtain ⟨ch, hch⟩ : ∃ ch, ch = chR h sz := ⟨_, rfl⟩
  unfold wdO at hp
  rw [← hch] at hp
  have e1 := sm_re
  have e2 := sm_i D
  have kr := skA_le (ch := ch) r1
  -- after a factor
  have nxt : ∀ (h1 h2 : PH) (s1 : RS) (v : Int), FrP Prr h h1 → flK h h1 → Srn ch sz m s s1 → lowQ D s s1 → lowT D s s1 → rat s ≤ rat s1 → FrP Prr h1 h2 → faO h1 h2 sz m D s1 v → (v ≠ 0 → ∃ s2, rwJ h h2 sz m D s s2 ∧ gI h1 pRe 6 < gI h2 pRe 6) ∧ (v = 0 → post (some (.inl 0)) h2 ∧ hC h2 = hC h ∧ hZ h2 = hZ h) := by
    intro h1 h2 s1 v f1 fl1 g1 g2 g3 g4 f2 o
    have ec : chR h1 sz = ch := by rw [hch]; exact chR_fr f1
    unfold faO at o
    rw [ec] at o
    have f3 := FrP_trans f1 f2
    refine ⟨fun v0 => ?_, fun v0 => ?_⟩
    · obtain ⟨-, s2, y1, y2, y3, y4, y5, y6, y7, y8, y9, y10, y11, y12⟩ := o.resolve_right (fun z => v0 z.1)
      refine ⟨s2, ⟨by rw [← hch]; exact Srn_trans g1 y1, lowQ_trans g2 y2, ⟨y3.1.trans g3.1, y3.2.trans g3.2⟩, y4, by omega, y6, by rw [← hch]; exact y8, y9, y10, y11, ⟨y12.1.trans fl1.1, y12.2.trans fl1.2⟩, f3⟩, y7⟩
    · obtain ⟨-, no⟩ := o.resolve_left (fun z => by rw [v0] at z; exact absurd z.1 (by decide))
      exact ⟨hp h2 0 f3 (Or.inr ⟨rfl, rNo_Srn g1 no⟩), f3.2.2.2.1, f3.2.2.2.2⟩
  refine ⟨fun ls h' => ∃ (k : Int) (s' : RS), ls = [some (.inr (.inl (some pRe))), some (.inl (D : Int)), some (.inl k)] ∧ rwJ h h' sz m D s s' ∧ 1 ≤ k ∧ k ≤ gI h' pRe 6, fun _ ls _ => (1000 - locI ls 2).toNat, ?_, ?_⟩
  · rintro ls h1 ⟨k, s1, rfl, ⟨y1, y2, y3, y4, y5, y6, y7, y8, y9, y10, y11, f1⟩, k0, k1⟩
    have w1 := FrP_CW f1 w
    have rc1 := rC_fr f1 hc
    have ec : chR h1 sz = ch := by rw [hch]; exact chR_fr f1
    rw [← hch] at y1 y7
    have ks := skA_le (ch := ch) y6
    have cb : -1 ≤ ch (gI h1 pRe 6) ∧ ch (gI h1 pRe 6) ≤ 255 := by
      rw [hch]; unfold chR
      split <;> omega
    have fin : ¬ bgF m (ch (gI h1 pRe 6)) → post (some (.inl 1)) h1 ∧ hC h1 = hC h ∧ hZ h1 = hZ h := fun z =>
      ⟨hp h1 1 f1 (Or.inl ⟨rfl, s1, y1, y2, y3, Or.inr ⟨y4, by rw [← y7]; exact z⟩, y5, y6, y7, y8, y9, y10, y11⟩), f1.2.2.2.1, f1.2.2.2.2⟩
    simp (decide := true) only [↓E_Re_readWord_0, ↓E_Re_readWord_10, ↓E_Re_readWord_20, ↓E_Re_readWord_58, ↓E_Re_readWord_68, ↓E_Re_readWord_70, ↓E_Re_readWord_98, ↓E_Re_readWord_104, ↓ce_Re_stop, ↓ce_Wo_clear, ↓ce_Re_skipBlanks, ↓ce_Re_peek, ↓ce_Re_readFactor, ↓ce_Re_beginsFactor, ↓e_ci, ↓e_cl, ↓e_nul, ↓e_add, ↓e_sub, ↓e_mul, ↓e_ladd, ↓e_lmul, ↓e_div, ↓e_rem, ↓e_ldiv, ↓e_lrem, ↓e_zeq, ↓e_zne, ↓e_zlt, ↓e_zge, ↓e_zgt, ↓e_zle, ↓e_ceq, ↓e_cne, ↓e_clt, ↓e_cge, ↓e_cgt, ↓e_cle, ↓e_nn, ↓e_gI, ↓e_gR, ↓e_pI, ↓e_pZ, ↓e_pR, ↓e_ia, ↓e_ba, ↓e_za, ↓e_iS, ↓e_bS, ↓e_zS, ↓e_aa, ↓e_aS, ↓e_len, ↓e_and, ↓e_xor, ↓e_shr, ↓e_ushr, ↓e_lcmp, ↓e_i2b, ↓e_i2l, ↓e_l2i, ↓e_sw, ↓e_min, ↓e_max, ↓e_acp, ↓e_il_0, ↓e_al_0, ↓e_ll_0, ↓e_is_0n, ↓e_as_0n, ↓e_ls_0n, ↓e_inc_0n, ↓e_il_1, ↓e_al_1, ↓e_ll_1, ↓e_is_1i, ↓e_as_1i, ↓e_ls_1i, ↓e_inc_1i, ↓e_is_1o, ↓e_as_1o, ↓e_ls_1o, ↓e_inc_1o, ↓e_is_1n, ↓e_as_1n, ↓e_ls_1n, ↓e_inc_1n, ↓e_il_2, ↓e_al_2, ↓e_ll_2, ↓e_is_2i, ↓e_as_2i, ↓e_ls_2i, ↓e_inc_2i, ↓e_is_2o, ↓e_as_2o, ↓e_ls_2o, ↓e_inc_2o, ↓e_is_2n, ↓e_as_2n, ↓e_ls_2n, ↓e_inc_2n, ↓e_il_3, ↓e_al_3, ↓e_ll_3, ↓e_is_3i, ↓e_as_3i, ↓e_ls_3i, ↓e_inc_3i, ↓e_is_3o, ↓e_as_3o, ↓e_ls_3o, ↓e_inc_3o, ↓e_is_3n, ↓e_as_3n, ↓e_ls_3n, ↓e_inc_3n, ↓e_il_4, ↓e_al_4, ↓e_ll_4, ↓e_is_4i, ↓e_as_4i, ↓e_ls_4i, ↓e_inc_4i, ↓e_is_4o, ↓e_as_4o, ↓e_ls_4o, ↓e_inc_4o, ↓e_is_4n, ↓e_as_4n, ↓e_ls_4n, ↓e_inc_4n, ↓e_il_5, ↓e_al_5, ↓e_ll_5, ↓e_is_5i, ↓e_as_5i, ↓e_ls_5i, ↓e_inc_5i, ↓e_is_5o, ↓e_as_5o, ↓e_ls_5o, ↓e_inc_5o, ↓e_is_5n, ↓e_as_5n, ↓e_ls_5n, ↓e_inc_5n, ↓e_il_6, ↓e_al_6, ↓e_ll_6, ↓e_is_6i, ↓e_as_6i, ↓e_ls_6i, ↓e_inc_6i, ↓e_is_6o, ↓e_as_6o, ↓e_ls_6o, ↓e_inc_6o, ↓e_is_6n, ↓e_as_6n, ↓e_ls_6n, ↓e_inc_6n, ↓e_il_7, ↓e_al_7, ↓e_ll_7, ↓e_is_7i, ↓e_as_7i, ↓e_ls_7i, ↓e_inc_7i, ↓e_is_7o, ↓e_as_7o, ↓e_ls_7o, ↓e_inc_7o, ↓e_is_7n, ↓e_as_7n, ↓e_ls_7n, ↓e_inc_7n, ↓e_il_8, ↓e_al_8, ↓e_ll_8, ↓e_is_8i, ↓e_as_8i, ↓e_ls_8i, ↓e_inc_8i, ↓e_is_8o, ↓e_as_8o, ↓e_ls_8o, ↓e_inc_8o, ↓e_is_8n, ↓e_as_8n, ↓e_ls_8n, ↓e_inc_8n, ↓e_il_9, ↓e_al_9, ↓e_ll_9, ↓e_is_9i, ↓e_as_9i, ↓e_ls_9i, ↓e_inc_9i, ↓e_is_9o, ↓e_as_9o, ↓e_ls_9o, ↓e_inc_9o, ↓e_is_9n, ↓e_as_9n, ↓e_ls_9n, ↓e_inc_9n, ↓e_il_10, ↓e_al_10, ↓e_ll_10, ↓e_is_10i, ↓e_as_10i, ↓e_ls_10i, ↓e_inc_10i, ↓e_is_10o, ↓e_as_10o, ↓e_ls_10o, ↓e_inc_10o, ↓e_is_10n, ↓e_as_10n, ↓e_ls_10n, ↓e_inc_10n, ↓e_il_11, ↓e_al_11, ↓e_ll_11, ↓e_is_11i, ↓e_as_11i, ↓e_ls_11i, ↓e_inc_11i, ↓e_is_11o, ↓e_as_11o, ↓e_ls_11o, ↓e_inc_11o, ↓e_is_11n, ↓e_as_11n, ↓e_ls_11n, ↓e_inc_11n, ↓e_il_12, ↓e_al_12, ↓e_ll_12, ↓e_is_12i, ↓e_as_12i, ↓e_ls_12i, ↓e_inc_12i, ↓e_is_12o, ↓e_as_12o, ↓e_ls_12o, ↓e_inc_12o, ↓e_is_12n, ↓e_as_12n, ↓e_ls_12n, ↓e_inc_12n, ↓e_dup_i, ↓e_pop_i, ↓e_dup2_ii, ↓e_dup2_io, ↓e_dup_o, ↓e_pop_o, ↓e_dup2_oi, ↓e_dup2_oo, ↓e_ir, ↓e_zr, ↓e_br, ↓e_lr, ↓e_ar, ↓e_vr, ↓e_cut, ↓e_cS_0, ↓e_cV_1, ↓e_cS_1, ↓e_cV_2, ↓e_cS_2, ↓e_cV_3, ↓e_cS_3, ↓e_cV_4, ↓e_cS_4, ↓e_cV_5, ↓e_cS_5, ↓e_cV_6, ↓e_cS_6, ↓e_cV_7, ↓e_cS_7, ↓e_swn, ↓e_swc, ↓e_tls, ↓e_tln, E_Re_readWord_0, E_Re_readWord_10, E_Re_readWord_20, E_Re_readWord_58, E_Re_readWord_68, E_Re_readWord_70, E_Re_readWord_98, E_Re_readWord_104, ce_Re_stop, ce_Wo_clear, ce_Re_skipBlanks, ce_Re_peek, ce_Re_readFactor, ce_Re_beginsFactor, e_ci, e_cl, e_nul, e_add, e_sub, e_mul, e_ladd, e_lmul, e_div, e_rem, e_ldiv, e_lrem, e_zeq, e_zne, e_zlt, e_zge, e_zgt, e_zle, e_ceq, e_cne, e_clt, e_cge, e_cgt, e_cle, e_nn, e_gI, e_gR, e_pI, e_pZ, e_pR, e_ia, e_ba, e_za, e_iS, e_bS, e_zS, e_aa, e_aS, e_len, e_and, e_xor, e_shr, e_ushr, e_lcmp, e_i2b, e_i2l, e_l2i, e_sw, e_min, e_max, e_acp, e_il_0, e_al_0, e_ll_0, e_is_0n, e_as_0n, e_ls_0n, e_inc_0n, e_il_1, e_al_1, e_ll_1, e_is_1i, e_as_1i, e_ls_1i, e_inc_1i, e_is_1o, e_as_1o, e_ls_1o, e_inc_1o, e_is_1n, e_as_1n, e_ls_1n, e_inc_1n, e_il_2, e_al_2, e_ll_2, e_is_2i, e_as_2i, e_ls_2i, e_inc_2i, e_is_2o, e_as_2o, e_ls_2o, e_inc_2o, e_is_2n, e_as_2n, e_ls_2n, e_inc_2n, e_il_3, e_al_3, e_ll_3, e_is_3i, e_as_3i, e_ls_3i, e_inc_3i, e_is_3o, e_as_3o, e_ls_3o, e_inc_3o, e_is_3n, e_as_3n, e_ls_3n, e_inc_3n, e_il_4, e_al_4, e_ll_4, e_is_4i, e_as_4i, e_ls_4i, e_inc_4i, e_is_4o, e_as_4o, e_ls_4o, e_inc_4o, e_is_4n, e_as_4n, e_ls_4n, e_inc_4n, e_il_5, e_al_5, e_ll_5, e_is_5i, e_as_5i, e_ls_5i, e_inc_5i, e_is_5o, e_as_5o, e_ls_5o, e_inc_5o, e_is_5n, e_as_5n, e_ls_5n, e_inc_5n, e_il_6, e_al_6, e_ll_6, e_is_6i, e_as_6i, e_ls_6i, e_inc_6i, e_is_6o, e_as_6o, e_ls_6o, e_inc_6o, e_is_6n, e_as_6n, e_ls_6n, e_inc_6n, e_il_7, e_al_7, e_ll_7, e_is_7i, e_as_7i, e_ls_7i, e_inc_7i, e_is_7o, e_as_7o, e_ls_7o, e_inc_7o, e_is_7n, e_as_7n, e_ls_7n, e_inc_7n, e_il_8, e_al_8, e_ll_8, e_is_8i, e_as_8i, e_ls_8i, e_inc_8i, e_is_8o, e_as_8o, e_ls_8o, e_inc_8o, e_is_8n, e_as_8n, e_ls_8n, e_inc_8n, e_il_9, e_al_9, e_ll_9, e_is_9i, e_as_9i, e_ls_9i, e_inc_9i, e_is_9o, e_as_9o, e_ls_9o, e_inc_9o, e_is_9n, e_as_9n, e_ls_9n, e_inc_9n, e_il_10, e_al_10, e_ll_10, e_is_10i, e_as_10i, e_ls_10i, e_inc_10i, e_is_10o, e_as_10o, e_ls_10o, e_inc_10o, e_is_10n, e_as_10n, e_ls_10n, e_inc_10n, e_il_11, e_al_11, e_ll_11, e_is_11i, e_as_11i, e_ls_11i, e_inc_11i, e_is_11o, e_as_11o, e_ls_11o, e_inc_11o, e_is_11n, e_as_11n, e_ls_11n, e_inc_11n, e_il_12, e_al_12, e_ll_12, e_is_12i, e_as_12i, e_ls_12i, e_inc_12i, e_is_12o, e_as_12o, e_ls_12o, e_inc_12o, e_is_12n, e_as_12n, e_ls_12n, e_inc_12n, e_dup_i, e_pop_i, e_dup2_ii, e_dup2_io, e_dup_o, e_pop_o, e_dup2_oi, e_dup2_oo, e_ir, e_zr, e_br, e_lr, e_ar, e_vr, e_cut, e_cS_0, e_cV_1, e_cS_1, e_cV_2, e_cS_2, e_cV_3, e_cS_3, e_cV_4, e_cS_4, e_cV_5, e_cS_5, e_cV_6, e_cS_6, e_cV_7, e_cS_7, e_swn, e_swc, e_tls, e_tln, gI_sI, gI_sA, gR_sI, gR_sA, gI_sR, gR_sR, hN_sI, hN_sA, hN_sR, isO_sI, isO_sA, isO_sR, isAr_sI, isAr_sA, isAr_sR, hC_sI, hC_sA, hC_sR, hZ_sI, hZ_sA, hZ_sR, MW_sI, MW_sA, true_and, and_true, true_or, or_true, and_self, forall_const, imp_self, implies_true, if_true, if_false, false_and, and_false, false_or, or_false, not_false_eq_true, not_true_eq_false, sI_sI, entA, fitL, List.length_cons, List.length_nil, List.nil_append, List.cons_append, false_imp_iff, true_imp_iff, pn1, pn2, MW_sI, CW_sI, cr_Ho_0 w1, cr_Ho_3 w1, cr_Ho_4 w1, cr_Ho_5 w1, cr_Ho_6 w1, cr_Ho_7 w1, cr_Ho_8 w1, cr_Ho_9 w1, cr_Ho_13 w1, cr_Ho_15 w1, cr_Ho_16 w1, cr_Ws_0 w1, cr_Ss_0 w1, cr_Re_0 w1, cr_Re_1 w1, cr_Re_2 w1, cr_Re_3 w1, cr_Ta_0 w1, cr_Ta_1 w1, cr_Ta_2 w1, cr_Ta_3 w1, cr_Ta_4 w1, cr_Ta_5 w1, cr_Ta_6 w1, cr_Wa_0 w1, cr_Wa_2 w1, cr_Wa_3 w1, cr_Wa_4 w1, cr_Wa_5 w1, cr_Wa_6 w1, cr_Lo_0 w1, cr_Lo_1 w1, cr_Lo_2 w1, cr_Lo_3 w1, cr_Lo_4 w1, cr_Sh_0 w1, cr_Sh_1 w1, cr_Sh_2 w1, co_Ho w1, ca_Ho_tape w1, cl_Ho_tape, co_Ws w1, co_Ss w1, co_Ask w1, co_Re w1, co_Ta w1, co_Fi w1, co_Wa w1, ca_Ho_told w1, cl_Ho_told, co_Lo w1, co_Sh w1, ca_Ws_e w1, cl_Ws_e, ca_Ss_e w1, cl_Ss_e, ca_Re_sums w1, cl_Re_sums, ca_Re_firsts w1, cl_Re_firsts, co_Atom w1, co_Raised w1, ca_Ta_cells w1, cl_Ta_cells, ca_Ta_numbers w1, cl_Ta_numbers, ca_Ta_done w1, cl_Ta_done, ca_Ta_order w1, cl_Ta_order, ca_Ta_spare w1, cl_Ta_spare, ca_Ta_parents w1, cl_Ta_parents, ca_Ta_melting w1, cl_Ta_melting, ca_Wa_queue w1, cl_Wa_queue, ca_Wa_origins w1, cl_Wa_origins, ca_Wa_vias w1, cl_Wa_vias, ca_Wa_lengths w1, cl_Wa_lengths, ca_Wa_seen w1, cl_Wa_seen, co_Single w1, ca_Lo_cells w1, cl_Lo_cells, ca_Lo_kept w1, cl_Lo_kept, ca_Lo_keptRows w1, cl_Lo_keptRows, ca_Lo_names w1, cl_Lo_names, ca_Lo_met w1, cl_Lo_met, ca_Sh_cells w1, cl_Sh_cells, ca_Sh_seen w1, cl_Sh_seen, ca_Sh_queue w1, cl_Sh_queue, CW_sI, CW_sA, locI, nth]
    refine ⟨fun z => fin ?_, fun z => ⟨sz, m, rc1, by omega, ?_⟩⟩
    · have : ch (gI h1 pRe 6) = -1 := by rw [hch]; exact chR_end (by omega)
      rw [this]
      rintro (x | x | x) <;> omega
    · rw [ec]
      refine ⟨sz, m, rc1, cb.1, cb.2, fun y => ⟨sz, m, D, s1, rfl, D8, rc1, y2.1, Or.inr ⟨y4, by rw [ec]; exact y⟩, fun x => by have := x.1; omega, by omega, y6, by rw [ec]; exact y7, y8, y9, y10, by omega, fun h2 v f2 o => ?_⟩, fin⟩
      obtain ⟨n1, n2⟩ := nxt h1 h2 s1 v f1 y11 y1 y2 y3 y5 f2 o
      refine ⟨fun v0 => ?_, n2⟩
      obtain ⟨s2, j1, j2⟩ := n1 v0
      exact ⟨⟨by omega, by omega⟩, ⟨k + 1, s2, rfl, j1, by omega, by omega⟩, by omega⟩
  · obtain ⟨a, ha⟩ : ∃ a, a = skA ch sz (rat s) := ⟨_, rfl⟩
    obtain ⟨hA, eA⟩ : ∃ hA, hA = sI h (sumP D) 1 0 := ⟨_, rfl⟩
    have fA : FrP Prr h hA := by rw [eA]; exact FrP_sI (Or.inr ⟨by omega, by omega⟩) (FrP_refl _ h)
    have fW : FrP (Pw (sumP D)) h hA := by rw [eA]; exact FrP_sI (Or.inl ⟨rfl, rfl⟩) (FrP_refl _ h)
    have wA := FrP_CW fA w
    have rcA := rC_fr fA hc
    have ecA : chR hA sz = ch := by rw [hch]; exact chR_fr fA
    have nS : ∀ j, gI hA pRe j = gI h pRe j := fun j => by
      rw [eA, gI_sI, if_neg (fun z => by have := z.1; omega)]
    have swl : SWl hA s D := SWl_mv (fun _ _ => rfl) (fun _ _ => rfl) (fun i hi => by
      have e3 := sm_i i
      exact ⟨fun u x => (WR_pw fW (by omega) (by omega) (by omega)).mpr x, fun u x => (WR_pw fW (by omega) (by omega) (by omega)).mpr x⟩) hS
    have swt : SWt hA s D := SWt_eq rfl rfl (fun u x => (WR_pw fW (by omega) (by omega) (by omega)).mpr x) hT
    have sws : SWs hA s D := by
      unfold SWs
      rw [hpl]
      refine ⟨⟨?_, by rw [sum_ln (by omega)]; decide, fun k hk => absurd hk (Nat.not_lt_zero k), fun d hd => absurd hd (by simp)⟩, rdI_nil⟩
      rw [eA, gI_sI, if_pos ⟨rfl, rfl⟩]; rfl
    have fB : ∀ x, FrP Prr h (sI hA pRe 6 x) := fun x => Prr_at fA
    have ecB : ∀ x, chR (sI hA pRe 6 x) sz = ch := fun x => by rw [hch]; exact chR_fr (fB x)
    have rcB : ∀ x, rC (sI hA pRe 6 x) sz m := fun x => rC_fr (fB x) hc
    have flB : ∀ x, flK h (sI hA pRe 6 x) := fun x => ⟨by show gI hA pRe 9 = _; exact nS 9, by show gI hA pRe 10 = _; exact nS 10⟩
    simp (decide := true) only [↓E_Re_readWord_0, ↓E_Re_readWord_10, ↓E_Re_readWord_20, ↓E_Re_readWord_58, ↓E_Re_readWord_68, ↓E_Re_readWord_70, ↓E_Re_readWord_98, ↓E_Re_readWord_104, ↓ce_Re_stop, ↓ce_Wo_clear, ↓ce_Re_skipBlanks, ↓ce_Re_peek, ↓ce_Re_readFactor, ↓ce_Re_beginsFactor, ↓e_ci, ↓e_cl, ↓e_nul, ↓e_add, ↓e_sub, ↓e_mul, ↓e_ladd, ↓e_lmul, ↓e_div, ↓e_rem, ↓e_ldiv, ↓e_lrem, ↓e_zeq, ↓e_zne, ↓e_zlt, ↓e_zge, ↓e_zgt, ↓e_zle, ↓e_ceq, ↓e_cne, ↓e_clt, ↓e_cge, ↓e_cgt, ↓e_cle, ↓e_nn, ↓e_gI, ↓e_gR, ↓e_pI, ↓e_pZ, ↓e_pR, ↓e_ia, ↓e_ba, ↓e_za, ↓e_iS, ↓e_bS, ↓e_zS, ↓e_aa, ↓e_aS, ↓e_len, ↓e_and, ↓e_xor, ↓e_shr, ↓e_ushr, ↓e_lcmp, ↓e_i2b, ↓e_i2l, ↓e_l2i, ↓e_sw, ↓e_min, ↓e_max, ↓e_acp, ↓e_il_0, ↓e_al_0, ↓e_ll_0, ↓e_is_0n, ↓e_as_0n, ↓e_ls_0n, ↓e_inc_0n, ↓e_il_1, ↓e_al_1, ↓e_ll_1, ↓e_is_1i, ↓e_as_1i, ↓e_ls_1i, ↓e_inc_1i, ↓e_is_1o, ↓e_as_1o, ↓e_ls_1o, ↓e_inc_1o, ↓e_is_1n, ↓e_as_1n, ↓e_ls_1n, ↓e_inc_1n, ↓e_il_2, ↓e_al_2, ↓e_ll_2, ↓e_is_2i, ↓e_as_2i, ↓e_ls_2i, ↓e_inc_2i, ↓e_is_2o, ↓e_as_2o, ↓e_ls_2o, ↓e_inc_2o, ↓e_is_2n, ↓e_as_2n, ↓e_ls_2n, ↓e_inc_2n, ↓e_il_3, ↓e_al_3, ↓e_ll_3, ↓e_is_3i, ↓e_as_3i, ↓e_ls_3i, ↓e_inc_3i, ↓e_is_3o, ↓e_as_3o, ↓e_ls_3o, ↓e_inc_3o, ↓e_is_3n, ↓e_as_3n, ↓e_ls_3n, ↓e_inc_3n, ↓e_il_4, ↓e_al_4, ↓e_ll_4, ↓e_is_4i, ↓e_as_4i, ↓e_ls_4i, ↓e_inc_4i, ↓e_is_4o, ↓e_as_4o, ↓e_ls_4o, ↓e_inc_4o, ↓e_is_4n, ↓e_as_4n, ↓e_ls_4n, ↓e_inc_4n, ↓e_il_5, ↓e_al_5, ↓e_ll_5, ↓e_is_5i, ↓e_as_5i, ↓e_ls_5i, ↓e_inc_5i, ↓e_is_5o, ↓e_as_5o, ↓e_ls_5o, ↓e_inc_5o, ↓e_is_5n, ↓e_as_5n, ↓e_ls_5n, ↓e_inc_5n, ↓e_il_6, ↓e_al_6, ↓e_ll_6, ↓e_is_6i, ↓e_as_6i, ↓e_ls_6i, ↓e_inc_6i, ↓e_is_6o, ↓e_as_6o, ↓e_ls_6o, ↓e_inc_6o, ↓e_is_6n, ↓e_as_6n, ↓e_ls_6n, ↓e_inc_6n, ↓e_il_7, ↓e_al_7, ↓e_ll_7, ↓e_is_7i, ↓e_as_7i, ↓e_ls_7i, ↓e_inc_7i, ↓e_is_7o, ↓e_as_7o, ↓e_ls_7o, ↓e_inc_7o, ↓e_is_7n, ↓e_as_7n, ↓e_ls_7n, ↓e_inc_7n, ↓e_il_8, ↓e_al_8, ↓e_ll_8, ↓e_is_8i, ↓e_as_8i, ↓e_ls_8i, ↓e_inc_8i, ↓e_is_8o, ↓e_as_8o, ↓e_ls_8o, ↓e_inc_8o, ↓e_is_8n, ↓e_as_8n, ↓e_ls_8n, ↓e_inc_8n, ↓e_il_9, ↓e_al_9, ↓e_ll_9, ↓e_is_9i, ↓e_as_9i, ↓e_ls_9i, ↓e_inc_9i, ↓e_is_9o, ↓e_as_9o, ↓e_ls_9o, ↓e_inc_9o, ↓e_is_9n, ↓e_as_9n, ↓e_ls_9n, ↓e_inc_9n, ↓e_il_10, ↓e_al_10, ↓e_ll_10, ↓e_is_10i, ↓e_as_10i, ↓e_ls_10i, ↓e_inc_10i, ↓e_is_10o, ↓e_as_10o, ↓e_ls_10o, ↓e_inc_10o, ↓e_is_10n, ↓e_as_10n, ↓e_ls_10n, ↓e_inc_10n, ↓e_il_11, ↓e_al_11, ↓e_ll_11, ↓e_is_11i, ↓e_as_11i, ↓e_ls_11i, ↓e_inc_11i, ↓e_is_11o, ↓e_as_11o, ↓e_ls_11o, ↓e_inc_11o, ↓e_is_11n, ↓e_as_11n, ↓e_ls_11n, ↓e_inc_11n, ↓e_il_12, ↓e_al_12, ↓e_ll_12, ↓e_is_12i, ↓e_as_12i, ↓e_ls_12i, ↓e_inc_12i, ↓e_is_12o, ↓e_as_12o, ↓e_ls_12o, ↓e_inc_12o, ↓e_is_12n, ↓e_as_12n, ↓e_ls_12n, ↓e_inc_12n, ↓e_dup_i, ↓e_pop_i, ↓e_dup2_ii, ↓e_dup2_io, ↓e_dup_o, ↓e_pop_o, ↓e_dup2_oi, ↓e_dup2_oo, ↓e_ir, ↓e_zr, ↓e_br, ↓e_lr, ↓e_ar, ↓e_vr, ↓e_cut, ↓e_cS_0, ↓e_cV_1, ↓e_cS_1, ↓e_cV_2, ↓e_cS_2, ↓e_cV_3, ↓e_cS_3, ↓e_cV_4, ↓e_cS_4, ↓e_cV_5, ↓e_cS_5, ↓e_cV_6, ↓e_cS_6, ↓e_cV_7, ↓e_cS_7, ↓e_swn, ↓e_swc, ↓e_tls, ↓e_tln, E_Re_readWord_0, E_Re_readWord_10, E_Re_readWord_20, E_Re_readWord_58, E_Re_readWord_68, E_Re_readWord_70, E_Re_readWord_98, E_Re_readWord_104, ce_Re_stop, ce_Wo_clear, ce_Re_skipBlanks, ce_Re_peek, ce_Re_readFactor, ce_Re_beginsFactor, e_ci, e_cl, e_nul, e_add, e_sub, e_mul, e_ladd, e_lmul, e_div, e_rem, e_ldiv, e_lrem, e_zeq, e_zne, e_zlt, e_zge, e_zgt, e_zle, e_ceq, e_cne, e_clt, e_cge, e_cgt, e_cle, e_nn, e_gI, e_gR, e_pI, e_pZ, e_pR, e_ia, e_ba, e_za, e_iS, e_bS, e_zS, e_aa, e_aS, e_len, e_and, e_xor, e_shr, e_ushr, e_lcmp, e_i2b, e_i2l, e_l2i, e_sw, e_min, e_max, e_acp, e_il_0, e_al_0, e_ll_0, e_is_0n, e_as_0n, e_ls_0n, e_inc_0n, e_il_1, e_al_1, e_ll_1, e_is_1i, e_as_1i, e_ls_1i, e_inc_1i, e_is_1o, e_as_1o, e_ls_1o, e_inc_1o, e_is_1n, e_as_1n, e_ls_1n, e_inc_1n, e_il_2, e_al_2, e_ll_2, e_is_2i, e_as_2i, e_ls_2i, e_inc_2i, e_is_2o, e_as_2o, e_ls_2o, e_inc_2o, e_is_2n, e_as_2n, e_ls_2n, e_inc_2n, e_il_3, e_al_3, e_ll_3, e_is_3i, e_as_3i, e_ls_3i, e_inc_3i, e_is_3o, e_as_3o, e_ls_3o, e_inc_3o, e_is_3n, e_as_3n, e_ls_3n, e_inc_3n, e_il_4, e_al_4, e_ll_4, e_is_4i, e_as_4i, e_ls_4i, e_inc_4i, e_is_4o, e_as_4o, e_ls_4o, e_inc_4o, e_is_4n, e_as_4n, e_ls_4n, e_inc_4n, e_il_5, e_al_5, e_ll_5, e_is_5i, e_as_5i, e_ls_5i, e_inc_5i, e_is_5o, e_as_5o, e_ls_5o, e_inc_5o, e_is_5n, e_as_5n, e_ls_5n, e_inc_5n, e_il_6, e_al_6, e_ll_6, e_is_6i, e_as_6i, e_ls_6i, e_inc_6i, e_is_6o, e_as_6o, e_ls_6o, e_inc_6o, e_is_6n, e_as_6n, e_ls_6n, e_inc_6n, e_il_7, e_al_7, e_ll_7, e_is_7i, e_as_7i, e_ls_7i, e_inc_7i, e_is_7o, e_as_7o, e_ls_7o, e_inc_7o, e_is_7n, e_as_7n, e_ls_7n, e_inc_7n, e_il_8, e_al_8, e_ll_8, e_is_8i, e_as_8i, e_ls_8i, e_inc_8i, e_is_8o, e_as_8o, e_ls_8o, e_inc_8o, e_is_8n, e_as_8n, e_ls_8n, e_inc_8n, e_il_9, e_al_9, e_ll_9, e_is_9i, e_as_9i, e_ls_9i, e_inc_9i, e_is_9o, e_as_9o, e_ls_9o, e_inc_9o, e_is_9n, e_as_9n, e_ls_9n, e_inc_9n, e_il_10, e_al_10, e_ll_10, e_is_10i, e_as_10i, e_ls_10i, e_inc_10i, e_is_10o, e_as_10o, e_ls_10o, e_inc_10o, e_is_10n, e_as_10n, e_ls_10n, e_inc_10n, e_il_11, e_al_11, e_ll_11, e_is_11i, e_as_11i, e_ls_11i, e_inc_11i, e_is_11o, e_as_11o, e_ls_11o, e_inc_11o, e_is_11n, e_as_11n, e_ls_11n, e_inc_11n, e_il_12, e_al_12, e_ll_12, e_is_12i, e_as_12i, e_ls_12i, e_inc_12i, e_is_12o, e_as_12o, e_ls_12o, e_inc_12o, e_is_12n, e_as_12n, e_ls_12n, e_inc_12n, e_dup_i, e_pop_i, e_dup2_ii, e_dup2_io, e_dup_o, e_pop_o, e_dup2_oi, e_dup2_oo, e_ir, e_zr, e_br, e_lr, e_ar, e_vr, e_cut, e_cS_0, e_cV_1, e_cS_1, e_cV_2, e_cS_2, e_cV_3, e_cS_3, e_cV_4, e_cS_4, e_cV_5, e_cS_5, e_cV_6, e_cS_6, e_cV_7, e_cS_7, e_swn, e_swc, e_tls, e_tln, gI_sI, gI_sA, gR_sI, gR_sA, gI_sR, gR_sR, hN_sI, hN_sA, hN_sR, isO_sI, isO_sA, isO_sR, isAr_sI, isAr_sA, isAr_sR, hC_sI, hC_sA, hC_sR, hZ_sI, hZ_sA, hZ_sR, MW_sI, MW_sA, true_and, and_true, true_or, or_true, and_self, forall_const, imp_self, implies_true, if_true, if_false, false_and, and_false, false_or, or_false, not_false_eq_true, not_true_eq_false, sI_sI, entA, fitL, List.length_cons, List.length_nil, List.nil_append, List.cons_append, false_imp_iff, true_imp_iff, pn1, pn2, MW_sI, CW_sI, cr_Ho_0 w, cr_Ho_3 w, cr_Ho_4 w, cr_Ho_5 w, cr_Ho_6 w, cr_Ho_7 w, cr_Ho_8 w, cr_Ho_9 w, cr_Ho_13 w, cr_Ho_15 w, cr_Ho_16 w, cr_Ws_0 w, cr_Ss_0 w, cr_Re_0 w, cr_Re_1 w, cr_Re_2 w, cr_Re_3 w, cr_Ta_0 w, cr_Ta_1 w, cr_Ta_2 w, cr_Ta_3 w, cr_Ta_4 w, cr_Ta_5 w, cr_Ta_6 w, cr_Wa_0 w, cr_Wa_2 w, cr_Wa_3 w, cr_Wa_4 w, cr_Wa_5 w, cr_Wa_6 w, cr_Lo_0 w, cr_Lo_1 w, cr_Lo_2 w, cr_Lo_3 w, cr_Lo_4 w, cr_Sh_0 w, cr_Sh_1 w, cr_Sh_2 w, co_Ho w, ca_Ho_tape w, cl_Ho_tape, co_Ws w, co_Ss w, co_Ask w, co_Re w, co_Ta w, co_Fi w, co_Wa w, ca_Ho_told w, cl_Ho_told, co_Lo w, co_Sh w, ca_Ws_e w, cl_Ws_e, ca_Ss_e w, cl_Ss_e, ca_Re_sums w, cl_Re_sums, ca_Re_firsts w, cl_Re_firsts, co_Atom w, co_Raised w, ca_Ta_cells w, cl_Ta_cells, ca_Ta_numbers w, cl_Ta_numbers, ca_Ta_done w, cl_Ta_done, ca_Ta_order w, cl_Ta_order, ca_Ta_spare w, cl_Ta_spare, ca_Ta_parents w, cl_Ta_parents, ca_Ta_melting w, cl_Ta_melting, ca_Wa_queue w, cl_Wa_queue, ca_Wa_origins w, cl_Wa_origins, ca_Wa_vias w, cl_Wa_vias, ca_Wa_lengths w, cl_Wa_lengths, ca_Wa_seen w, cl_Wa_seen, co_Single w, ca_Lo_cells w, cl_Lo_cells, ca_Lo_kept w, cl_Lo_kept, ca_Lo_keptRows w, cl_Lo_keptRows, ca_Lo_names w, cl_Lo_names, ca_Lo_met w, cl_Lo_met, ca_Sh_cells w, cl_Sh_cells, ca_Sh_seen w, cl_Sh_seen, ca_Sh_queue w, cl_Sh_queue, CW_sI, CW_sA, cr_sum w (k := D) (by omega)]
    rw [show pSum0 + 4 * D = sumP D from rfl, ← eA]
    refine ⟨fun z => by omega, fun z => ⟨fun z2 => ⟨by omega, by omega, wd_O w (wd_Sum (by omega)), w, wd_Sum (by omega), sz, m, rcA, by omega, by omega, ?_⟩, fun z2 => by omega⟩⟩
    rw [ecA, ea, ← ha]
    refine ⟨sz, m, rcB a, by omega, ?_⟩
    rw [ecB]
    rw [← ha] at kr
    refine ⟨fun y => ⟨sz, m, D, s, rfl, D8, rcB a, hl, Or.inl hb, fun x => ?_, r0, r1, by rw [ecB]; exact ha, SWl_re swl, SWt_re swt, SWs_re sws, by omega, fun h2 v f2 o => ?_⟩, fun y => ?_⟩
    · rw [ecB] at x; exact y x.2
    · obtain ⟨n1, n2⟩ := nxt _ h2 s v (fB a) (flB a) (Srn_refl s) (lowQ_refl hl) ⟨rfl, rfl⟩ (Int.le_refl _) f2 o
      refine ⟨fun v0 => ?_, n2⟩
      obtain ⟨s2, j1, j2⟩ := n1 v0
      have j3 : a < gI h2 pRe 6 := j2
      exact ⟨1, s2, rfl, j1, by omega, by omega⟩
    · have hlt : a < sz := by
        have : chR h sz a ≠ -1 := by rw [← hch, y]; decide
        exact (chR_lt this).2
      have k3 := skA_le (ch := ch) (sz := sz) (at' := a + 1) (by omega)
      refine ⟨⟨by omega, by omega⟩, sz, m, rcB _, by omega, by omega, ?_⟩
      rw [ecB]
      have hs1 := st_one (m := m) (s := s) ha (by rw [hl]; exact hb) y
      have f9 := fB (skA ch sz (a + 1))
      refine hp _ 1 f9 (Or.inl ⟨rfl, rs1 s a, Srn_one hs1, ⟨hl, fun i hi => ⟨rfl, ?_⟩, fun _ _ => rfl, fun _ _ => rfl⟩, ⟨rfl, rfl⟩, Or.inl ?_, ?_, ?_, ?_, SWl_re swl, SWt_re swt, SWs_re sws, flB _⟩)
      · show upN (rbg s) (rl s) 2 i = rbg s i
        rw [upN_ne (by omega)]
      · show upN (rbg s) (rl s) 2 D = 2
        rw [hl, upN_eq]
      · show rat s ≤ a + 1; omega
      · show a + 1 ≤ sz; omega
      · rfl
theorem re_all : ∀ d, MetP y_Re_readWord (md_Re_readWord d) (fun _ => 0) (fun _ => 0) (Ct_Re_readWord d) ∧ MetP y_Re_readFactor (md_Re_readFactor d) (fun _ => 0) (fun _ => 0) (Ct_Re_readFactor d) ∧ MetP y_Re_readAtom (md_Re_readAtom d) (fun _ => 0) (fun _ => 0) (Ct_Re_readAtom d) ∧ MetP y_Re_readGroup (md_Re_readGroup d) (fun _ => 0) (fun _ => 0) (Ct_Re_readGroup d) ∧ MetP y_Re_readCommutator (md_Re_readCommutator d) (fun _ => 0) (fun _ => 0) (Ct_Re_readCommutator d)
  | 0 => by
    refine ⟨metP_no (fun av h post hc => ?_), metP_no (fun av h post hc => ?_), metP_no (fun av h post hc => ?_), metP_no (fun av h post hc => ?_), metP_no (fun av h post hc => ?_)⟩
    · unfold Ct_Re_readWord at hc
      split at hc
      · obtain ⟨-, sz, m, D, s, -, D8, -, -, -, -, -, -, -, -, -, hd, -⟩ := hc
        omega
      · exact hc
    · unfold Ct_Re_readFactor at hc
      split at hc
      · obtain ⟨-, sz, m, D, s, -, D8, -, -, -, -, -, -, -, -, -, -, hd, -⟩ := hc
        omega
      · exact hc
    · unfold Ct_Re_readAtom at hc
      split at hc
      · obtain ⟨-, sz, m, D, s, -, D8, -, -, -, -, -, -, -, -, -, -, hd, -⟩ := hc
        omega
      · exact hc
    · unfold Ct_Re_readGroup at hc
      split at hc
      · obtain ⟨-, sz, m, D, s, -, -, D8, -, -, -, -, -, -, -, -, -, hd, -⟩ := hc
        omega
      · exact hc
    · unfold Ct_Re_readCommutator at hc
      split at hc
      · obtain ⟨-, sz, m, D, s, -, -, D8, -, -, -, -, -, -, -, -, -, hd, -⟩ := hc
        omega
      · exact hc
  | d + 1 => by
    obtain ⟨i1, i2, i3, i4, i5⟩ := re_all d
    exact ⟨step_Re_readWord d i2, step_Re_readFactor d i3, step_Re_readAtom d i4 i5, step_Re_readGroup d i1, step_Re_readCommutator d i1⟩
theorem met_Re_readWord (d : Nat) : MetP y_Re_readWord (md_Re_readWord d) (fun _ => 0) (fun _ => 0) (Ct_Re_readWord d) := (re_all d).1
