/-! THE COMPONENT: Reader: readFactor -/
def Prs (D : Nat) (b : Nat) (j : Int) : Prop := Pw pRaised b j ∨ Pw (sumP D) b j
theorem wP_ra : wP pRaised := ⟨by decide, by decide⟩
theorem rf_42 {d : Nat} {K : TK} {R : TR} {h : PH} {D : Nat} {a0 : Int} {u b : List Int} (w : CW h) (D8 : D ≤ 8) (hu : WR h pAtom u) (ru : rdI u) (hb : WR h (sumP D) b) (rb : rdI b) (t0 : 0 ≤ gI h pRe 8) (t1 : gI h pRe 8 ≤ 99) (hp1 : (pwW u (gI h pRe 8).toNat).length ≤ 40 → (jnW b (pwW u (gI h pRe 8).toNat)).length ≤ 40 → ∀ h', FrP (Prs D) h h' → WR h' (sumP D) (jnW b (pwW u (gI h pRe 8).toNat)) → R (some (.inl 1)) h') (hp0 : 40 < (pwW u (gI h pRe 8).toNat).length ∨ 40 < (jnW b (pwW u (gI h pRe 8).toNat)).length → ∀ h', FrP (Prs D) h h' → R (some (.inl 0)) (sI (sI h' pRe 9 2) pRe 10 a0)) : B_Re_readFactor_42 (Ct_Re_readAtom d) K R [some (.inr (.inl (some pRe))), some (.inl (D : Int)), some (.inl a0)] [] h := by
  obtain ⟨V, hV⟩ : ∃ V, V = pwW u (gI h pRe 8).toNat := ⟨_, rfl⟩
  rw [← hV] at hp1 hp0
  have un : ∀ c, c ∈ u → 0 ≤ c := fun c hc => (hu.2.2.2 c hc).1
  have rV : rdI V := by rw [hV]; exact rdI_pw ru un _
  have Vn : ∀ c, c ∈ V → 0 ≤ c := by rw [hV]; exact pwW_in un
  have bl := hb.2.1
  rw [sum_ln (by omega)] at bl
  have e1 := sm_re
  have e2 := sm_i D
  simp (decide := true) only [↓E_Re_readFactor_0, ↓E_Re_readFactor_15, ↓E_Re_readFactor_42, ↓E_Re_readFactor_65, ↓E_Re_readFactor_74, ↓E_Re_readFactor_78, ↓E_Re_readFactor_79, ↓ce_Re_readAtom, ↓ce_Re_skipBlanks, ↓ce_Re_peek, ↓ce_Re_readPower, ↓ce_Re_raiseAtom, ↓ce_Wo_joinWord, ↓ce_Re_stop, ↓e_ci, ↓e_cl, ↓e_nul, ↓e_add, ↓e_sub, ↓e_mul, ↓e_ladd, ↓e_lmul, ↓e_div, ↓e_rem, ↓e_ldiv, ↓e_lrem, ↓e_zeq, ↓e_zne, ↓e_zlt, ↓e_zge, ↓e_zgt, ↓e_zle, ↓e_ceq, ↓e_cne, ↓e_clt, ↓e_cge, ↓e_cgt, ↓e_cle, ↓e_nn, ↓e_gI, ↓e_gR, ↓e_pI, ↓e_pZ, ↓e_pR, ↓e_ia, ↓e_ba, ↓e_za, ↓e_iS, ↓e_bS, ↓e_zS, ↓e_aa, ↓e_aS, ↓e_len, ↓e_and, ↓e_xor, ↓e_shr, ↓e_ushr, ↓e_lcmp, ↓e_i2b, ↓e_i2l, ↓e_l2i, ↓e_sw, ↓e_min, ↓e_max, ↓e_acp, ↓e_il_0, ↓e_al_0, ↓e_ll_0, ↓e_is_0n, ↓e_as_0n, ↓e_ls_0n, ↓e_inc_0n, ↓e_il_1, ↓e_al_1, ↓e_ll_1, ↓e_is_1i, ↓e_as_1i, ↓e_ls_1i, ↓e_inc_1i, ↓e_is_1o, ↓e_as_1o, ↓e_ls_1o, ↓e_inc_1o, ↓e_is_1n, ↓e_as_1n, ↓e_ls_1n, ↓e_inc_1n, ↓e_il_2, ↓e_al_2, ↓e_ll_2, ↓e_is_2i, ↓e_as_2i, ↓e_ls_2i, ↓e_inc_2i, ↓e_is_2o, ↓e_as_2o, ↓e_ls_2o, ↓e_inc_2o, ↓e_is_2n, ↓e_as_2n, ↓e_ls_2n, ↓e_inc_2n, ↓e_il_3, ↓e_al_3, ↓e_ll_3, ↓e_is_3i, ↓e_as_3i, ↓e_ls_3i, ↓e_inc_3i, ↓e_is_3o, ↓e_as_3o, ↓e_ls_3o, ↓e_inc_3o, ↓e_is_3n, ↓e_as_3n, ↓e_ls_3n, ↓e_inc_3n, ↓e_il_4, ↓e_al_4, ↓e_ll_4, ↓e_is_4i, ↓e_as_4i, ↓e_ls_4i, ↓e_inc_4i, ↓e_is_4o, ↓e_as_4o, ↓e_ls_4o, ↓e_inc_4o, ↓e_is_4n, ↓e_as_4n, ↓e_ls_4n, ↓e_inc_4n, ↓e_il_5, ↓e_al_5, ↓e_ll_5, ↓e_is_5i, ↓e_as_5i, ↓e_ls_5i, ↓e_inc_5i, ↓e_is_5o, ↓e_as_5o, ↓e_ls_5o, ↓e_inc_5o, ↓e_is_5n, ↓e_as_5n, ↓e_ls_5n, ↓e_inc_5n, ↓e_il_6, ↓e_al_6, ↓e_ll_6, ↓e_is_6i, ↓e_as_6i, ↓e_ls_6i, ↓e_inc_6i, ↓e_is_6o, ↓e_as_6o, ↓e_ls_6o, ↓e_inc_6o, ↓e_is_6n, ↓e_as_6n, ↓e_ls_6n, ↓e_inc_6n, ↓e_il_7, ↓e_al_7, ↓e_ll_7, ↓e_is_7i, ↓e_as_7i, ↓e_ls_7i, ↓e_inc_7i, ↓e_is_7o, ↓e_as_7o, ↓e_ls_7o, ↓e_inc_7o, ↓e_is_7n, ↓e_as_7n, ↓e_ls_7n, ↓e_inc_7n, ↓e_il_8, ↓e_al_8, ↓e_ll_8, ↓e_is_8i, ↓e_as_8i, ↓e_ls_8i, ↓e_inc_8i, ↓e_is_8o, ↓e_as_8o, ↓e_ls_8o, ↓e_inc_8o, ↓e_is_8n, ↓e_as_8n, ↓e_ls_8n, ↓e_inc_8n, ↓e_il_9, ↓e_al_9, ↓e_ll_9, ↓e_is_9i, ↓e_as_9i, ↓e_ls_9i, ↓e_inc_9i, ↓e_is_9o, ↓e_as_9o, ↓e_ls_9o, ↓e_inc_9o, ↓e_is_9n, ↓e_as_9n, ↓e_ls_9n, ↓e_inc_9n, ↓e_il_10, ↓e_al_10, ↓e_ll_10, ↓e_is_10i, ↓e_as_10i, ↓e_ls_10i, ↓e_inc_10i, ↓e_is_10o, ↓e_as_10o, ↓e_ls_10o, ↓e_inc_10o, ↓e_is_10n, ↓e_as_10n, ↓e_ls_10n, ↓e_inc_10n, ↓e_il_11, ↓e_al_11, ↓e_ll_11, ↓e_is_11i, ↓e_as_11i, ↓e_ls_11i, ↓e_inc_11i, ↓e_is_11o, ↓e_as_11o, ↓e_ls_11o, ↓e_inc_11o, ↓e_is_11n, ↓e_as_11n, ↓e_ls_11n, ↓e_inc_11n, ↓e_il_12, ↓e_al_12, ↓e_ll_12, ↓e_is_12i, ↓e_as_12i, ↓e_ls_12i, ↓e_inc_12i, ↓e_is_12o, ↓e_as_12o, ↓e_ls_12o, ↓e_inc_12o, ↓e_is_12n, ↓e_as_12n, ↓e_ls_12n, ↓e_inc_12n, ↓e_dup_i, ↓e_pop_i, ↓e_dup2_ii, ↓e_dup2_io, ↓e_dup_o, ↓e_pop_o, ↓e_dup2_oi, ↓e_dup2_oo, ↓e_ir, ↓e_zr, ↓e_br, ↓e_lr, ↓e_ar, ↓e_vr, ↓e_cut, ↓e_cS_0, ↓e_cV_1, ↓e_cS_1, ↓e_cV_2, ↓e_cS_2, ↓e_cV_3, ↓e_cS_3, ↓e_cV_4, ↓e_cS_4, ↓e_cV_5, ↓e_cS_5, ↓e_cV_6, ↓e_cS_6, ↓e_cV_7, ↓e_cS_7, ↓e_swn, ↓e_swc, ↓e_tls, ↓e_tln, E_Re_readFactor_0, E_Re_readFactor_15, E_Re_readFactor_42, E_Re_readFactor_65, E_Re_readFactor_74, E_Re_readFactor_78, E_Re_readFactor_79, ce_Re_readAtom, ce_Re_skipBlanks, ce_Re_peek, ce_Re_readPower, ce_Re_raiseAtom, ce_Wo_joinWord, ce_Re_stop, e_ci, e_cl, e_nul, e_add, e_sub, e_mul, e_ladd, e_lmul, e_div, e_rem, e_ldiv, e_lrem, e_zeq, e_zne, e_zlt, e_zge, e_zgt, e_zle, e_ceq, e_cne, e_clt, e_cge, e_cgt, e_cle, e_nn, e_gI, e_gR, e_pI, e_pZ, e_pR, e_ia, e_ba, e_za, e_iS, e_bS, e_zS, e_aa, e_aS, e_len, e_and, e_xor, e_shr, e_ushr, e_lcmp, e_i2b, e_i2l, e_l2i, e_sw, e_min, e_max, e_acp, e_il_0, e_al_0, e_ll_0, e_is_0n, e_as_0n, e_ls_0n, e_inc_0n, e_il_1, e_al_1, e_ll_1, e_is_1i, e_as_1i, e_ls_1i, e_inc_1i, e_is_1o, e_as_1o, e_ls_1o, e_inc_1o, e_is_1n, e_as_1n, e_ls_1n, e_inc_1n, e_il_2, e_al_2, e_ll_2, e_is_2i, e_as_2i, e_ls_2i, e_inc_2i, e_is_2o, e_as_2o, e_ls_2o, e_inc_2o, e_is_2n, e_as_2n, e_ls_2n, e_inc_2n, e_il_3, e_al_3, e_ll_3, e_is_3i, e_as_3i, e_ls_3i, e_inc_3i, e_is_3o, e_as_3o, e_ls_3o, e_inc_3o, e_is_3n, e_as_3n, e_ls_3n, e_inc_3n, e_il_4, e_al_4, e_ll_4, e_is_4i, e_as_4i, e_ls_4i, e_inc_4i, e_is_4o, e_as_4o, e_ls_4o, e_inc_4o, e_is_4n, e_as_4n, e_ls_4n, e_inc_4n, e_il_5, e_al_5, e_ll_5, e_is_5i, e_as_5i, e_ls_5i, e_inc_5i, e_is_5o, e_as_5o, e_ls_5o, e_inc_5o, e_is_5n, e_as_5n, e_ls_5n, e_inc_5n, e_il_6, e_al_6, e_ll_6, e_is_6i, e_as_6i, e_ls_6i, e_inc_6i, e_is_6o, e_as_6o, e_ls_6o, e_inc_6o, e_is_6n, e_as_6n, e_ls_6n, e_inc_6n, e_il_7, e_al_7, e_ll_7, e_is_7i, e_as_7i, e_ls_7i, e_inc_7i, e_is_7o, e_as_7o, e_ls_7o, e_inc_7o, e_is_7n, e_as_7n, e_ls_7n, e_inc_7n, e_il_8, e_al_8, e_ll_8, e_is_8i, e_as_8i, e_ls_8i, e_inc_8i, e_is_8o, e_as_8o, e_ls_8o, e_inc_8o, e_is_8n, e_as_8n, e_ls_8n, e_inc_8n, e_il_9, e_al_9, e_ll_9, e_is_9i, e_as_9i, e_ls_9i, e_inc_9i, e_is_9o, e_as_9o, e_ls_9o, e_inc_9o, e_is_9n, e_as_9n, e_ls_9n, e_inc_9n, e_il_10, e_al_10, e_ll_10, e_is_10i, e_as_10i, e_ls_10i, e_inc_10i, e_is_10o, e_as_10o, e_ls_10o, e_inc_10o, e_is_10n, e_as_10n, e_ls_10n, e_inc_10n, e_il_11, e_al_11, e_ll_11, e_is_11i, e_as_11i, e_ls_11i, e_inc_11i, e_is_11o, e_as_11o, e_ls_11o, e_inc_11o, e_is_11n, e_as_11n, e_ls_11n, e_inc_11n, e_il_12, e_al_12, e_ll_12, e_is_12i, e_as_12i, e_ls_12i, e_inc_12i, e_is_12o, e_as_12o, e_ls_12o, e_inc_12o, e_is_12n, e_as_12n, e_ls_12n, e_inc_12n, e_dup_i, e_pop_i, e_dup2_ii, e_dup2_io, e_dup_o, e_pop_o, e_dup2_oi, e_dup2_oo, e_ir, e_zr, e_br, e_lr, e_ar, e_vr, e_cut, e_cS_0, e_cV_1, e_cS_1, e_cV_2, e_cS_2, e_cV_3, e_cS_3, e_cV_4, e_cS_4, e_cV_5, e_cS_5, e_cV_6, e_cS_6, e_cV_7, e_cS_7, e_swn, e_swc, e_tls, e_tln, gI_sI, gI_sA, gR_sI, gR_sA, gI_sR, gR_sR, hN_sI, hN_sA, hN_sR, isO_sI, isO_sA, isO_sR, isAr_sI, isAr_sA, isAr_sR, hC_sI, hC_sA, hC_sR, hZ_sI, hZ_sA, hZ_sR, MW_sI, MW_sA, true_and, and_true, true_or, or_true, and_self, forall_const, imp_self, implies_true, if_true, if_false, false_and, and_false, false_or, or_false, not_false_eq_true, not_true_eq_false, sI_sI, entA, fitL, List.length_cons, List.length_nil, List.nil_append, List.cons_append, false_imp_iff, true_imp_iff, pn1, pn2, MW_sI, CW_sI, cr_Ho_0 w, cr_Ho_3 w, cr_Ho_4 w, cr_Ho_5 w, cr_Ho_6 w, cr_Ho_7 w, cr_Ho_8 w, cr_Ho_9 w, cr_Ho_13 w, cr_Ho_15 w, cr_Ho_16 w, cr_Ws_0 w, cr_Ss_0 w, cr_Re_0 w, cr_Re_1 w, cr_Re_2 w, cr_Re_3 w, cr_Ta_0 w, cr_Ta_1 w, cr_Ta_2 w, cr_Ta_3 w, cr_Ta_4 w, cr_Ta_5 w, cr_Ta_6 w, cr_Wa_0 w, cr_Wa_2 w, cr_Wa_3 w, cr_Wa_4 w, cr_Wa_5 w, cr_Wa_6 w, cr_Lo_0 w, cr_Lo_1 w, cr_Lo_2 w, cr_Lo_3 w, cr_Lo_4 w, cr_Sh_0 w, cr_Sh_1 w, cr_Sh_2 w, co_Ho w, ca_Ho_tape w, cl_Ho_tape, co_Ws w, co_Ss w, co_Ask w, co_Re w, co_Ta w, co_Fi w, co_Wa w, ca_Ho_told w, cl_Ho_told, co_Lo w, co_Sh w, ca_Ws_e w, cl_Ws_e, ca_Ss_e w, cl_Ss_e, ca_Re_sums w, cl_Re_sums, ca_Re_firsts w, cl_Re_firsts, co_Atom w, co_Raised w, ca_Ta_cells w, cl_Ta_cells, ca_Ta_numbers w, cl_Ta_numbers, ca_Ta_done w, cl_Ta_done, ca_Ta_order w, cl_Ta_order, ca_Ta_spare w, cl_Ta_spare, ca_Ta_parents w, cl_Ta_parents, ca_Ta_melting w, cl_Ta_melting, ca_Wa_queue w, cl_Wa_queue, ca_Wa_origins w, cl_Wa_origins, ca_Wa_vias w, cl_Wa_vias, ca_Wa_lengths w, cl_Wa_lengths, ca_Wa_seen w, cl_Wa_seen, co_Single w, ca_Lo_cells w, cl_Lo_cells, ca_Lo_kept w, cl_Lo_kept, ca_Lo_keptRows w, cl_Lo_keptRows, ca_Lo_names w, cl_Lo_names, ca_Lo_met w, cl_Lo_met, ca_Sh_cells w, cl_Sh_cells, ca_Sh_seen w, cl_Sh_seen, ca_Sh_queue w, cl_Sh_queue, CW_sI, CW_sA]
  refine ⟨w, u, hu, ru, t0, t1, fun h1 f1 => ?_⟩
  rw [← hV]
  have w1 := FrP_CW f1 w
  have f1' : FrP (Prs D) h h1 := FrP_mono (fun _ _ z => Or.inl z) f1
  have hb1 : WR h1 (sumP D) b := (WR_pw f1 (by omega) (by omega) (by omega)).mpr hb
  have cs := cr_sum w1 (k := D) (by omega)
  refine ⟨fun vl hv => ⟨co_Re w1, ?_⟩, fun vl => ⟨co_Re w1, w1, hp0 (Or.inl vl) h1 f1'⟩⟩
  simp (decide := true) only [↓E_Re_readFactor_0, ↓E_Re_readFactor_15, ↓E_Re_readFactor_42, ↓E_Re_readFactor_65, ↓E_Re_readFactor_74, ↓E_Re_readFactor_78, ↓E_Re_readFactor_79, ↓ce_Re_readAtom, ↓ce_Re_skipBlanks, ↓ce_Re_peek, ↓ce_Re_readPower, ↓ce_Re_raiseAtom, ↓ce_Wo_joinWord, ↓ce_Re_stop, ↓e_ci, ↓e_cl, ↓e_nul, ↓e_add, ↓e_sub, ↓e_mul, ↓e_ladd, ↓e_lmul, ↓e_div, ↓e_rem, ↓e_ldiv, ↓e_lrem, ↓e_zeq, ↓e_zne, ↓e_zlt, ↓e_zge, ↓e_zgt, ↓e_zle, ↓e_ceq, ↓e_cne, ↓e_clt, ↓e_cge, ↓e_cgt, ↓e_cle, ↓e_nn, ↓e_gI, ↓e_gR, ↓e_pI, ↓e_pZ, ↓e_pR, ↓e_ia, ↓e_ba, ↓e_za, ↓e_iS, ↓e_bS, ↓e_zS, ↓e_aa, ↓e_aS, ↓e_len, ↓e_and, ↓e_xor, ↓e_shr, ↓e_ushr, ↓e_lcmp, ↓e_i2b, ↓e_i2l, ↓e_l2i, ↓e_sw, ↓e_min, ↓e_max, ↓e_acp, ↓e_il_0, ↓e_al_0, ↓e_ll_0, ↓e_is_0n, ↓e_as_0n, ↓e_ls_0n, ↓e_inc_0n, ↓e_il_1, ↓e_al_1, ↓e_ll_1, ↓e_is_1i, ↓e_as_1i, ↓e_ls_1i, ↓e_inc_1i, ↓e_is_1o, ↓e_as_1o, ↓e_ls_1o, ↓e_inc_1o, ↓e_is_1n, ↓e_as_1n, ↓e_ls_1n, ↓e_inc_1n, ↓e_il_2, ↓e_al_2, ↓e_ll_2, ↓e_is_2i, ↓e_as_2i, ↓e_ls_2i, ↓e_inc_2i, ↓e_is_2o, ↓e_as_2o, ↓e_ls_2o, ↓e_inc_2o, ↓e_is_2n, ↓e_as_2n, ↓e_ls_2n, ↓e_inc_2n, ↓e_il_3, ↓e_al_3, ↓e_ll_3, ↓e_is_3i, ↓e_as_3i, ↓e_ls_3i, ↓e_inc_3i, ↓e_is_3o, ↓e_as_3o, ↓e_ls_3o, ↓e_inc_3o, ↓e_is_3n, ↓e_as_3n, ↓e_ls_3n, ↓e_inc_3n, ↓e_il_4, ↓e_al_4, ↓e_ll_4, ↓e_is_4i, ↓e_as_4i, ↓e_ls_4i, ↓e_inc_4i, ↓e_is_4o, ↓e_as_4o, ↓e_ls_4o, ↓e_inc_4o, ↓e_is_4n, ↓e_as_4n, ↓e_ls_4n, ↓e_inc_4n, ↓e_il_5, ↓e_al_5, ↓e_ll_5, ↓e_is_5i, ↓e_as_5i, ↓e_ls_5i, ↓e_inc_5i, ↓e_is_5o, ↓e_as_5o, ↓e_ls_5o, ↓e_inc_5o, ↓e_is_5n, ↓e_as_5n, ↓e_ls_5n, ↓e_inc_5n, ↓e_il_6, ↓e_al_6, ↓e_ll_6, ↓e_is_6i, ↓e_as_6i, ↓e_ls_6i, ↓e_inc_6i, ↓e_is_6o, ↓e_as_6o, ↓e_ls_6o, ↓e_inc_6o, ↓e_is_6n, ↓e_as_6n, ↓e_ls_6n, ↓e_inc_6n, ↓e_il_7, ↓e_al_7, ↓e_ll_7, ↓e_is_7i, ↓e_as_7i, ↓e_ls_7i, ↓e_inc_7i, ↓e_is_7o, ↓e_as_7o, ↓e_ls_7o, ↓e_inc_7o, ↓e_is_7n, ↓e_as_7n, ↓e_ls_7n, ↓e_inc_7n, ↓e_il_8, ↓e_al_8, ↓e_ll_8, ↓e_is_8i, ↓e_as_8i, ↓e_ls_8i, ↓e_inc_8i, ↓e_is_8o, ↓e_as_8o, ↓e_ls_8o, ↓e_inc_8o, ↓e_is_8n, ↓e_as_8n, ↓e_ls_8n, ↓e_inc_8n, ↓e_il_9, ↓e_al_9, ↓e_ll_9, ↓e_is_9i, ↓e_as_9i, ↓e_ls_9i, ↓e_inc_9i, ↓e_is_9o, ↓e_as_9o, ↓e_ls_9o, ↓e_inc_9o, ↓e_is_9n, ↓e_as_9n, ↓e_ls_9n, ↓e_inc_9n, ↓e_il_10, ↓e_al_10, ↓e_ll_10, ↓e_is_10i, ↓e_as_10i, ↓e_ls_10i, ↓e_inc_10i, ↓e_is_10o, ↓e_as_10o, ↓e_ls_10o, ↓e_inc_10o, ↓e_is_10n, ↓e_as_10n, ↓e_ls_10n, ↓e_inc_10n, ↓e_il_11, ↓e_al_11, ↓e_ll_11, ↓e_is_11i, ↓e_as_11i, ↓e_ls_11i, ↓e_inc_11i, ↓e_is_11o, ↓e_as_11o, ↓e_ls_11o, ↓e_inc_11o, ↓e_is_11n, ↓e_as_11n, ↓e_ls_11n, ↓e_inc_11n, ↓e_il_12, ↓e_al_12, ↓e_ll_12, ↓e_is_12i, ↓e_as_12i, ↓e_ls_12i, ↓e_inc_12i, ↓e_is_12o, ↓e_as_12o, ↓e_ls_12o, ↓e_inc_12o, ↓e_is_12n, ↓e_as_12n, ↓e_ls_12n, ↓e_inc_12n, ↓e_dup_i, ↓e_pop_i, ↓e_dup2_ii, ↓e_dup2_io, ↓e_dup_o, ↓e_pop_o, ↓e_dup2_oi, ↓e_dup2_oo, ↓e_ir, ↓e_zr, ↓e_br, ↓e_lr, ↓e_ar, ↓e_vr, ↓e_cut, ↓e_cS_0, ↓e_cV_1, ↓e_cS_1, ↓e_cV_2, ↓e_cS_2, ↓e_cV_3, ↓e_cS_3, ↓e_cV_4, ↓e_cS_4, ↓e_cV_5, ↓e_cS_5, ↓e_cV_6, ↓e_cS_6, ↓e_cV_7, ↓e_cS_7, ↓e_swn, ↓e_swc, ↓e_tls, ↓e_tln, E_Re_readFactor_0, E_Re_readFactor_15, E_Re_readFactor_42, E_Re_readFactor_65, E_Re_readFactor_74, E_Re_readFactor_78, E_Re_readFactor_79, ce_Re_readAtom, ce_Re_skipBlanks, ce_Re_peek, ce_Re_readPower, ce_Re_raiseAtom, ce_Wo_joinWord, ce_Re_stop, e_ci, e_cl, e_nul, e_add, e_sub, e_mul, e_ladd, e_lmul, e_div, e_rem, e_ldiv, e_lrem, e_zeq, e_zne, e_zlt, e_zge, e_zgt, e_zle, e_ceq, e_cne, e_clt, e_cge, e_cgt, e_cle, e_nn, e_gI, e_gR, e_pI, e_pZ, e_pR, e_ia, e_ba, e_za, e_iS, e_bS, e_zS, e_aa, e_aS, e_len, e_and, e_xor, e_shr, e_ushr, e_lcmp, e_i2b, e_i2l, e_l2i, e_sw, e_min, e_max, e_acp, e_il_0, e_al_0, e_ll_0, e_is_0n, e_as_0n, e_ls_0n, e_inc_0n, e_il_1, e_al_1, e_ll_1, e_is_1i, e_as_1i, e_ls_1i, e_inc_1i, e_is_1o, e_as_1o, e_ls_1o, e_inc_1o, e_is_1n, e_as_1n, e_ls_1n, e_inc_1n, e_il_2, e_al_2, e_ll_2, e_is_2i, e_as_2i, e_ls_2i, e_inc_2i, e_is_2o, e_as_2o, e_ls_2o, e_inc_2o, e_is_2n, e_as_2n, e_ls_2n, e_inc_2n, e_il_3, e_al_3, e_ll_3, e_is_3i, e_as_3i, e_ls_3i, e_inc_3i, e_is_3o, e_as_3o, e_ls_3o, e_inc_3o, e_is_3n, e_as_3n, e_ls_3n, e_inc_3n, e_il_4, e_al_4, e_ll_4, e_is_4i, e_as_4i, e_ls_4i, e_inc_4i, e_is_4o, e_as_4o, e_ls_4o, e_inc_4o, e_is_4n, e_as_4n, e_ls_4n, e_inc_4n, e_il_5, e_al_5, e_ll_5, e_is_5i, e_as_5i, e_ls_5i, e_inc_5i, e_is_5o, e_as_5o, e_ls_5o, e_inc_5o, e_is_5n, e_as_5n, e_ls_5n, e_inc_5n, e_il_6, e_al_6, e_ll_6, e_is_6i, e_as_6i, e_ls_6i, e_inc_6i, e_is_6o, e_as_6o, e_ls_6o, e_inc_6o, e_is_6n, e_as_6n, e_ls_6n, e_inc_6n, e_il_7, e_al_7, e_ll_7, e_is_7i, e_as_7i, e_ls_7i, e_inc_7i, e_is_7o, e_as_7o, e_ls_7o, e_inc_7o, e_is_7n, e_as_7n, e_ls_7n, e_inc_7n, e_il_8, e_al_8, e_ll_8, e_is_8i, e_as_8i, e_ls_8i, e_inc_8i, e_is_8o, e_as_8o, e_ls_8o, e_inc_8o, e_is_8n, e_as_8n, e_ls_8n, e_inc_8n, e_il_9, e_al_9, e_ll_9, e_is_9i, e_as_9i, e_ls_9i, e_inc_9i, e_is_9o, e_as_9o, e_ls_9o, e_inc_9o, e_is_9n, e_as_9n, e_ls_9n, e_inc_9n, e_il_10, e_al_10, e_ll_10, e_is_10i, e_as_10i, e_ls_10i, e_inc_10i, e_is_10o, e_as_10o, e_ls_10o, e_inc_10o, e_is_10n, e_as_10n, e_ls_10n, e_inc_10n, e_il_11, e_al_11, e_ll_11, e_is_11i, e_as_11i, e_ls_11i, e_inc_11i, e_is_11o, e_as_11o, e_ls_11o, e_inc_11o, e_is_11n, e_as_11n, e_ls_11n, e_inc_11n, e_il_12, e_al_12, e_ll_12, e_is_12i, e_as_12i, e_ls_12i, e_inc_12i, e_is_12o, e_as_12o, e_ls_12o, e_inc_12o, e_is_12n, e_as_12n, e_ls_12n, e_inc_12n, e_dup_i, e_pop_i, e_dup2_ii, e_dup2_io, e_dup_o, e_pop_o, e_dup2_oi, e_dup2_oo, e_ir, e_zr, e_br, e_lr, e_ar, e_vr, e_cut, e_cS_0, e_cV_1, e_cS_1, e_cV_2, e_cS_2, e_cV_3, e_cS_3, e_cV_4, e_cS_4, e_cV_5, e_cS_5, e_cV_6, e_cS_6, e_cV_7, e_cS_7, e_swn, e_swc, e_tls, e_tln, gI_sI, gI_sA, gR_sI, gR_sA, gI_sR, gR_sR, hN_sI, hN_sA, hN_sR, isO_sI, isO_sA, isO_sR, isAr_sI, isAr_sA, isAr_sR, hC_sI, hC_sA, hC_sR, hZ_sI, hZ_sA, hZ_sR, MW_sI, MW_sA, true_and, and_true, true_or, or_true, and_self, forall_const, imp_self, implies_true, if_true, if_false, false_and, and_false, false_or, or_false, not_false_eq_true, not_true_eq_false, sI_sI, entA, fitL, List.length_cons, List.length_nil, List.nil_append, List.cons_append, false_imp_iff, true_imp_iff, pn1, pn2, MW_sI, CW_sI, cr_Ho_0 w1, cr_Ho_3 w1, cr_Ho_4 w1, cr_Ho_5 w1, cr_Ho_6 w1, cr_Ho_7 w1, cr_Ho_8 w1, cr_Ho_9 w1, cr_Ho_13 w1, cr_Ho_15 w1, cr_Ho_16 w1, cr_Ws_0 w1, cr_Ss_0 w1, cr_Re_0 w1, cr_Re_1 w1, cr_Re_2 w1, cr_Re_3 w1, cr_Ta_0 w1, cr_Ta_1 w1, cr_Ta_2 w1, cr_Ta_3 w1, cr_Ta_4 w1, cr_Ta_5 w1, cr_Ta_6 w1, cr_Wa_0 w1, cr_Wa_2 w1, cr_Wa_3 w1, cr_Wa_4 w1, cr_Wa_5 w1, cr_Wa_6 w1, cr_Lo_0 w1, cr_Lo_1 w1, cr_Lo_2 w1, cr_Lo_3 w1, cr_Lo_4 w1, cr_Sh_0 w1, cr_Sh_1 w1, cr_Sh_2 w1, co_Ho w1, ca_Ho_tape w1, cl_Ho_tape, co_Ws w1, co_Ss w1, co_Ask w1, co_Re w1, co_Ta w1, co_Fi w1, co_Wa w1, ca_Ho_told w1, cl_Ho_told, co_Lo w1, co_Sh w1, ca_Ws_e w1, cl_Ws_e, ca_Ss_e w1, cl_Ss_e, ca_Re_sums w1, cl_Re_sums, ca_Re_firsts w1, cl_Re_firsts, co_Atom w1, co_Raised w1, ca_Ta_cells w1, cl_Ta_cells, ca_Ta_numbers w1, cl_Ta_numbers, ca_Ta_done w1, cl_Ta_done, ca_Ta_order w1, cl_Ta_order, ca_Ta_spare w1, cl_Ta_spare, ca_Ta_parents w1, cl_Ta_parents, ca_Ta_melting w1, cl_Ta_melting, ca_Wa_queue w1, cl_Wa_queue, ca_Wa_origins w1, cl_Wa_origins, ca_Wa_vias w1, cl_Wa_vias, ca_Wa_lengths w1, cl_Wa_lengths, ca_Wa_seen w1, cl_Wa_seen, co_Single w1, ca_Lo_cells w1, cl_Lo_cells, ca_Lo_kept w1, cl_Lo_kept, ca_Lo_keptRows w1, cl_Lo_keptRows, ca_Lo_names w1, cl_Lo_names, ca_Lo_met w1, cl_Lo_met, ca_Sh_cells w1, cl_Sh_cells, ca_Sh_seen w1, cl_Sh_seen, ca_Sh_queue w1, cl_Sh_queue, CW_sI, CW_sA, cs]
  have jb := jbW_rd (n := 40) rV Vn (w := b) bl
  refine ⟨by omega, by omega, wd_O w1 (wd_Sum (by omega)), w1, wd_Sum (by omega), wP_ra, by omega, b, V, hb1, hv, fun h2 f2 hw => ?_⟩
  have f3 : FrP (Prs D) h h2 := FrP_trans f1' (FrP_mono (fun _ _ z => Or.inr z) f2)
  have w2 := FrP_CW f3 w
  rw [show pSum0 + 4 * D + 1 = sumP D + 1 from rfl, sum_ln (by omega)] at hw ⊢
  by_cases q : ((jnW b V).length : Int) ≤ 40
  · rw [jb.1 q] at hw ⊢
    exact ⟨fun _ => hp1 vl (by omega) h2 f3 hw, fun z => absurd (show (1 : Int) = 0 from z) (by decide)⟩
  · rw [jb.2 q]
    exact ⟨fun z => absurd rfl z, fun _ => ⟨co_Re w2, w2, hp0 (Or.inr (by omega)) h2 f3⟩⟩
theorem nm_nn {ch : Int → Int} {sz a : Int} : 0 ≤ nmV ch sz a := by
  unfold nmV
  refine (nvF_nn (fun j hj => ?_)).1
  have := lsF_lt0 (g := fun j => if 48 ≤ ch j ∧ ch j ≤ 57 then 0 else 1) (n := (sz - a).toNat) (x := a) (y := a + j) (by omega) (show a + (j : Int) < dgE ch sz a by omega)
  exact Classical.byContradiction fun z => by rw [if_neg z] at this; exact absurd this (by decide)
theorem pw_tm {ch : Int → Int} {sz a : Int} {u : List Int} (h : (prF ch sz a u).1 = 0) : 0 ≤ (prF ch sz a u).2.2.2.1 ∧ (prF ch sz a u).2.2.2.1 ≤ 99 := by
  rw [prF_pw] at h ⊢
  split
  · rename_i q
    rw [if_pos q] at h
    rw [pwP_dg] at h ⊢
    have key : ∀ s v, (dgP ch sz s v).1 = 0 → 0 ≤ (dgP ch sz s v).2.2.2.1 ∧ (dgP ch sz s v).2.2.2.1 ≤ 99 := by
      intro s v hh
      unfold dgP at hh ⊢
      split
      · rename_i y; rw [if_pos y] at hh; exact absurd (show (1 : Int) = 0 from hh) (by decide)
      · rename_i y
        rw [if_neg y] at hh
        split
        · rename_i x; rw [if_pos x] at hh; exact absurd (show (4 : Int) = 0 from hh) (by decide)
        · rename_i x
          exact ⟨nm_nn, by show nmV ch sz s ≤ 99; omega⟩
    split
    · rename_i y; rw [if_pos y] at h; exact key _ _ h
    · rename_i y; rw [if_neg y] at h; exact key _ _ h
  · show (0 : Int) ≤ 1 ∧ (1 : Int) ≤ 99; decide
theorem pr_ne {ch : Int → Int} {sz a : Int} {u : List Int} : (prF ch sz a u).1 ≠ -1 := by
  rw [prF_pw]
  split
  · rw [pwP_dg]
    have key : ∀ s v, (dgP ch sz s v).1 ≠ -1 := by
      intro s v
      unfold dgP
      split
      · show (1 : Int) ≠ -1; decide
      · split
        · show (4 : Int) ≠ -1; decide
        · show (0 : Int) ≠ -1; decide
    split <;> exact key _ _
  · show (0 : Int) ≠ -1; decide
theorem pr_rd {ch : Int → Int} {sz a : Int} {u : List Int} (hu : rdI u) (hn : ∀ c, c ∈ u → 0 ≤ c) : rdI (prF ch sz a u).2.2.1 := by
  rw [prF_pw]
  split
  · rw [pwP_dg]
    have key : ∀ s v, rdI v → rdI (dgP ch sz s v).2.2.1 := by
      intro s v hv
      unfold dgP
      split
      · exact rdI_nil
      · split
        · exact rdI_nil
        · exact hv
    split
    · exact key _ _ (rdI_trn hu hn)
    · exact key _ _ hu
  · exact hu
theorem step_Re_readFactor (d : Nat) (hm_Re_readAtom : MetP y_Re_readAtom (md_Re_readAtom d) (fun _ => 0) (fun _ => 0) (Ct_Re_readAtom d)) : MetP y_Re_readFactor (md_Re_readFactor (d + 1)) (fun _ => 0) (fun _ => 0) (Ct_Re_readFactor (d + 1)) := by
  refine met0 (body := (B_Re_readFactor_0 (Ct_Re_readAtom d))) (by decide) rfl rfl (fun lc lz => S_Re_readFactor_0 d lc lz hm_Re_readAtom) ?_
  intro av h post hc hH hav
  unfold Ct_Re_readFactor at hc
  split at hc
  rotate_left
  · exact hc.elim
  rename_i p dep
  obtain ⟨rfl, sz, m, D, s, rfl, D8, hc, hl, hb, h49, r0, r1, ea, hS, hT, hs, hd, hp⟩ := hc
  refine ⟨Nat.le_of_ble_eq_true rfl, ?_⟩
  obtain ⟨w, h4, h5, z0, z1, h7, m1, m5⟩ := id hc
  simp (decide := true) only [↓E_Re_readFactor_0, ↓E_Re_readFactor_42, ↓E_Re_readFactor_65, ↓E_Re_readFactor_74, ↓E_Re_readFactor_78, ↓E_Re_readFactor_79, ↓ce_Re_readAtom, ↓ce_Re_skipBlanks, ↓ce_Re_peek, ↓ce_Re_readPower, ↓ce_Re_raiseAtom, ↓ce_Wo_joinWord, ↓ce_Re_stop, ↓e_ci, ↓e_cl, ↓e_nul, ↓e_add, ↓e_sub, ↓e_mul, ↓e_ladd, ↓e_lmul, ↓e_div, ↓e_rem, ↓e_ldiv, ↓e_lrem, ↓e_zeq, ↓e_zne, ↓e_zlt, ↓e_zge, ↓e_zgt, ↓e_zle, ↓e_ceq, ↓e_cne, ↓e_clt, ↓e_cge, ↓e_cgt, ↓e_cle, ↓e_nn, ↓e_gI, ↓e_gR, ↓e_pI, ↓e_pZ, ↓e_pR, ↓e_ia, ↓e_ba, ↓e_za, ↓e_iS, ↓e_bS, ↓e_zS, ↓e_aa, ↓e_aS, ↓e_len, ↓e_and, ↓e_xor, ↓e_shr, ↓e_ushr, ↓e_lcmp, ↓e_i2b, ↓e_i2l, ↓e_l2i, ↓e_sw, ↓e_min, ↓e_max, ↓e_acp, ↓e_il_0, ↓e_al_0, ↓e_ll_0, ↓e_is_0n, ↓e_as_0n, ↓e_ls_0n, ↓e_inc_0n, ↓e_il_1, ↓e_al_1, ↓e_ll_1, ↓e_is_1i, ↓e_as_1i, ↓e_ls_1i, ↓e_inc_1i, ↓e_is_1o, ↓e_as_1o, ↓e_ls_1o, ↓e_inc_1o, ↓e_is_1n, ↓e_as_1n, ↓e_ls_1n, ↓e_inc_1n, ↓e_il_2, ↓e_al_2, ↓e_ll_2, ↓e_is_2i, ↓e_as_2i, ↓e_ls_2i, ↓e_inc_2i, ↓e_is_2o, ↓e_as_2o, ↓e_ls_2o, ↓e_inc_2o, ↓e_is_2n, ↓e_as_2n, ↓e_ls_2n, ↓e_inc_2n, ↓e_il_3, ↓e_al_3, ↓e_ll_3, ↓e_is_3i, ↓e_as_3i, ↓e_ls_3i, ↓e_inc_3i, ↓e_is_3o, ↓e_as_3o, ↓e_ls_3o, ↓e_inc_3o, ↓e_is_3n, ↓e_as_3n, ↓e_ls_3n, ↓e_inc_3n, ↓e_il_4, ↓e_al_4, ↓e_ll_4, ↓e_is_4i, ↓e_as_4i, ↓e_ls_4i, ↓e_inc_4i, ↓e_is_4o, ↓e_as_4o, ↓e_ls_4o, ↓e_inc_4o, ↓e_is_4n, ↓e_as_4n, ↓e_ls_4n, ↓e_inc_4n, ↓e_il_5, ↓e_al_5, ↓e_ll_5, ↓e_is_5i, ↓e_as_5i, ↓e_ls_5i, ↓e_inc_5i, ↓e_is_5o, ↓e_as_5o, ↓e_ls_5o, ↓e_inc_5o, ↓e_is_5n, ↓e_as_5n, ↓e_ls_5n, ↓e_inc_5n, ↓e_il_6, ↓e_al_6, ↓e_ll_6, ↓e_is_6i, ↓e_as_6i, ↓e_ls_6i, ↓e_inc_6i, ↓e_is_6o, ↓e_as_6o, ↓e_ls_6o, ↓e_inc_6o, ↓e_is_6n, ↓e_as_6n, ↓e_ls_6n, ↓e_inc_6n, ↓e_il_7, ↓e_al_7, ↓e_ll_7, ↓e_is_7i, ↓e_as_7i, ↓e_ls_7i, ↓e_inc_7i, ↓e_is_7o, ↓e_as_7o, ↓e_ls_7o, ↓e_inc_7o, ↓e_is_7n, ↓e_as_7n, ↓e_ls_7n, ↓e_inc_7n, ↓e_il_8, ↓e_al_8, ↓e_ll_8, ↓e_is_8i, ↓e_as_8i, ↓e_ls_8i, ↓e_inc_8i, ↓e_is_8o, ↓e_as_8o, ↓e_ls_8o, ↓e_inc_8o, ↓e_is_8n, ↓e_as_8n, ↓e_ls_8n, ↓e_inc_8n, ↓e_il_9, ↓e_al_9, ↓e_ll_9, ↓e_is_9i, ↓e_as_9i, ↓e_ls_9i, ↓e_inc_9i, ↓e_is_9o, ↓e_as_9o, ↓e_ls_9o, ↓e_inc_9o, ↓e_is_9n, ↓e_as_9n, ↓e_ls_9n, ↓e_inc_9n, ↓e_il_10, ↓e_al_10, ↓e_ll_10, ↓e_is_10i, ↓e_as_10i, ↓e_ls_10i, ↓e_inc_10i, ↓e_is_10o, ↓e_as_10o, ↓e_ls_10o, ↓e_inc_10o, ↓e_is_10n, ↓e_as_10n, ↓e_ls_10n, ↓e_inc_10n, ↓e_il_11, ↓e_al_11, ↓e_ll_11, ↓e_is_11i, ↓e_as_11i, ↓e_ls_11i, ↓e_inc_11i, ↓e_is_11o, ↓e_as_11o, ↓e_ls_11o, ↓e_inc_11o, ↓e_is_11n, ↓e_as_11n, ↓e_ls_11n, ↓e_inc_11n, ↓e_il_12, ↓e_al_12, ↓e_ll_12, ↓e_is_12i, ↓e_as_12i, ↓e_ls_12i, ↓e_inc_12i, ↓e_is_12o, ↓e_as_12o, ↓e_ls_12o, ↓e_inc_12o, ↓e_is_12n, ↓e_as_12n, ↓e_ls_12n, ↓e_inc_12n, ↓e_dup_i, ↓e_pop_i, ↓e_dup2_ii, ↓e_dup2_io, ↓e_dup_o, ↓e_pop_o, ↓e_dup2_oi, ↓e_dup2_oo, ↓e_ir, ↓e_zr, ↓e_br, ↓e_lr, ↓e_ar, ↓e_vr, ↓e_cut, ↓e_cS_0, ↓e_cV_1, ↓e_cS_1, ↓e_cV_2, ↓e_cS_2, ↓e_cV_3, ↓e_cS_3, ↓e_cV_4, ↓e_cS_4, ↓e_cV_5, ↓e_cS_5, ↓e_cV_6, ↓e_cS_6, ↓e_cV_7, ↓e_cS_7, ↓e_swn, ↓e_swc, ↓e_tls, ↓e_tln, E_Re_readFactor_0, E_Re_readFactor_42, E_Re_readFactor_65, E_Re_readFactor_74, E_Re_readFactor_78, E_Re_readFactor_79, ce_Re_readAtom, ce_Re_skipBlanks, ce_Re_peek, ce_Re_readPower, ce_Re_raiseAtom, ce_Wo_joinWord, ce_Re_stop, e_ci, e_cl, e_nul, e_add, e_sub, e_mul, e_ladd, e_lmul, e_div, e_rem, e_ldiv, e_lrem, e_zeq, e_zne, e_zlt, e_zge, e_zgt, e_zle, e_ceq, e_cne, e_clt, e_cge, e_cgt, e_cle, e_nn, e_gI, e_gR, e_pI, e_pZ, e_pR, e_ia, e_ba, e_za, e_iS, e_bS, e_zS, e_aa, e_aS, e_len, e_and, e_xor, e_shr, e_ushr, e_lcmp, e_i2b, e_i2l, e_l2i, e_sw, e_min, e_max, e_acp, e_il_0, e_al_0, e_ll_0, e_is_0n, e_as_0n, e_ls_0n, e_inc_0n, e_il_1, e_al_1, e_ll_1, e_is_1i, e_as_1i, e_ls_1i, e_inc_1i, e_is_1o, e_as_1o, e_ls_1o, e_inc_1o, e_is_1n, e_as_1n, e_ls_1n, e_inc_1n, e_il_2, e_al_2, e_ll_2, e_is_2i, e_as_2i, e_ls_2i, e_inc_2i, e_is_2o, e_as_2o, e_ls_2o, e_inc_2o, e_is_2n, e_as_2n, e_ls_2n, e_inc_2n, e_il_3, e_al_3, e_ll_3, e_is_3i, e_as_3i, e_ls_3i, e_inc_3i, e_is_3o, e_as_3o, e_ls_3o, e_inc_3o, e_is_3n, e_as_3n, e_ls_3n, e_inc_3n, e_il_4, e_al_4, e_ll_4, e_is_4i, e_as_4i, e_ls_4i, e_inc_4i, e_is_4o, e_as_4o, e_ls_4o, e_inc_4o, e_is_4n, e_as_4n, e_ls_4n, e_inc_4n, e_il_5, e_al_5, e_ll_5, e_is_5i, e_as_5i, e_ls_5i, e_inc_5i, e_is_5o, e_as_5o, e_ls_5o, e_inc_5o, e_is_5n, e_as_5n, e_ls_5n, e_inc_5n, e_il_6, e_al_6, e_ll_6, e_is_6i, e_as_6i, e_ls_6i, e_inc_6i, e_is_6o, e_as_6o, e_ls_6o, e_inc_6o, e_is_6n, e_as_6n, e_ls_6n, e_inc_6n, e_il_7, e_al_7, e_ll_7, e_is_7i, e_as_7i, e_ls_7i, e_inc_7i, e_is_7o, e_as_7o, e_ls_7o, e_inc_7o, e_is_7n, e_as_7n, e_ls_7n, e_inc_7n, e_il_8, e_al_8, e_ll_8, e_is_8i, e_as_8i, e_ls_8i, e_inc_8i, e_is_8o, e_as_8o, e_ls_8o, e_inc_8o, e_is_8n, e_as_8n, e_ls_8n, e_inc_8n, e_il_9, e_al_9, e_ll_9, e_is_9i, e_as_9i, e_ls_9i, e_inc_9i, e_is_9o, e_as_9o, e_ls_9o, e_inc_9o, e_is_9n, e_as_9n, e_ls_9n, e_inc_9n, e_il_10, e_al_10, e_ll_10, e_is_10i, e_as_10i, e_ls_10i, e_inc_10i, e_is_10o, e_as_10o, e_ls_10o, e_inc_10o, e_is_10n, e_as_10n, e_ls_10n, e_inc_10n, e_il_11, e_al_11, e_ll_11, e_is_11i, e_as_11i, e_ls_11i, e_inc_11i, e_is_11o, e_as_11o, e_ls_11o, e_inc_11o, e_is_11n, e_as_11n, e_ls_11n, e_inc_11n, e_il_12, e_al_12, e_ll_12, e_is_12i, e_as_12i, e_ls_12i, e_inc_12i, e_is_12o, e_as_12o, e_ls_12o, e_inc_12o, e_is_12n, e_as_12n, e_ls_12n, e_inc_12n, e_dup_i, e_pop_i, e_dup2_ii, e_dup2_io, e_dup_o, e_pop_o, e_dup2_oi, e_dup2_oo, e_ir, e_zr, e_br, e_lr, e_ar, e_vr, e_cut, e_cS_0, e_cV_1, e_cS_1, e_cV_2, e_cS_2, e_cV_3, e_cS_3, e_cV_4, e_cS_4, e_cV_5, e_cS_5, e_cV_6, e_cS_6, e_cV_7, e_cS_7, e_swn, e_swc, e_tls, e_tln, gI_sI, gI_sA, gR_sI, gR_sA, gI_sR, gR_sR, hN_sI, hN_sA, hN_sR, isO_sI, isO_sA, isO_sR, isAr_sI, isAr_sA, isAr_sR, hC_sI, hC_sA, hC_sR, hZ_sI, hZ_sA, hZ_sR, MW_sI, MW_sA, true_and, and_true, true_or, or_true, and_self, forall_const, imp_self, implies_true, if_true, if_false, false_and, and_false, false_or, or_false, not_false_eq_true, not_true_eq_false, sI_sI, entA, fitL, List.length_cons, List.length_nil, List.nil_append, List.cons_append, false_imp_iff, true_imp_iff, pn1, pn2, MW_sI, CW_sI, cr_Ho_0 w, cr_Ho_3 w, cr_Ho_4 w, cr_Ho_5 w, cr_Ho_6 w, cr_Ho_7 w, cr_Ho_8 w, cr_Ho_9 w, cr_Ho_13 w, cr_Ho_15 w, cr_Ho_16 w, cr_Ws_0 w, cr_Ss_0 w, cr_Re_0 w, cr_Re_1 w, cr_Re_2 w, cr_Re_3 w, cr_Ta_0 w, cr_Ta_1 w, cr_Ta_2 w, cr_Ta_3 w, cr_Ta_4 w, cr_Ta_5 w, cr_Ta_6 w, cr_Wa_0 w, cr_Wa_2 w, cr_Wa_3 w, cr_Wa_4 w, cr_Wa_5 w, cr_Wa_6 w, cr_Lo_0 w, cr_Lo_1 w, cr_Lo_2 w, cr_Lo_3 w, cr_Lo_4 w, cr_Sh_0 w, cr_Sh_1 w, cr_Sh_2 w, co_Ho w, ca_Ho_tape w, cl_Ho_tape, co_Ws w, co_Ss w, co_Ask w, co_Re w, co_Ta w, co_Fi w, co_Wa w, ca_Ho_told w, cl_Ho_told, co_Lo w, co_Sh w, ca_Ws_e w, cl_Ws_e, ca_Ss_e w, cl_Ss_e, ca_Re_sums w, cl_Re_sums, ca_Re_firsts w, cl_Re_firsts, co_Atom w, co_Raised w, ca_Ta_cells w, cl_Ta_cells, ca_Ta_numbers w, cl_Ta_numbers, ca_Ta_done w, cl_Ta_done, ca_Ta_order w, cl_Ta_order, ca_Ta_spare w, cl_Ta_spare, ca_Ta_parents w, cl_Ta_parents, ca_Ta_melting w, cl_Ta_melting, ca_Wa_queue w, cl_Wa_queue, ca_Wa_origins w, cl_Wa_origins, ca_Wa_vias w, cl_Wa_vias, ca_Wa_lengths w, cl_Wa_lengths, ca_Wa_seen w, cl_Wa_seen, co_Single w, ca_Lo_cells w, cl_Lo_cells, ca_Lo_kept w, cl_Lo_kept, ca_Lo_keptRows w, cl_Lo_keptRows, ca_Lo_names w, cl_Lo_names, ca_Lo_met w, cl_Lo_met, ca_Sh_cells w, cl_Sh_cells, ca_Sh_seen w, cl_Sh_seen, ca_Sh_queue w, cl_Sh_queue, CW_sI, CW_sA]
  refine ⟨sz, m, D, s, rfl, D8, hc, hl, hb, h49, r0, r1, ea, hS, hT, hs, by omega, fun h1 v f1 o1 => ?_⟩
  obtain ⟨a, ha⟩ : ∃ a, a = gI h pRe 6 := ⟨_, rfl⟩
  obtain ⟨ch, hch⟩ : ∃ ch, ch = chR h sz := ⟨_, rfl⟩
  rw [← ha] at ea ⊢
  rw [← hch] at ea
  unfold faO at hp
  rw [← ha, ← hch] at hp
  unfold atO at o1
  rw [← ha, ← hch] at o1
  have ec1 : chR h1 sz = ch := by rw [hch]; exact chR_fr f1
  have w1 := FrP_CW f1 w
  have rc1 := rC_fr f1 hc
  have hcE : ∀ j, sz ≤ j → ch j = -1 := fun j hj => by rw [hch]; exact chR_end hj
  refine ⟨fun v0 => ?_, fun v0 => ?_⟩
  rotate_left
  · obtain ⟨-, no⟩ := o1.resolve_left (fun z => by rw [v0] at z; exact absurd z.1 (by decide))
    exact ⟨hp h1 0 f1 (Or.inr ⟨rfl, no⟩), f1.2.2.2.1, f1.2.2.2.2⟩
  · obtain ⟨-, a2, U, hf, q1, q2, q3, q4, q5, q6, q7, q8, q9⟩ := o1.resolve_right (fun z => v0 z.1)
    obtain ⟨s2, g, g1, g2, g3⟩ := hf
    have kr := skA_le (ch := ch) r1
    have k2 := skA_le (ch := ch) q3
    have Un : ∀ c, c ∈ U → 0 ≤ c := fun c hc => (q4.2.2.2 c hc).1
    obtain ⟨F, hF⟩ : ∃ F, F = faF ch sz a2 U (rpl s (2 * D)) a := ⟨_, rfl⟩
    have hstep := g2 F hF
    obtain ⟨P, hP⟩ : ∃ P, P = prF ch sz a2 U := ⟨_, rfl⟩
    have eF : F = if P.1 ≠ 0 then (P.1, P.2.1, [], 0) else if 40 < (pwW P.2.2.1 P.2.2.2.1.toNat).length then (2, a, [], 0) else if 40 < (jnW (rpl s (2 * D)) (pwW P.2.2.1 P.2.2.2.1.toNat)).length then (2, a, [], 0) else (0, 0, jnW (rpl s (2 * D)) (pwW P.2.2.1 P.2.2.2.1.toNat), P.2.2.2.2) := by rw [hF, hP]; rfl
    have bad : ∀ e k, F = (e, k, [], 0) → e ≠ 0 → e ≠ -1 → ∀ h', gI h' pRe 9 = e → gI h' pRe 10 = k → rNo ch sz m h' s := by
      intro e k x e0 e1 h' x9 x10
      have y : rsS ch sz m s2 = (e, k, s2) := by
        rw [hstep]; unfold faR
        rw [x]
        exact if_pos e0
      exact ⟨s2, g1, by rw [y]; exact e0, by rw [y]; exact e1, by rw [y]; exact x9, by rw [y]; exact x10⟩
    -- from the raising on
    have b42 : P.1 = 0 → ∀ (K : TK) (h2 : PH), FrP Prr h h2 → flK h h2 → gI h2 pRe 6 = skA ch sz P.2.2.2.2 → gI h2 pRe 8 = P.2.2.2.1 → WR h2 pAtom P.2.2.1 → (∀ i, i ≤ D → (∀ u, WR h1 (sumP i) u → WR h2 (sumP i) u) ∧ ∀ u, WR h1 (firP i) u → WR h2 (firP i) u) → B_Re_readFactor_42 (Ct_Re_readAtom d) K (fun r h' => post r h' ∧ hC h' = hC h ∧ hZ h' = hZ h) [some (.inr (.inl (some pRe))), some (.inl (D : Int)), some (.inl a)] [] h2 := by
      intro P0 K h2 f2 fl2 e6 e8 hw2 mv
      have w2 := FrP_CW f2 w
      have tm := pw_tm (ch := ch) (sz := sz) (a := a2) (u := U) (by rw [← hP]; exact P0)
      have rd := pr_rd (ch := ch) (sz := sz) (a := a2) q5 Un
      have pa := prF_at (u := U) q3 hcE (by rw [← hP]; exact P0)
      rw [← hP] at tm rd pa
      have k3 := skA_le (ch := ch) pa.2
      have e1 := sm_re
      have e2 := sm_i D
      have q8' := q8
      unfold SWs at q8'
      refine rf_42 w2 D8 hw2 rd ((mv D (Nat.le_refl _)).1 _ q8'.1) q8'.2 (by rw [e8]; exact tm.1) (by rw [e8]; exact tm.2) (fun l1 l2 h3 f3 hw3 => ?_) (fun lo h3 f3 => ?_)
      · rw [e8] at l1 l2 hw3
        have f4 : FrP Prr h h3 := FrP_trans f2 (FrP_mono (fun b j z => z.elim (Pw_rr (by omega) (by omega) b j) (Pw_rr (by omega) (by omega) b j)) f3)
        have nP : ∀ j, ¬ Prs D pRe j := fun j z => by
          rcases z with (⟨z, -⟩ | z) | (⟨z, -⟩ | z) <;> omega
        have eG : F = (0, 0, jnW (rpl s (2 * D)) (pwW P.2.2.1 P.2.2.2.1.toNat), P.2.2.2.2) := by
          rw [eF, if_neg (fun z => z P0), if_neg (by omega), if_neg (by omega)]
        obtain ⟨y1, y2, y3, y4, y5⟩ := g3 F
        have hst : rsS ch sz m s2 = (0, 0, g F) := by
          rw [hstep]; unfold faR
          refine if_neg (fun z => z ?_)
          rw [eG]
        have sw : ∀ i, i < D → (∀ u, WR h1 (sumP i) u → WR h3 (sumP i) u) ∧ ∀ u, WR h1 (firP i) u → WR h3 (firP i) u := fun i hi => by
          have e3 := sm_i i
          have m2 := mv i (by omega)
          exact ⟨fun u x => (WR_fr f3 (fun z => by rcases z with (⟨z, -⟩ | z) | (⟨z, -⟩ | z) <;> omega) (fun j z => by rcases z with (⟨z, -⟩ | z) | (⟨z, -⟩ | z) <;> omega)).mpr (m2.1 u x), fun u x => (WR_fr f3 (fun z => by rcases z with (⟨z, -⟩ | z) | (⟨z, -⟩ | z) <;> omega) (fun j z => by rcases z with (⟨z, -⟩ | z) | (⟨z, -⟩ | z) <;> omega)).mpr (m2.2 u x)⟩
        have swD : ∀ u, WR h1 (firP D) u → WR h3 (firP D) u := fun u x => (WR_fr f3 (fun z => by rcases z with (⟨z, -⟩ | z) | (⟨z, -⟩ | z) <;> omega) (fun j z => by rcases z with (⟨z, -⟩ | z) | (⟨z, -⟩ | z) <;> omega)).mpr ((mv D (Nat.le_refl _)).2 u x)
        have eR : rat (g F) = P.2.2.2.2 := by rw [y5, eG]
        have un : ∀ c, c ∈ P.2.2.1 → 0 ≤ c := fun c hc => (hw2.2.2.2 c hc).1
        refine ⟨hp h3 1 f4 (Or.inl ⟨rfl, g F, Srn_trans g1 (Srn_one hst), y1, y2, y3, by omega, by omega, ?_, ?_, SWl_mv (fun i hi => (y1.2.1 i hi).1) (fun j hj => y1.2.2.2 j hj) sw q6, SWt_eq y2.1 y2.2 swD q7, ?_, ?_⟩), f4.2.2.2.1, f4.2.2.2.2⟩
        · rw [f3.1 _ _ (nP _), e6]; omega
        · rw [f3.1 _ _ (nP _), e6, eR]
        · unfold SWs
          rw [y4, eG]
          exact ⟨hw3, rdI_jnW q8'.2 (fun c hc => (q8'.1.2.2.2 c hc).1) (pwW_in un)⟩
        · exact ⟨by rw [f3.1 _ _ (nP _)]; exact fl2.1, by rw [f3.1 _ _ (nP _)]; exact fl2.2⟩
      · rw [e8] at lo
        have f4 : FrP Prr h h3 := FrP_trans f2 (FrP_mono (fun b j z => z.elim (Pw_rr (by omega) (by omega) b j) (Pw_rr (by omega) (by omega) b j)) f3)
        have f5 : FrP Prr h (sI (sI h3 pRe 9 2) pRe 10 a) := Prr_stop f4
        have eG : F = (2, a, [], 0) := by
          rw [eF, if_neg (fun z => z P0)]
          by_cases y : 40 < (pwW P.2.2.1 P.2.2.2.1.toNat).length
          · rw [if_pos y]
          · rw [if_neg y, if_pos (lo.resolve_left y)]
        exact ⟨hp _ 0 f5 (Or.inr ⟨rfl, bad 2 a eG (by decide) (by decide) _ rfl rfl⟩), f5.2.2.2.1, f5.2.2.2.2⟩
    simp (decide := true) only [↓E_Re_readFactor_0, ↓E_Re_readFactor_15, ↓E_Re_readFactor_65, ↓E_Re_readFactor_74, ↓E_Re_readFactor_78, ↓E_Re_readFactor_79, ↓ce_Re_readAtom, ↓ce_Re_skipBlanks, ↓ce_Re_peek, ↓ce_Re_readPower, ↓ce_Re_raiseAtom, ↓ce_Wo_joinWord, ↓ce_Re_stop, ↓e_ci, ↓e_cl, ↓e_nul, ↓e_add, ↓e_sub, ↓e_mul, ↓e_ladd, ↓e_lmul, ↓e_div, ↓e_rem, ↓e_ldiv, ↓e_lrem, ↓e_zeq, ↓e_zne, ↓e_zlt, ↓e_zge, ↓e_zgt, ↓e_zle, ↓e_ceq, ↓e_cne, ↓e_clt, ↓e_cge, ↓e_cgt, ↓e_cle, ↓e_nn, ↓e_gI, ↓e_gR, ↓e_pI, ↓e_pZ, ↓e_pR, ↓e_ia, ↓e_ba, ↓e_za, ↓e_iS, ↓e_bS, ↓e_zS, ↓e_aa, ↓e_aS, ↓e_len, ↓e_and, ↓e_xor, ↓e_shr, ↓e_ushr, ↓e_lcmp, ↓e_i2b, ↓e_i2l, ↓e_l2i, ↓e_sw, ↓e_min, ↓e_max, ↓e_acp, ↓e_il_0, ↓e_al_0, ↓e_ll_0, ↓e_is_0n, ↓e_as_0n, ↓e_ls_0n, ↓e_inc_0n, ↓e_il_1, ↓e_al_1, ↓e_ll_1, ↓e_is_1i, ↓e_as_1i, ↓e_ls_1i, ↓e_inc_1i, ↓e_is_1o, ↓e_as_1o, ↓e_ls_1o, ↓e_inc_1o, ↓e_is_1n, ↓e_as_1n, ↓e_ls_1n, ↓e_inc_1n, ↓e_il_2, ↓e_al_2, ↓e_ll_2, ↓e_is_2i, ↓e_as_2i, ↓e_ls_2i, ↓e_inc_2i, ↓e_is_2o, ↓e_as_2o, ↓e_ls_2o, ↓e_inc_2o, ↓e_is_2n, ↓e_as_2n, ↓e_ls_2n, ↓e_inc_2n, ↓e_il_3, ↓e_al_3, ↓e_ll_3, ↓e_is_3i, ↓e_as_3i, ↓e_ls_3i, ↓e_inc_3i, ↓e_is_3o, ↓e_as_3o, ↓e_ls_3o, ↓e_inc_3o, ↓e_is_3n, ↓e_as_3n, ↓e_ls_3n, ↓e_inc_3n, ↓e_il_4, ↓e_al_4, ↓e_ll_4, ↓e_is_4i, ↓e_as_4i, ↓e_ls_4i, ↓e_inc_4i, ↓e_is_4o, ↓e_as_4o, ↓e_ls_4o, ↓e_inc_4o, ↓e_is_4n, ↓e_as_4n, ↓e_ls_4n, ↓e_inc_4n, ↓e_il_5, ↓e_al_5, ↓e_ll_5, ↓e_is_5i, ↓e_as_5i, ↓e_ls_5i, ↓e_inc_5i, ↓e_is_5o, ↓e_as_5o, ↓e_ls_5o, ↓e_inc_5o, ↓e_is_5n, ↓e_as_5n, ↓e_ls_5n, ↓e_inc_5n, ↓e_il_6, ↓e_al_6, ↓e_ll_6, ↓e_is_6i, ↓e_as_6i, ↓e_ls_6i, ↓e_inc_6i, ↓e_is_6o, ↓e_as_6o, ↓e_ls_6o, ↓e_inc_6o, ↓e_is_6n, ↓e_as_6n, ↓e_ls_6n, ↓e_inc_6n, ↓e_il_7, ↓e_al_7, ↓e_ll_7, ↓e_is_7i, ↓e_as_7i, ↓e_ls_7i, ↓e_inc_7i, ↓e_is_7o, ↓e_as_7o, ↓e_ls_7o, ↓e_inc_7o, ↓e_is_7n, ↓e_as_7n, ↓e_ls_7n, ↓e_inc_7n, ↓e_il_8, ↓e_al_8, ↓e_ll_8, ↓e_is_8i, ↓e_as_8i, ↓e_ls_8i, ↓e_inc_8i, ↓e_is_8o, ↓e_as_8o, ↓e_ls_8o, ↓e_inc_8o, ↓e_is_8n, ↓e_as_8n, ↓e_ls_8n, ↓e_inc_8n, ↓e_il_9, ↓e_al_9, ↓e_ll_9, ↓e_is_9i, ↓e_as_9i, ↓e_ls_9i, ↓e_inc_9i, ↓e_is_9o, ↓e_as_9o, ↓e_ls_9o, ↓e_inc_9o, ↓e_is_9n, ↓e_as_9n, ↓e_ls_9n, ↓e_inc_9n, ↓e_il_10, ↓e_al_10, ↓e_ll_10, ↓e_is_10i, ↓e_as_10i, ↓e_ls_10i, ↓e_inc_10i, ↓e_is_10o, ↓e_as_10o, ↓e_ls_10o, ↓e_inc_10o, ↓e_is_10n, ↓e_as_10n, ↓e_ls_10n, ↓e_inc_10n, ↓e_il_11, ↓e_al_11, ↓e_ll_11, ↓e_is_11i, ↓e_as_11i, ↓e_ls_11i, ↓e_inc_11i, ↓e_is_11o, ↓e_as_11o, ↓e_ls_11o, ↓e_inc_11o, ↓e_is_11n, ↓e_as_11n, ↓e_ls_11n, ↓e_inc_11n, ↓e_il_12, ↓e_al_12, ↓e_ll_12, ↓e_is_12i, ↓e_as_12i, ↓e_ls_12i, ↓e_inc_12i, ↓e_is_12o, ↓e_as_12o, ↓e_ls_12o, ↓e_inc_12o, ↓e_is_12n, ↓e_as_12n, ↓e_ls_12n, ↓e_inc_12n, ↓e_dup_i, ↓e_pop_i, ↓e_dup2_ii, ↓e_dup2_io, ↓e_dup_o, ↓e_pop_o, ↓e_dup2_oi, ↓e_dup2_oo, ↓e_ir, ↓e_zr, ↓e_br, ↓e_lr, ↓e_ar, ↓e_vr, ↓e_cut, ↓e_cS_0, ↓e_cV_1, ↓e_cS_1, ↓e_cV_2, ↓e_cS_2, ↓e_cV_3, ↓e_cS_3, ↓e_cV_4, ↓e_cS_4, ↓e_cV_5, ↓e_cS_5, ↓e_cV_6, ↓e_cS_6, ↓e_cV_7, ↓e_cS_7, ↓e_swn, ↓e_swc, ↓e_tls, ↓e_tln, E_Re_readFactor_0, E_Re_readFactor_15, E_Re_readFactor_65, E_Re_readFactor_74, E_Re_readFactor_78, E_Re_readFactor_79, ce_Re_readAtom, ce_Re_skipBlanks, ce_Re_peek, ce_Re_readPower, ce_Re_raiseAtom, ce_Wo_joinWord, ce_Re_stop, e_ci, e_cl, e_nul, e_add, e_sub, e_mul, e_ladd, e_lmul, e_div, e_rem, e_ldiv, e_lrem, e_zeq, e_zne, e_zlt, e_zge, e_zgt, e_zle, e_ceq, e_cne, e_clt, e_cge, e_cgt, e_cle, e_nn, e_gI, e_gR, e_pI, e_pZ, e_pR, e_ia, e_ba, e_za, e_iS, e_bS, e_zS, e_aa, e_aS, e_len, e_and, e_xor, e_shr, e_ushr, e_lcmp, e_i2b, e_i2l, e_l2i, e_sw, e_min, e_max, e_acp, e_il_0, e_al_0, e_ll_0, e_is_0n, e_as_0n, e_ls_0n, e_inc_0n, e_il_1, e_al_1, e_ll_1, e_is_1i, e_as_1i, e_ls_1i, e_inc_1i, e_is_1o, e_as_1o, e_ls_1o, e_inc_1o, e_is_1n, e_as_1n, e_ls_1n, e_inc_1n, e_il_2, e_al_2, e_ll_2, e_is_2i, e_as_2i, e_ls_2i, e_inc_2i, e_is_2o, e_as_2o, e_ls_2o, e_inc_2o, e_is_2n, e_as_2n, e_ls_2n, e_inc_2n, e_il_3, e_al_3, e_ll_3, e_is_3i, e_as_3i, e_ls_3i, e_inc_3i, e_is_3o, e_as_3o, e_ls_3o, e_inc_3o, e_is_3n, e_as_3n, e_ls_3n, e_inc_3n, e_il_4, e_al_4, e_ll_4, e_is_4i, e_as_4i, e_ls_4i, e_inc_4i, e_is_4o, e_as_4o, e_ls_4o, e_inc_4o, e_is_4n, e_as_4n, e_ls_4n, e_inc_4n, e_il_5, e_al_5, e_ll_5, e_is_5i, e_as_5i, e_ls_5i, e_inc_5i, e_is_5o, e_as_5o, e_ls_5o, e_inc_5o, e_is_5n, e_as_5n, e_ls_5n, e_inc_5n, e_il_6, e_al_6, e_ll_6, e_is_6i, e_as_6i, e_ls_6i, e_inc_6i, e_is_6o, e_as_6o, e_ls_6o, e_inc_6o, e_is_6n, e_as_6n, e_ls_6n, e_inc_6n, e_il_7, e_al_7, e_ll_7, e_is_7i, e_as_7i, e_ls_7i, e_inc_7i, e_is_7o, e_as_7o, e_ls_7o, e_inc_7o, e_is_7n, e_as_7n, e_ls_7n, e_inc_7n, e_il_8, e_al_8, e_ll_8, e_is_8i, e_as_8i, e_ls_8i, e_inc_8i, e_is_8o, e_as_8o, e_ls_8o, e_inc_8o, e_is_8n, e_as_8n, e_ls_8n, e_inc_8n, e_il_9, e_al_9, e_ll_9, e_is_9i, e_as_9i, e_ls_9i, e_inc_9i, e_is_9o, e_as_9o, e_ls_9o, e_inc_9o, e_is_9n, e_as_9n, e_ls_9n, e_inc_9n, e_il_10, e_al_10, e_ll_10, e_is_10i, e_as_10i, e_ls_10i, e_inc_10i, e_is_10o, e_as_10o, e_ls_10o, e_inc_10o, e_is_10n, e_as_10n, e_ls_10n, e_inc_10n, e_il_11, e_al_11, e_ll_11, e_is_11i, e_as_11i, e_ls_11i, e_inc_11i, e_is_11o, e_as_11o, e_ls_11o, e_inc_11o, e_is_11n, e_as_11n, e_ls_11n, e_inc_11n, e_il_12, e_al_12, e_ll_12, e_is_12i, e_as_12i, e_ls_12i, e_inc_12i, e_is_12o, e_as_12o, e_ls_12o, e_inc_12o, e_is_12n, e_as_12n, e_ls_12n, e_inc_12n, e_dup_i, e_pop_i, e_dup2_ii, e_dup2_io, e_dup_o, e_pop_o, e_dup2_oi, e_dup2_oo, e_ir, e_zr, e_br, e_lr, e_ar, e_vr, e_cut, e_cS_0, e_cV_1, e_cS_1, e_cV_2, e_cS_2, e_cV_3, e_cS_3, e_cV_4, e_cS_4, e_cV_5, e_cS_5, e_cV_6, e_cS_6, e_cV_7, e_cS_7, e_swn, e_swc, e_tls, e_tln, gI_sI, gI_sA, gR_sI, gR_sA, gI_sR, gR_sR, hN_sI, hN_sA, hN_sR, isO_sI, isO_sA, isO_sR, isAr_sI, isAr_sA, isAr_sR, hC_sI, hC_sA, hC_sR, hZ_sI, hZ_sA, hZ_sR, MW_sI, MW_sA, true_and, and_true, true_or, or_true, and_self, forall_const, imp_self, implies_true, if_true, if_false, false_and, and_false, false_or, or_false, not_false_eq_true, not_true_eq_false, sI_sI, entA, fitL, List.length_cons, List.length_nil, List.nil_append, List.cons_append, false_imp_iff, true_imp_iff, pn1, pn2, MW_sI, CW_sI, cr_Ho_0 w1, cr_Ho_3 w1, cr_Ho_4 w1, cr_Ho_5 w1, cr_Ho_6 w1, cr_Ho_7 w1, cr_Ho_8 w1, cr_Ho_9 w1, cr_Ho_13 w1, cr_Ho_15 w1, cr_Ho_16 w1, cr_Ws_0 w1, cr_Ss_0 w1, cr_Re_0 w1, cr_Re_1 w1, cr_Re_2 w1, cr_Re_3 w1, cr_Ta_0 w1, cr_Ta_1 w1, cr_Ta_2 w1, cr_Ta_3 w1, cr_Ta_4 w1, cr_Ta_5 w1, cr_Ta_6 w1, cr_Wa_0 w1, cr_Wa_2 w1, cr_Wa_3 w1, cr_Wa_4 w1, cr_Wa_5 w1, cr_Wa_6 w1, cr_Lo_0 w1, cr_Lo_1 w1, cr_Lo_2 w1, cr_Lo_3 w1, cr_Lo_4 w1, cr_Sh_0 w1, cr_Sh_1 w1, cr_Sh_2 w1, co_Ho w1, ca_Ho_tape w1, cl_Ho_tape, co_Ws w1, co_Ss w1, co_Ask w1, co_Re w1, co_Ta w1, co_Fi w1, co_Wa w1, ca_Ho_told w1, cl_Ho_told, co_Lo w1, co_Sh w1, ca_Ws_e w1, cl_Ws_e, ca_Ss_e w1, cl_Ss_e, ca_Re_sums w1, cl_Re_sums, ca_Re_firsts w1, cl_Re_firsts, co_Atom w1, co_Raised w1, ca_Ta_cells w1, cl_Ta_cells, ca_Ta_numbers w1, cl_Ta_numbers, ca_Ta_done w1, cl_Ta_done, ca_Ta_order w1, cl_Ta_order, ca_Ta_spare w1, cl_Ta_spare, ca_Ta_parents w1, cl_Ta_parents, ca_Ta_melting w1, cl_Ta_melting, ca_Wa_queue w1, cl_Wa_queue, ca_Wa_origins w1, cl_Wa_origins, ca_Wa_vias w1, cl_Wa_vias, ca_Wa_lengths w1, cl_Wa_lengths, ca_Wa_seen w1, cl_Wa_seen, co_Single w1, ca_Lo_cells w1, cl_Lo_cells, ca_Lo_kept w1, cl_Lo_kept, ca_Lo_keptRows w1, cl_Lo_keptRows, ca_Lo_names w1, cl_Lo_names, ca_Lo_met w1, cl_Lo_met, ca_Sh_cells w1, cl_Sh_cells, ca_Sh_seen w1, cl_Sh_seen, ca_Sh_queue w1, cl_Sh_queue, CW_sI, CW_sA, q1]
    have fx : FrP Prr h1 (sI (sI h1 pRe 6 (skA ch sz a2)) pRe 8 1) := FrP_sI (Or.inl ⟨rfl, Or.inr (Or.inl rfl)⟩) (Prr_at (FrP_refl _ h1))
    have fy := FrP_trans f1 fx
    have ecx : chR (sI (sI h1 pRe 6 (skA ch sz a2)) pRe 8 1) sz = ch := by rw [← ec1]; rfl
    have rcx := rC_fr fy hc
    refine ⟨sz, m, rc1, by omega, q3, ?_⟩
    rw [ec1]
    refine ⟨sz, m, rcx, by omega, ?_⟩
    rw [ecx]
    have mvx : ∀ i, (∀ u, WR h1 (sumP i) u → WR (sI (sI h1 pRe 6 (skA ch sz a2)) pRe 8 1) (sumP i) u) ∧ ∀ u, WR h1 (firP i) u → WR (sI (sI h1 pRe 6 (skA ch sz a2)) pRe 8 1) (firP i) u := fun i => by
      have e1 := sm_re
      have e3 := sm_i i
      exact ⟨fun u x => (WR_re (by omega)).mpr ((WR_re (by omega)).mpr x), fun u x => (WR_re (by omega)).mpr ((WR_re (by omega)).mpr x)⟩
    have hUx : WR (sI (sI h1 pRe 6 (skA ch sz a2)) pRe 8 1) pAtom U := (WR_re (by decide)).mpr ((WR_re (by decide)).mpr q4)
    refine ⟨fun z => ?_, fun z => ⟨sz, m, U, rcx, by omega, by rw [ecx]; exact z, hUx, fun h2 v2 f2 o2 => ?_⟩⟩
    · have eP : P = (0, 0, U, 1, skA ch sz a2) := by rw [hP, prF_pw, if_neg z]
      refine b42 (by rw [eP]) _ _ fy ⟨q9.1, q9.2⟩ ?_ ?_ ?_ (fun i _ => mvx i)
      · rw [eP]
        show skA ch sz a2 = skA ch sz (skA ch sz a2)
        rw [skA_id q3]
      · rw [eP]; rfl
      · rw [eP]; exact hUx
    · have eP : P = pwP ch sz (skA ch sz a2) U := by rw [hP, prF_pw, if_pos z]
      rw [ecx, ← eP] at o2
      unfold pwO at o2
      rw [ecx] at o2
      have e1 := sm_re
      have f3 : FrP Prr h h2 := FrP_trans fy (FrP_mono (fun b j x => x.elim (fun x => Or.inl ⟨x.1, by omega⟩) (Pw_rr (Nat.le_refl _) (by decide) b j)) f2)
      refine ⟨fun v2z => ?_, fun v2z => ?_⟩
      · have P0 : P.1 = 0 := Classical.byContradiction fun x => v2z (o2.2 x).1
        obtain ⟨-, x9, x10, x6, x8, xw⟩ := o2.1 P0
        refine b42 P0 _ h2 f3 ⟨x9.trans q9.1, x10.trans q9.2⟩ x6 x8 xw (fun i hi => ?_)
        have e3 := sm_i i
        have m2 := mvx i
        exact ⟨fun u x => (WR_fr f2 (fun z => by rcases z with ⟨z, -⟩ | (⟨z, -⟩ | z) <;> omega) (fun j z => by rcases z with ⟨z, -⟩ | (⟨z, -⟩ | z) <;> omega)).mpr (m2.1 u x), fun u x => (WR_fr f2 (fun z => by rcases z with ⟨z, -⟩ | (⟨z, -⟩ | z) <;> omega) (fun j z => by rcases z with ⟨z, -⟩ | (⟨z, -⟩ | z) <;> omega)).mpr (m2.2 u x)⟩
      · have P0 : P.1 ≠ 0 := fun x => by have := (o2.1 x).1; omega
        obtain ⟨-, x9, x10⟩ := o2.2 P0
        have pn := pr_ne (ch := ch) (sz := sz) (a := a2) (u := U)
        rw [← hP] at pn
        exact ⟨hp h2 0 f3 (Or.inr ⟨rfl, bad P.1 P.2.1 (by rw [eF, if_pos P0]) P0 pn _ x9 x10⟩), f3.2.2.2.1, f3.2.2.2.2⟩
