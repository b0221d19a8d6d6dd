/-! MAKING cells: Reader -/
theorem re_sh : ∀ k, k < 9 → SH (sumP k) = .inl 6 ∧ SH (sumP k + 1) = .inr (0, 40) ∧ SH (firP k) = .inl 6 ∧ SH (firP k + 1) = .inr (0, 40) := by
  have : ∀ k : Fin 9, SH (sumP k.1) = .inl 6 ∧ SH (sumP k.1 + 1) = .inr (0, 40) ∧ SH (firP k.1) = .inl 6 ∧ SH (firP k.1 + 1) = .inr (0, 40) := by decide
  exact fun k hk => this ⟨k, hk⟩
theorem met_Re_init : MetP y_Re_init md_Re_init mc_Re_init ms_Re_init Ct_Re_init := by
  refine met_of (body := fun lc lz => B_Re_init_0 lc lz) (cs := fun lc lz => [(86, B_Re_init_86 lc lz)]) (by decide) rfl (fun _ => rfl) (fun lc lz => S_Re_init_0 lc lz) (fun lc lz q hq => ?_) ?_
  · simp only [List.mem_cons, List.not_mem_nil, or_false] at hq
    rcases hq with rfl
    · exact S_Re_init_86 lc lz
  intro av h post hc hH hav
  unfold Ct_Re_init at hc
  split at hc
  rotate_left
  · exact hc.elim
  rename_i p
  obtain ⟨rfl, hN1, hg, hp⟩ := hc
  refine ⟨Nat.le_of_ble_eq_true rfl, ?_⟩
  have nF6 : nF 6 = 2 := rfl
  refine ⟨fun pc ls h' => pc = 86 ∧ ∃ k : Nat, ls = [some (.inr (.inl (some pRe))), some (.inl k)] ∧ k ≤ 9 ∧ nRe h h' k ∧ hC h' = hC h + 6 + 4 * k ∧ hZ h' = hZ h + 222 + 84 * k, fun _ ls _ => (1000 - locI ls 1).toNat, fun pc ls h' x => ⟨_, List.mem_singleton.mpr rfl, x.1.symm⟩, fun x hx => ?_, ?_⟩
  · rw [List.mem_singleton.mp hx]
    rintro ls h1 ⟨-, k, rfl, hk, ⟨n1, n2, ⟨n3, n3b, n3c⟩, n4, n5, n6⟩, c1, c2⟩
    have o1 : isO h1 pRe 2 := ⟨by have := sm_re; omega, rfl⟩
    have q1 : (pRe = pSum0 + 4 * k) = False := eq_false (by show ¬ 44 = 51 + 4 * k; omega)
    have q2 : (pRe = pSum0 + 4 * k + 1) = False := eq_false (by show ¬ 44 = 51 + 4 * k + 1; omega)
    simp (decide := true) only [↓e_new, ↓e_na, ↓e_nq, ↓e_oi, ↓e_cI_1, ↓e_cI_2, ↓e_cW_1, ↓e_cW_2, e_new, e_na, e_nq, e_oi, e_cI_1, e_cI_2, e_cW_1, e_cW_2, hN_nC, hC_nC, hZ_nC, gI_nC, gR_nC, hN_sR, hN_sI, ↓E_Re_init_0, ↓E_Re_init_86, ↓E_Re_init_128, ↓ce_Wo_init, ↓e_ci, ↓e_cl, ↓e_nul, ↓e_add, ↓e_sub, ↓e_mul, ↓e_ladd, ↓e_lmul, ↓e_div, ↓e_rem, ↓e_ldiv, ↓e_lrem, ↓e_zeq, ↓e_zne, ↓e_zlt, ↓e_zge, ↓e_zgt, ↓e_zle, ↓e_ceq, ↓e_cne, ↓e_clt, ↓e_cge, ↓e_cgt, ↓e_cle, ↓e_nn, ↓e_gI, ↓e_gR, ↓e_pI, ↓e_pZ, ↓e_pR, ↓e_ia, ↓e_ba, ↓e_za, ↓e_iS, ↓e_bS, ↓e_zS, ↓e_aa, ↓e_aS, ↓e_len, ↓e_and, ↓e_xor, ↓e_shr, ↓e_ushr, ↓e_lcmp, ↓e_i2b, ↓e_i2l, ↓e_l2i, ↓e_sw, ↓e_min, ↓e_max, ↓e_acp, ↓e_il_0, ↓e_al_0, ↓e_ll_0, ↓e_is_0n, ↓e_as_0n, ↓e_ls_0n, ↓e_inc_0n, ↓e_il_1, ↓e_al_1, ↓e_ll_1, ↓e_is_1i, ↓e_as_1i, ↓e_ls_1i, ↓e_inc_1i, ↓e_is_1o, ↓e_as_1o, ↓e_ls_1o, ↓e_inc_1o, ↓e_is_1n, ↓e_as_1n, ↓e_ls_1n, ↓e_inc_1n, ↓e_il_2, ↓e_al_2, ↓e_ll_2, ↓e_is_2i, ↓e_as_2i, ↓e_ls_2i, ↓e_inc_2i, ↓e_is_2o, ↓e_as_2o, ↓e_ls_2o, ↓e_inc_2o, ↓e_is_2n, ↓e_as_2n, ↓e_ls_2n, ↓e_inc_2n, ↓e_il_3, ↓e_al_3, ↓e_ll_3, ↓e_is_3i, ↓e_as_3i, ↓e_ls_3i, ↓e_inc_3i, ↓e_is_3o, ↓e_as_3o, ↓e_ls_3o, ↓e_inc_3o, ↓e_is_3n, ↓e_as_3n, ↓e_ls_3n, ↓e_inc_3n, ↓e_il_4, ↓e_al_4, ↓e_ll_4, ↓e_is_4i, ↓e_as_4i, ↓e_ls_4i, ↓e_inc_4i, ↓e_is_4o, ↓e_as_4o, ↓e_ls_4o, ↓e_inc_4o, ↓e_is_4n, ↓e_as_4n, ↓e_ls_4n, ↓e_inc_4n, ↓e_il_5, ↓e_al_5, ↓e_ll_5, ↓e_is_5i, ↓e_as_5i, ↓e_ls_5i, ↓e_inc_5i, ↓e_is_5o, ↓e_as_5o, ↓e_ls_5o, ↓e_inc_5o, ↓e_is_5n, ↓e_as_5n, ↓e_ls_5n, ↓e_inc_5n, ↓e_il_6, ↓e_al_6, ↓e_ll_6, ↓e_is_6i, ↓e_as_6i, ↓e_ls_6i, ↓e_inc_6i, ↓e_is_6o, ↓e_as_6o, ↓e_ls_6o, ↓e_inc_6o, ↓e_is_6n, ↓e_as_6n, ↓e_ls_6n, ↓e_inc_6n, ↓e_il_7, ↓e_al_7, ↓e_ll_7, ↓e_is_7i, ↓e_as_7i, ↓e_ls_7i, ↓e_inc_7i, ↓e_is_7o, ↓e_as_7o, ↓e_ls_7o, ↓e_inc_7o, ↓e_is_7n, ↓e_as_7n, ↓e_ls_7n, ↓e_inc_7n, ↓e_il_8, ↓e_al_8, ↓e_ll_8, ↓e_is_8i, ↓e_as_8i, ↓e_ls_8i, ↓e_inc_8i, ↓e_is_8o, ↓e_as_8o, ↓e_ls_8o, ↓e_inc_8o, ↓e_is_8n, ↓e_as_8n, ↓e_ls_8n, ↓e_inc_8n, ↓e_il_9, ↓e_al_9, ↓e_ll_9, ↓e_is_9i, ↓e_as_9i, ↓e_ls_9i, ↓e_inc_9i, ↓e_is_9o, ↓e_as_9o, ↓e_ls_9o, ↓e_inc_9o, ↓e_is_9n, ↓e_as_9n, ↓e_ls_9n, ↓e_inc_9n, ↓e_il_10, ↓e_al_10, ↓e_ll_10, ↓e_is_10i, ↓e_as_10i, ↓e_ls_10i, ↓e_inc_10i, ↓e_is_10o, ↓e_as_10o, ↓e_ls_10o, ↓e_inc_10o, ↓e_is_10n, ↓e_as_10n, ↓e_ls_10n, ↓e_inc_10n, ↓e_il_11, ↓e_al_11, ↓e_ll_11, ↓e_is_11i, ↓e_as_11i, ↓e_ls_11i, ↓e_inc_11i, ↓e_is_11o, ↓e_as_11o, ↓e_ls_11o, ↓e_inc_11o, ↓e_is_11n, ↓e_as_11n, ↓e_ls_11n, ↓e_inc_11n, ↓e_il_12, ↓e_al_12, ↓e_ll_12, ↓e_is_12i, ↓e_as_12i, ↓e_ls_12i, ↓e_inc_12i, ↓e_is_12o, ↓e_as_12o, ↓e_ls_12o, ↓e_inc_12o, ↓e_is_12n, ↓e_as_12n, ↓e_ls_12n, ↓e_inc_12n, ↓e_dup_i, ↓e_pop_i, ↓e_dup2_ii, ↓e_dup2_io, ↓e_dup_o, ↓e_pop_o, ↓e_dup2_oi, ↓e_dup2_oo, ↓e_ir, ↓e_zr, ↓e_br, ↓e_lr, ↓e_ar, ↓e_vr, ↓e_cut, ↓e_cS_0, ↓e_cV_1, ↓e_cS_1, ↓e_cV_2, ↓e_cS_2, ↓e_cV_3, ↓e_cS_3, ↓e_cV_4, ↓e_cS_4, ↓e_cV_5, ↓e_cS_5, ↓e_cV_6, ↓e_cS_6, ↓e_cV_7, ↓e_cS_7, ↓e_swn, ↓e_swc, ↓e_tls, ↓e_tln, E_Re_init_0, E_Re_init_86, E_Re_init_128, ce_Wo_init, e_ci, e_cl, e_nul, e_add, e_sub, e_mul, e_ladd, e_lmul, e_div, e_rem, e_ldiv, e_lrem, e_zeq, e_zne, e_zlt, e_zge, e_zgt, e_zle, e_ceq, e_cne, e_clt, e_cge, e_cgt, e_cle, e_nn, e_gI, e_gR, e_pI, e_pZ, e_pR, e_ia, e_ba, e_za, e_iS, e_bS, e_zS, e_aa, e_aS, e_len, e_and, e_xor, e_shr, e_ushr, e_lcmp, e_i2b, e_i2l, e_l2i, e_sw, e_min, e_max, e_acp, e_il_0, e_al_0, e_ll_0, e_is_0n, e_as_0n, e_ls_0n, e_inc_0n, e_il_1, e_al_1, e_ll_1, e_is_1i, e_as_1i, e_ls_1i, e_inc_1i, e_is_1o, e_as_1o, e_ls_1o, e_inc_1o, e_is_1n, e_as_1n, e_ls_1n, e_inc_1n, e_il_2, e_al_2, e_ll_2, e_is_2i, e_as_2i, e_ls_2i, e_inc_2i, e_is_2o, e_as_2o, e_ls_2o, e_inc_2o, e_is_2n, e_as_2n, e_ls_2n, e_inc_2n, e_il_3, e_al_3, e_ll_3, e_is_3i, e_as_3i, e_ls_3i, e_inc_3i, e_is_3o, e_as_3o, e_ls_3o, e_inc_3o, e_is_3n, e_as_3n, e_ls_3n, e_inc_3n, e_il_4, e_al_4, e_ll_4, e_is_4i, e_as_4i, e_ls_4i, e_inc_4i, e_is_4o, e_as_4o, e_ls_4o, e_inc_4o, e_is_4n, e_as_4n, e_ls_4n, e_inc_4n, e_il_5, e_al_5, e_ll_5, e_is_5i, e_as_5i, e_ls_5i, e_inc_5i, e_is_5o, e_as_5o, e_ls_5o, e_inc_5o, e_is_5n, e_as_5n, e_ls_5n, e_inc_5n, e_il_6, e_al_6, e_ll_6, e_is_6i, e_as_6i, e_ls_6i, e_inc_6i, e_is_6o, e_as_6o, e_ls_6o, e_inc_6o, e_is_6n, e_as_6n, e_ls_6n, e_inc_6n, e_il_7, e_al_7, e_ll_7, e_is_7i, e_as_7i, e_ls_7i, e_inc_7i, e_is_7o, e_as_7o, e_ls_7o, e_inc_7o, e_is_7n, e_as_7n, e_ls_7n, e_inc_7n, e_il_8, e_al_8, e_ll_8, e_is_8i, e_as_8i, e_ls_8i, e_inc_8i, e_is_8o, e_as_8o, e_ls_8o, e_inc_8o, e_is_8n, e_as_8n, e_ls_8n, e_inc_8n, e_il_9, e_al_9, e_ll_9, e_is_9i, e_as_9i, e_ls_9i, e_inc_9i, e_is_9o, e_as_9o, e_ls_9o, e_inc_9o, e_is_9n, e_as_9n, e_ls_9n, e_inc_9n, e_il_10, e_al_10, e_ll_10, e_is_10i, e_as_10i, e_ls_10i, e_inc_10i, e_is_10o, e_as_10o, e_ls_10o, e_inc_10o, e_is_10n, e_as_10n, e_ls_10n, e_inc_10n, e_il_11, e_al_11, e_ll_11, e_is_11i, e_as_11i, e_ls_11i, e_inc_11i, e_is_11o, e_as_11o, e_ls_11o, e_inc_11o, e_is_11n, e_as_11n, e_ls_11n, e_inc_11n, e_il_12, e_al_12, e_ll_12, e_is_12i, e_as_12i, e_ls_12i, e_inc_12i, e_is_12o, e_as_12o, e_ls_12o, e_inc_12o, e_is_12n, e_as_12n, e_ls_12n, e_inc_12n, e_dup_i, e_pop_i, e_dup2_ii, e_dup2_io, e_dup_o, e_pop_o, e_dup2_oi, e_dup2_oo, e_ir, e_zr, e_br, e_lr, e_ar, e_vr, e_cut, e_cS_0, e_cV_1, e_cS_1, e_cV_2, e_cS_2, e_cV_3, e_cS_3, e_cV_4, e_cS_4, e_cV_5, e_cS_5, e_cV_6, e_cS_6, e_cV_7, e_cS_7, e_swn, e_swc, e_tls, e_tln, gI_sI, gI_sA, gR_sI, gR_sA, gI_sR, gR_sR, hN_sI, hN_sA, hN_sR, isO_sI, isO_sA, isO_sR, isAr_sI, isAr_sA, isAr_sR, hC_sI, hC_sA, hC_sR, hZ_sI, hZ_sA, hZ_sR, MW_sI, MW_sA, true_and, and_true, true_or, or_true, and_self, forall_const, imp_self, implies_true, if_true, if_false, false_and, and_false, false_or, or_false, not_false_eq_true, not_true_eq_false, sI_sI, entA, fitL, List.length_cons, List.length_nil, List.nil_append, List.cons_append, false_imp_iff, true_imp_iff, pn1, pn2, MW_sI, CW_sI, o1, n3, n3b, n1, q1, q2, isO_nC, isO_sR', mc_Re_init, ms_Re_init, mc_Wo_init, ms_Wo_init, locI, nth]
    rw [nF6]
    refine ⟨fun y => ?_, fun y => ?_⟩
    · have ek : k = 9 := by omega
      rw [ek] at c1 c2 n1 n4
      exact ⟨hp h1 ⟨n1, n2, ⟨n3, n3b, n3c⟩, n4, n5, n6⟩ (by omega) (by omega), by omega, by omega⟩
    · have hk' : k < 9 := by omega
      obtain ⟨s1, s2, s3, s4⟩ := re_sh k hk'
      have e1 := sm_re
      have e2 := sm_i k
      have k51 : pSum0 = 51 ∧ pRe_sums = 45 ∧ pRe_firsts = 46 ∧ pRe = 44 := ⟨rfl, rfl, rfl, rfl⟩
      have ef : firP k = pSum0 + 4 * k + 1 + 1 := by omega
      rw [ef] at s3 s4
      have nn : ∀ h' z, hN (nC h' z) = hN h' + 1 := fun _ _ => rfl
      have ln1 : lnA pRe_sums = 9 := rfl
      have ln2 : lnA pRe_firsts = 9 := rfl
      repeat' apply And.intro
      all_goals first | omega | exact s1 | exact s2 | exact s3 | exact s4 | exact ⟨9, rfl⟩ | skip
      · show pRe_sums < hN h1 + 1 + 1; omega
      · show pRe_firsts < hN h1 + 1 + 1 + 1 + 1; omega
      refine ⟨k + 1, by push_cast; rfl, by omega, ⟨by show hN h1 + 1 + 1 + 1 + 1 = _; omega, fun b j hb => ⟨?_, ?_⟩, ?_, fun i hi => ?_, fun j => ?_, fun b j b0 b1 => ?_⟩, by omega, by omega⟩
      · simp only [gI_sI, gI_sR, gI_nC, hN_nC, hN_sR, hN_sI, n1]
        repeat rw [if_neg (by omega)]
        exact (n2 b j hb).1
      · simp only [gR_sI, gR_sR, gR_nC, hN_nC, hN_sR, hN_sI, n1]
        repeat rw [if_neg (by omega)]
        exact (n2 b j hb).2
      · have low : ∀ b j, b < 45 ∨ (46 < b ∧ b < 51) → gR (sR (sR (nC (sI (nC (sR (sR (nC (sI (nC h1 2) (pSum0 + 4 * k) 1 0) (Int.toNat 40)) (pSum0 + 4 * k) 0 (some (pSum0 + 4 * k + 1))) pRe_sums k (some (pSum0 + 4 * k))) 2) (pSum0 + 4 * k + 1 + 1) 1 0) (Int.toNat 40)) (pSum0 + 4 * k + 1 + 1) 0 (some (pSum0 + 4 * k + 1 + 1 + 1))) pRe_firsts k (some (pSum0 + 4 * k + 1 + 1))) b j = gR h1 b j := by
          intro b j hb
          simp only [gR_sI, gR_sR, gR_nC, hN_nC, hN_sR, hN_sI, n1]
          repeat rw [if_neg (by omega)]
        rw [low _ _ (by decide), low _ _ (by decide), low _ _ (by decide), low _ _ (by decide), low _ _ (by decide), low _ _ (by decide)]
        exact ⟨n3, n3b, n3c⟩
      · have e3 := sm_i i
        simp only [gR_sI, gR_sR, gR_nC, hN_nC, hN_sR, hN_sI, n1]
        by_cases e : i = k
        · rw [e] at e3 ⊢
          refine ⟨?_, ?_, ?_, ?_⟩
          · repeat rw [if_neg (by omega)]
            rw [if_pos (by first | omega | exact ⟨trivial, rfl⟩ | exact ⟨by omega, trivial⟩ | exact ⟨trivial, trivial⟩)]
          · rw [if_pos (by first | omega | exact ⟨trivial, rfl⟩ | exact ⟨by omega, trivial⟩ | exact ⟨trivial, trivial⟩)]; congr 1; omega
          · repeat rw [if_neg (by omega)]
            rw [if_pos (by first | omega | exact ⟨trivial, rfl⟩ | exact ⟨by omega, trivial⟩ | exact ⟨trivial, trivial⟩)]
          · rw [if_neg (by omega), if_pos (by first | omega | exact ⟨trivial, rfl⟩ | exact ⟨by omega, trivial⟩ | exact ⟨trivial, trivial⟩)]; congr 1; omega
        · obtain ⟨x1, x2, x3, x4⟩ := n4 i (by omega)
          refine ⟨?_, ?_, ?_, ?_⟩
          · repeat rw [if_neg (by omega)]
            exact x1
          · repeat rw [if_neg (by omega)]
            exact x2
          · repeat rw [if_neg (by omega)]
            exact x3
          · repeat rw [if_neg (by omega)]
            exact x4
      · simp only [gI_sI, gI_sR, gI_nC, hN_nC, hN_sR, hN_sI, n1]
        have : pRe = 44 := rfl
        repeat rw [if_neg (by omega)]
        exact n5 j
      · have b1' : b < hN h1 + 1 + 1 + 1 + 1 := b1
        simp only [gI_sI, gI_sR, gI_nC, hN_nC, hN_sR, hN_sI, n1]
        by_cases q : b < hN h1
        · repeat rw [if_neg (by omega)]
          exact n6 b j b0 q
        · repeat' split
          all_goals first | rfl | omega
  · have o2 : isO h pRe 2 := ⟨by omega, rfl⟩
    simp (decide := true) only [↓e_new, ↓e_na, ↓e_nq, ↓e_oi, ↓e_cI_1, ↓e_cI_2, ↓e_cW_1, ↓e_cW_2, e_new, e_na, e_nq, e_oi, e_cI_1, e_cI_2, e_cW_1, e_cW_2, hN_nC, hC_nC, hZ_nC, gI_nC, gR_nC, hN_sR, hN_sI, ↓E_Re_init_0, ↓E_Re_init_86, ↓E_Re_init_128, ↓ce_Wo_init, ↓e_ci, ↓e_cl, ↓e_nul, ↓e_add, ↓e_sub, ↓e_mul, ↓e_ladd, ↓e_lmul, ↓e_div, ↓e_rem, ↓e_ldiv, ↓e_lrem, ↓e_zeq, ↓e_zne, ↓e_zlt, ↓e_zge, ↓e_zgt, ↓e_zle, ↓e_ceq, ↓e_cne, ↓e_clt, ↓e_cge, ↓e_cgt, ↓e_cle, ↓e_nn, ↓e_gI, ↓e_gR, ↓e_pI, ↓e_pZ, ↓e_pR, ↓e_ia, ↓e_ba, ↓e_za, ↓e_iS, ↓e_bS, ↓e_zS, ↓e_aa, ↓e_aS, ↓e_len, ↓e_and, ↓e_xor, ↓e_shr, ↓e_ushr, ↓e_lcmp, ↓e_i2b, ↓e_i2l, ↓e_l2i, ↓e_sw, ↓e_min, ↓e_max, ↓e_acp, ↓e_il_0, ↓e_al_0, ↓e_ll_0, ↓e_is_0n, ↓e_as_0n, ↓e_ls_0n, ↓e_inc_0n, ↓e_il_1, ↓e_al_1, ↓e_ll_1, ↓e_is_1i, ↓e_as_1i, ↓e_ls_1i, ↓e_inc_1i, ↓e_is_1o, ↓e_as_1o, ↓e_ls_1o, ↓e_inc_1o, ↓e_is_1n, ↓e_as_1n, ↓e_ls_1n, ↓e_inc_1n, ↓e_il_2, ↓e_al_2, ↓e_ll_2, ↓e_is_2i, ↓e_as_2i, ↓e_ls_2i, ↓e_inc_2i, ↓e_is_2o, ↓e_as_2o, ↓e_ls_2o, ↓e_inc_2o, ↓e_is_2n, ↓e_as_2n, ↓e_ls_2n, ↓e_inc_2n, ↓e_il_3, ↓e_al_3, ↓e_ll_3, ↓e_is_3i, ↓e_as_3i, ↓e_ls_3i, ↓e_inc_3i, ↓e_is_3o, ↓e_as_3o, ↓e_ls_3o, ↓e_inc_3o, ↓e_is_3n, ↓e_as_3n, ↓e_ls_3n, ↓e_inc_3n, ↓e_il_4, ↓e_al_4, ↓e_ll_4, ↓e_is_4i, ↓e_as_4i, ↓e_ls_4i, ↓e_inc_4i, ↓e_is_4o, ↓e_as_4o, ↓e_ls_4o, ↓e_inc_4o, ↓e_is_4n, ↓e_as_4n, ↓e_ls_4n, ↓e_inc_4n, ↓e_il_5, ↓e_al_5, ↓e_ll_5, ↓e_is_5i, ↓e_as_5i, ↓e_ls_5i, ↓e_inc_5i, ↓e_is_5o, ↓e_as_5o, ↓e_ls_5o, ↓e_inc_5o, ↓e_is_5n, ↓e_as_5n, ↓e_ls_5n, ↓e_inc_5n, ↓e_il_6, ↓e_al_6, ↓e_ll_6, ↓e_is_6i, ↓e_as_6i, ↓e_ls_6i, ↓e_inc_6i, ↓e_is_6o, ↓e_as_6o, ↓e_ls_6o, ↓e_inc_6o, ↓e_is_6n, ↓e_as_6n, ↓e_ls_6n, ↓e_inc_6n, ↓e_il_7, ↓e_al_7, ↓e_ll_7, ↓e_is_7i, ↓e_as_7i, ↓e_ls_7i, ↓e_inc_7i, ↓e_is_7o, ↓e_as_7o, ↓e_ls_7o, ↓e_inc_7o, ↓e_is_7n, ↓e_as_7n, ↓e_ls_7n, ↓e_inc_7n, ↓e_il_8, ↓e_al_8, ↓e_ll_8, ↓e_is_8i, ↓e_as_8i, ↓e_ls_8i, ↓e_inc_8i, ↓e_is_8o, ↓e_as_8o, ↓e_ls_8o, ↓e_inc_8o, ↓e_is_8n, ↓e_as_8n, ↓e_ls_8n, ↓e_inc_8n, ↓e_il_9, ↓e_al_9, ↓e_ll_9, ↓e_is_9i, ↓e_as_9i, ↓e_ls_9i, ↓e_inc_9i, ↓e_is_9o, ↓e_as_9o, ↓e_ls_9o, ↓e_inc_9o, ↓e_is_9n, ↓e_as_9n, ↓e_ls_9n, ↓e_inc_9n, ↓e_il_10, ↓e_al_10, ↓e_ll_10, ↓e_is_10i, ↓e_as_10i, ↓e_ls_10i, ↓e_inc_10i, ↓e_is_10o, ↓e_as_10o, ↓e_ls_10o, ↓e_inc_10o, ↓e_is_10n, ↓e_as_10n, ↓e_ls_10n, ↓e_inc_10n, ↓e_il_11, ↓e_al_11, ↓e_ll_11, ↓e_is_11i, ↓e_as_11i, ↓e_ls_11i, ↓e_inc_11i, ↓e_is_11o, ↓e_as_11o, ↓e_ls_11o, ↓e_inc_11o, ↓e_is_11n, ↓e_as_11n, ↓e_ls_11n, ↓e_inc_11n, ↓e_il_12, ↓e_al_12, ↓e_ll_12, ↓e_is_12i, ↓e_as_12i, ↓e_ls_12i, ↓e_inc_12i, ↓e_is_12o, ↓e_as_12o, ↓e_ls_12o, ↓e_inc_12o, ↓e_is_12n, ↓e_as_12n, ↓e_ls_12n, ↓e_inc_12n, ↓e_dup_i, ↓e_pop_i, ↓e_dup2_ii, ↓e_dup2_io, ↓e_dup_o, ↓e_pop_o, ↓e_dup2_oi, ↓e_dup2_oo, ↓e_ir, ↓e_zr, ↓e_br, ↓e_lr, ↓e_ar, ↓e_vr, ↓e_cut, ↓e_cS_0, ↓e_cV_1, ↓e_cS_1, ↓e_cV_2, ↓e_cS_2, ↓e_cV_3, ↓e_cS_3, ↓e_cV_4, ↓e_cS_4, ↓e_cV_5, ↓e_cS_5, ↓e_cV_6, ↓e_cS_6, ↓e_cV_7, ↓e_cS_7, ↓e_swn, ↓e_swc, ↓e_tls, ↓e_tln, E_Re_init_0, E_Re_init_86, E_Re_init_128, ce_Wo_init, e_ci, e_cl, e_nul, e_add, e_sub, e_mul, e_ladd, e_lmul, e_div, e_rem, e_ldiv, e_lrem, e_zeq, e_zne, e_zlt, e_zge, e_zgt, e_zle, e_ceq, e_cne, e_clt, e_cge, e_cgt, e_cle, e_nn, e_gI, e_gR, e_pI, e_pZ, e_pR, e_ia, e_ba, e_za, e_iS, e_bS, e_zS, e_aa, e_aS, e_len, e_and, e_xor, e_shr, e_ushr, e_lcmp, e_i2b, e_i2l, e_l2i, e_sw, e_min, e_max, e_acp, e_il_0, e_al_0, e_ll_0, e_is_0n, e_as_0n, e_ls_0n, e_inc_0n, e_il_1, e_al_1, e_ll_1, e_is_1i, e_as_1i, e_ls_1i, e_inc_1i, e_is_1o, e_as_1o, e_ls_1o, e_inc_1o, e_is_1n, e_as_1n, e_ls_1n, e_inc_1n, e_il_2, e_al_2, e_ll_2, e_is_2i, e_as_2i, e_ls_2i, e_inc_2i, e_is_2o, e_as_2o, e_ls_2o, e_inc_2o, e_is_2n, e_as_2n, e_ls_2n, e_inc_2n, e_il_3, e_al_3, e_ll_3, e_is_3i, e_as_3i, e_ls_3i, e_inc_3i, e_is_3o, e_as_3o, e_ls_3o, e_inc_3o, e_is_3n, e_as_3n, e_ls_3n, e_inc_3n, e_il_4, e_al_4, e_ll_4, e_is_4i, e_as_4i, e_ls_4i, e_inc_4i, e_is_4o, e_as_4o, e_ls_4o, e_inc_4o, e_is_4n, e_as_4n, e_ls_4n, e_inc_4n, e_il_5, e_al_5, e_ll_5, e_is_5i, e_as_5i, e_ls_5i, e_inc_5i, e_is_5o, e_as_5o, e_ls_5o, e_inc_5o, e_is_5n, e_as_5n, e_ls_5n, e_inc_5n, e_il_6, e_al_6, e_ll_6, e_is_6i, e_as_6i, e_ls_6i, e_inc_6i, e_is_6o, e_as_6o, e_ls_6o, e_inc_6o, e_is_6n, e_as_6n, e_ls_6n, e_inc_6n, e_il_7, e_al_7, e_ll_7, e_is_7i, e_as_7i, e_ls_7i, e_inc_7i, e_is_7o, e_as_7o, e_ls_7o, e_inc_7o, e_is_7n, e_as_7n, e_ls_7n, e_inc_7n, e_il_8, e_al_8, e_ll_8, e_is_8i, e_as_8i, e_ls_8i, e_inc_8i, e_is_8o, e_as_8o, e_ls_8o, e_inc_8o, e_is_8n, e_as_8n, e_ls_8n, e_inc_8n, e_il_9, e_al_9, e_ll_9, e_is_9i, e_as_9i, e_ls_9i, e_inc_9i, e_is_9o, e_as_9o, e_ls_9o, e_inc_9o, e_is_9n, e_as_9n, e_ls_9n, e_inc_9n, e_il_10, e_al_10, e_ll_10, e_is_10i, e_as_10i, e_ls_10i, e_inc_10i, e_is_10o, e_as_10o, e_ls_10o, e_inc_10o, e_is_10n, e_as_10n, e_ls_10n, e_inc_10n, e_il_11, e_al_11, e_ll_11, e_is_11i, e_as_11i, e_ls_11i, e_inc_11i, e_is_11o, e_as_11o, e_ls_11o, e_inc_11o, e_is_11n, e_as_11n, e_ls_11n, e_inc_11n, e_il_12, e_al_12, e_ll_12, e_is_12i, e_as_12i, e_ls_12i, e_inc_12i, e_is_12o, e_as_12o, e_ls_12o, e_inc_12o, e_is_12n, e_as_12n, e_ls_12n, e_inc_12n, e_dup_i, e_pop_i, e_dup2_ii, e_dup2_io, e_dup_o, e_pop_o, e_dup2_oi, e_dup2_oo, e_ir, e_zr, e_br, e_lr, e_ar, e_vr, e_cut, e_cS_0, e_cV_1, e_cS_1, e_cV_2, e_cS_2, e_cV_3, e_cS_3, e_cV_4, e_cS_4, e_cV_5, e_cS_5, e_cV_6, e_cS_6, e_cV_7, e_cS_7, e_swn, e_swc, e_tls, e_tln, gI_sI, gI_sA, gR_sI, gR_sA, gI_sR, gR_sR, hN_sI, hN_sA, hN_sR, isO_sI, isO_sA, isO_sR, isAr_sI, isAr_sA, isAr_sR, hC_sI, hC_sA, hC_sR, hZ_sI, hZ_sA, hZ_sR, MW_sI, MW_sA, true_and, and_true, true_or, or_true, and_self, forall_const, imp_self, implies_true, if_true, if_false, false_and, and_false, false_or, or_false, not_false_eq_true, not_true_eq_false, sI_sI, entA, fitL, List.length_cons, List.length_nil, List.nil_append, List.cons_append, false_imp_iff, true_imp_iff, pn1, pn2, MW_sI, CW_sI, o2, hN1, isO_nC, isO_sR', isO_sI', mc_Re_init, ms_Re_init, mc_Wo_init, ms_Wo_init]
    rw [nF6]
    repeat' apply And.intro
    all_goals first | omega | skip
    refine ⟨0, rfl, by omega, ⟨by show hN h + 6 = _; rw [hN1], fun b j hb => ⟨?_, ?_⟩, ?_, fun i hi => by omega, fun j => ?_, fun b j b0 b1 => ?_⟩, by omega, by omega⟩
    · simp only [gI_sI, gI_sR, gI_nC, hN_nC, hN_sR, hN_sI, hN1]
      repeat rw [if_neg (by omega)]
    · simp only [gR_sI, gR_sR, gR_nC, hN_nC, hN_sR, hN_sI, hN1]
      repeat rw [if_neg (by omega)]
    · simp (decide := true) only [gR_sI, gR_sR, gR_nC, hN_nC, hN_sR, hN_sI, hN1, if_true, if_false]
    · simp (decide := true) only [gI_sI, gI_sR, gI_nC, hN_nC, hN_sR, hN_sI, hN1, true_and, if_false, hg, ite_self]
    · have b1' : b < hN h + 6 := b1
      simp only [gI_sI, gI_sR, gI_nC, hN_nC, hN_sR, hN_sI, hN1]
      repeat rw [if_neg (show ¬ (b = pRe ∧ _) from fun x => by omega)]
      repeat' split
      all_goals omega
