/-! THE COMPONENT: Reader: readAtom -/
theorem fact_close {ch : Int → Int} {sz m : Int} {s s2 : RS} {a a2 c : Int} {D : Nat} (hl : rl s = D) (h0 : Srn ch sz m s (rs3 s c a)) (h1 : Srn ch sz m (rs3 s c a) s2) (hq : lowQ (D + 1) (rs3 s c a) s2) (hs : rsS ch sz m s2 = faR ch sz s2 (faF ch sz a2 (clW s2) (rpl s2 (2 * (D + 1 - 1))) (roa s2 (D + 1))) (rs7 s2 (faF ch sz a2 (clW s2) (rpl s2 (2 * (D + 1 - 1))) (roa s2 (D + 1))))) : fact ch sz m s D a a2 (clW s2) := by
  obtain ⟨q1, q2, q3, q4⟩ := hq
  have r1 : ∀ j, j < 2 * (D + 1) → rpl s2 j = rpl s j := fun j hj => by
    rw [q4 j hj]
    show upN (rpl s) (2 * (rl s + 1)) [] j = rpl s j
    rw [upN_ne (by omega)]
  have r2 : roa s2 (D + 1) = a := by
    rw [q3 (D + 1) (Nat.le_refl _)]
    show upN (roa s) (rl s + 1) a (D + 1) = a
    rw [hl, upN_eq]
  have r3 : ∀ i, i ≤ D → roa s2 i = roa s i := fun i hi => by
    rw [q3 i (by omega)]
    show upN (roa s) (rl s + 1) a i = roa s i
    rw [upN_ne (by omega)]
  have r4 : ∀ i, i ≤ D → rop s2 i = rop s i := fun i hi => by
    rw [(q2 i (by omega)).1]
    show upN (rop s) (rl s + 1) _ i = rop s i
    rw [upN_ne (by omega)]
  have r5 : ∀ i, i < D → rbg s2 i = rbg s i := fun i hi => by
    rw [(q2 i (by omega)).2]
    show upN (upN (rbg s) (rl s) 1) (rl s + 1) 0 i = rbg s i
    rw [upN_ne (by omega), upN_ne (by omega)]
  have r6 : rbg s2 D = 1 := by
    rw [(q2 D (by omega)).2]
    show upN (upN (rbg s) (rl s) 1) (rl s + 1) 0 D = 1
    rw [upN_ne (by omega), hl, upN_eq]
  refine ⟨s2, rs7 s2, Srn_trans h0 h1, fun F hF => ?_, fun F => ⟨⟨?_, fun i hi => ⟨r4 i (by omega), r5 i hi⟩, r3, fun j hj => ?_⟩, ⟨r4 D (Nat.le_refl _), ?_⟩, r6, ?_, rfl⟩⟩
  · rw [Nat.add_sub_cancel, r1 (2 * D) (by omega), r2, ← hF] at hs
    exact hs
  · show rl s2 - 1 = D; omega
  · show upN (rpl s2) (2 * (rl s2 - 1)) F.2.2.1 j = rpl s j
    rw [upN_ne (by omega)]; exact r1 j (by omega)
  · show upN (rpl s2) (2 * (rl s2 - 1)) F.2.2.1 (2 * D + 1) = rpl s (2 * D + 1)
    rw [upN_ne (by omega)]; exact r1 _ (by omega)
  · show upN (rpl s2) (2 * (rl s2 - 1)) F.2.2.1 (2 * D) = F.2.2.1
    rw [show 2 * (rl s2 - 1) = 2 * D by omega, upN_eq]
theorem step_Re_readAtom (d : Nat) (hm_Re_readGroup : MetP y_Re_readGroup (md_Re_readGroup d) (fun _ => 0) (fun _ => 0) (Ct_Re_readGroup d)) (hm_Re_readCommutator : MetP y_Re_readCommutator (md_Re_readCommutator d) (fun _ => 0) (fun _ => 0) (Ct_Re_readCommutator d)) : MetP y_Re_readAtom (md_Re_readAtom (d + 1)) (fun _ => 0) (fun _ => 0) (Ct_Re_readAtom (d + 1)) := by
  refine met0 (body := (B_Re_readAtom_0 (Ct_Re_readGroup d) (Ct_Re_readCommutator d))) (by decide) rfl rfl (fun lc lz => S_Re_readAtom_0 d lc lz hm_Re_readGroup hm_Re_readCommutator) ?_
  intro av h post hc hH hav
  unfold Ct_Re_readAtom at hc
  split at hc
  rotate_left
  · exact hc.elim
  rename_i p dep
  obtain ⟨rfl, sz, m, D, s, rfl, D8, hc, hl, hb, h49, r0, r1, ea, hS, hT, hs, hd, hp⟩ := hc
  refine ⟨Nat.le_of_ble_eq_true rfl, ?_⟩
  obtain ⟨w, h4, h5, z0, z1, h7, m1, m5⟩ := id hc
  obtain ⟨a, ha⟩ : ∃ a, a = gI h pRe 6 := ⟨_, rfl⟩
  obtain ⟨ch, hch⟩ : ∃ ch, ch = chR h sz := ⟨_, rfl⟩
  rw [← ha, ← hch] at hb h49 ea
  unfold atO at hp
  rw [← ha, ← hch] at hp
  have k := skA_le (ch := ch) r1
  have cb : -1 ≤ ch a ∧ ch a ≤ 255 := by
    rw [hch]; unfold chR
    split <;> omega
  have hb2 : rbg s (rl s) < 2 := by rw [hl]; rcases hb with z | z <;> omega
  have h49' : ¬ (rbg s (rl s) = 0 ∧ ch a = 49) := by rw [hl]; exact h49
  -- the ways out
  have kO : ∀ c : Int, (c = 1 ∨ c = 2) → ¬ isLt m (ch a) → (ch a = if c = 1 then 40 else 91) → (D : Int) < 8 → ∃ s1, s1 = rs3 s (ch a) a ∧ rl s1 = D + 1 ∧ rop s1 (D + 1) = c ∧ rbg s1 (D + 1) = 0 ∧ rpl s1 (2 * (D + 1)) = [] ∧ 0 ≤ a ∧ a < sz ∧ rat s1 = a + 1 ∧ SWl h s1 (D + 1) ∧ ∀ h' v, FrP Prr h h' → clO h h' sz m (D + 1) s1 v → (v = 0 ∨ v = 1) ∧ post (some (.inl v)) h' ∧ hC h' = hC h ∧ hZ h' = hZ h := by
    intro c hc12 hnl hca D7
    have hc4 : ch a = 40 ∨ ch a = 91 := by rcases hc12 with rfl | rfl <;> simp at hca <;> omega
    have hlt : a < sz := by
      have : chR h sz a ≠ -1 := by rw [← hch]; omega
      exact (chR_lt this).2
    have hop := st_open (m := m) ea hb2 hnl hc4 (by omega)
    refine ⟨rs3 s (ch a) a, rfl, by show rl s + 1 = D + 1; omega, ?_, ?_, ?_, by omega, hlt, rfl, ?_, fun h1 v f1 o1 => ?_⟩
    · show upN (rop s) (rl s + 1) (if ch a = 40 then 1 else 2) (D + 1) = c
      rw [hl, upN_eq]
      rcases hc12 with rfl | rfl
      · rw [if_pos (by simpa using hca)]
      · rw [if_neg (by simp at hca; omega)]
    · show upN (upN (rbg s) (rl s) 1) (rl s + 1) 0 (D + 1) = 0
      rw [hl, upN_eq]
    · show upN (rpl s) (2 * (rl s + 1)) [] (2 * (D + 1)) = []
      rw [hl, upN_eq]
    · intro i hi
      have x : SWs h s i ∧ SWt h s i := by
        by_cases e : i = D
        · rw [e]; exact ⟨hs, hT⟩
        · exact hS i (by omega)
      refine ⟨SWs_eq ?_ (fun u z => z) x.1, SWt_eq ?_ ?_ (fun u z => z) x.2⟩
      · show upN (rpl s) (2 * (rl s + 1)) [] (2 * i) = _
        rw [upN_ne (by omega)]
      · show upN (rop s) (rl s + 1) _ i = _
        rw [upN_ne (by omega)]
      · show upN (rpl s) (2 * (rl s + 1)) [] (2 * i + 1) = _
        rw [upN_ne (by omega)]
    · unfold clO at o1
      rw [← ha, ← hch] at o1
      have h0 := Srn_one hop
      rcases o1 with ⟨rfl, s2, a2, g1, g2, g3, g4, g5, g6, g7, g8, g9, g10⟩ | ⟨rfl, no⟩
      · refine ⟨Or.inr rfl, hp h1 1 f1 (Or.inl ⟨rfl, a2, clW s2, fact_close hl h0 g1 g2 g3, g4, g5, g6, g7, g8, ?_, ?_, ?_, g10⟩), f1.2.2.2.1, f1.2.2.2.2⟩
        · intro i hi
          have x := g9 i (by omega)
          refine ⟨SWs_eq ?_ (fun u z => z) x.1, SWt_eq ?_ ?_ (fun u z => z) x.2⟩
          · show _ = upN (rpl s) (2 * (rl s + 1)) [] (2 * i)
            rw [upN_ne (by omega)]
          · show _ = upN (rop s) (rl s + 1) _ i
            rw [upN_ne (by omega)]
          · show _ = upN (rpl s) (2 * (rl s + 1)) [] (2 * i + 1)
            rw [upN_ne (by omega)]
        · refine SWt_eq ?_ ?_ (fun u z => z) (g9 D (by omega)).2
          · show _ = upN (rop s) (rl s + 1) _ D
            rw [upN_ne (by omega)]
          · show _ = upN (rpl s) (2 * (rl s + 1)) [] (2 * D + 1)
            rw [upN_ne (by omega)]
        · refine SWs_eq ?_ (fun u z => z) (g9 D (by omega)).1
          show _ = upN (rpl s) (2 * (rl s + 1)) [] (2 * D)
          rw [upN_ne (by omega)]
      · exact ⟨Or.inl rfl, hp h1 0 f1 (Or.inr ⟨rfl, rNo_Srn h0 no⟩), f1.2.2.2.1, f1.2.2.2.2⟩
  have kD : ¬ isLt m (ch a) → (ch a = 40 ∨ ch a = 91) → ¬ (D : Int) < 8 → CW h ∧ post (some (.inl 0)) (sI (sI h pRe 9 3) pRe 10 a) := fun hnl hc4 D7 =>
    ⟨w, hp _ 0 (Prr_stop (FrP_refl _ h)) (Or.inr ⟨rfl, rNo_here (st_deep (m := m) ea hb2 hnl hc4 (by omega)) (by decide) (by decide)⟩)⟩
  have nl : (if isLt m (ch a) then colC (ch a) else -1) = -1 → ¬ isLt m (ch a) := fun z y => by
    rw [if_pos y] at z
    have := col_ok m1 m5 y
    omega
  simp (decide := true) only [↓E_Re_readAtom_0, ↓E_Re_readAtom_42, ↓E_Re_readAtom_64, ↓E_Re_readAtom_80, ↓E_Re_readAtom_96, ↓E_Re_readAtom_103, ↓ce_Re_peek, ↓ce_Re_columnOf, ↓ce_Wo_clear, ↓ce_Wo_join, ↓ce_Re_stop, ↓ce_Re_readGroup, ↓ce_Re_readCommutator, ↓e_ci, ↓e_cl, ↓e_nul, ↓e_add, ↓e_sub, ↓e_mul, ↓e_ladd, ↓e_lmul, ↓e_div, ↓e_rem, ↓e_ldiv, ↓e_lrem, ↓e_zeq, ↓e_zne, ↓e_zlt, ↓e_zge, ↓e_zgt, ↓e_zle, ↓e_ceq, ↓e_cne, ↓e_clt, ↓e_cge, ↓e_cgt, ↓e_cle, ↓e_nn, ↓e_gI, ↓e_gR, ↓e_pI, ↓e_pZ, ↓e_pR, ↓e_ia, ↓e_ba, ↓e_za, ↓e_iS, ↓e_bS, ↓e_zS, ↓e_aa, ↓e_aS, ↓e_len, ↓e_and, ↓e_xor, ↓e_shr, ↓e_ushr, ↓e_lcmp, ↓e_i2b, ↓e_i2l, ↓e_l2i, ↓e_sw, ↓e_min, ↓e_max, ↓e_acp, ↓e_il_0, ↓e_al_0, ↓e_ll_0, ↓e_is_0n, ↓e_as_0n, ↓e_ls_0n, ↓e_inc_0n, ↓e_il_1, ↓e_al_1, ↓e_ll_1, ↓e_is_1i, ↓e_as_1i, ↓e_ls_1i, ↓e_inc_1i, ↓e_is_1o, ↓e_as_1o, ↓e_ls_1o, ↓e_inc_1o, ↓e_is_1n, ↓e_as_1n, ↓e_ls_1n, ↓e_inc_1n, ↓e_il_2, ↓e_al_2, ↓e_ll_2, ↓e_is_2i, ↓e_as_2i, ↓e_ls_2i, ↓e_inc_2i, ↓e_is_2o, ↓e_as_2o, ↓e_ls_2o, ↓e_inc_2o, ↓e_is_2n, ↓e_as_2n, ↓e_ls_2n, ↓e_inc_2n, ↓e_il_3, ↓e_al_3, ↓e_ll_3, ↓e_is_3i, ↓e_as_3i, ↓e_ls_3i, ↓e_inc_3i, ↓e_is_3o, ↓e_as_3o, ↓e_ls_3o, ↓e_inc_3o, ↓e_is_3n, ↓e_as_3n, ↓e_ls_3n, ↓e_inc_3n, ↓e_il_4, ↓e_al_4, ↓e_ll_4, ↓e_is_4i, ↓e_as_4i, ↓e_ls_4i, ↓e_inc_4i, ↓e_is_4o, ↓e_as_4o, ↓e_ls_4o, ↓e_inc_4o, ↓e_is_4n, ↓e_as_4n, ↓e_ls_4n, ↓e_inc_4n, ↓e_il_5, ↓e_al_5, ↓e_ll_5, ↓e_is_5i, ↓e_as_5i, ↓e_ls_5i, ↓e_inc_5i, ↓e_is_5o, ↓e_as_5o, ↓e_ls_5o, ↓e_inc_5o, ↓e_is_5n, ↓e_as_5n, ↓e_ls_5n, ↓e_inc_5n, ↓e_il_6, ↓e_al_6, ↓e_ll_6, ↓e_is_6i, ↓e_as_6i, ↓e_ls_6i, ↓e_inc_6i, ↓e_is_6o, ↓e_as_6o, ↓e_ls_6o, ↓e_inc_6o, ↓e_is_6n, ↓e_as_6n, ↓e_ls_6n, ↓e_inc_6n, ↓e_il_7, ↓e_al_7, ↓e_ll_7, ↓e_is_7i, ↓e_as_7i, ↓e_ls_7i, ↓e_inc_7i, ↓e_is_7o, ↓e_as_7o, ↓e_ls_7o, ↓e_inc_7o, ↓e_is_7n, ↓e_as_7n, ↓e_ls_7n, ↓e_inc_7n, ↓e_il_8, ↓e_al_8, ↓e_ll_8, ↓e_is_8i, ↓e_as_8i, ↓e_ls_8i, ↓e_inc_8i, ↓e_is_8o, ↓e_as_8o, ↓e_ls_8o, ↓e_inc_8o, ↓e_is_8n, ↓e_as_8n, ↓e_ls_8n, ↓e_inc_8n, ↓e_il_9, ↓e_al_9, ↓e_ll_9, ↓e_is_9i, ↓e_as_9i, ↓e_ls_9i, ↓e_inc_9i, ↓e_is_9o, ↓e_as_9o, ↓e_ls_9o, ↓e_inc_9o, ↓e_is_9n, ↓e_as_9n, ↓e_ls_9n, ↓e_inc_9n, ↓e_il_10, ↓e_al_10, ↓e_ll_10, ↓e_is_10i, ↓e_as_10i, ↓e_ls_10i, ↓e_inc_10i, ↓e_is_10o, ↓e_as_10o, ↓e_ls_10o, ↓e_inc_10o, ↓e_is_10n, ↓e_as_10n, ↓e_ls_10n, ↓e_inc_10n, ↓e_il_11, ↓e_al_11, ↓e_ll_11, ↓e_is_11i, ↓e_as_11i, ↓e_ls_11i, ↓e_inc_11i, ↓e_is_11o, ↓e_as_11o, ↓e_ls_11o, ↓e_inc_11o, ↓e_is_11n, ↓e_as_11n, ↓e_ls_11n, ↓e_inc_11n, ↓e_il_12, ↓e_al_12, ↓e_ll_12, ↓e_is_12i, ↓e_as_12i, ↓e_ls_12i, ↓e_inc_12i, ↓e_is_12o, ↓e_as_12o, ↓e_ls_12o, ↓e_inc_12o, ↓e_is_12n, ↓e_as_12n, ↓e_ls_12n, ↓e_inc_12n, ↓e_dup_i, ↓e_pop_i, ↓e_dup2_ii, ↓e_dup2_io, ↓e_dup_o, ↓e_pop_o, ↓e_dup2_oi, ↓e_dup2_oo, ↓e_ir, ↓e_zr, ↓e_br, ↓e_lr, ↓e_ar, ↓e_vr, ↓e_cut, ↓e_cS_0, ↓e_cV_1, ↓e_cS_1, ↓e_cV_2, ↓e_cS_2, ↓e_cV_3, ↓e_cS_3, ↓e_cV_4, ↓e_cS_4, ↓e_cV_5, ↓e_cS_5, ↓e_cV_6, ↓e_cS_6, ↓e_cV_7, ↓e_cS_7, ↓e_swn, ↓e_swc, ↓e_tls, ↓e_tln, E_Re_readAtom_0, E_Re_readAtom_42, E_Re_readAtom_64, E_Re_readAtom_80, E_Re_readAtom_96, E_Re_readAtom_103, ce_Re_peek, ce_Re_columnOf, ce_Wo_clear, ce_Wo_join, ce_Re_stop, ce_Re_readGroup, ce_Re_readCommutator, e_ci, e_cl, e_nul, e_add, e_sub, e_mul, e_ladd, e_lmul, e_div, e_rem, e_ldiv, e_lrem, e_zeq, e_zne, e_zlt, e_zge, e_zgt, e_zle, e_ceq, e_cne, e_clt, e_cge, e_cgt, e_cle, e_nn, e_gI, e_gR, e_pI, e_pZ, e_pR, e_ia, e_ba, e_za, e_iS, e_bS, e_zS, e_aa, e_aS, e_len, e_and, e_xor, e_shr, e_ushr, e_lcmp, e_i2b, e_i2l, e_l2i, e_sw, e_min, e_max, e_acp, e_il_0, e_al_0, e_ll_0, e_is_0n, e_as_0n, e_ls_0n, e_inc_0n, e_il_1, e_al_1, e_ll_1, e_is_1i, e_as_1i, e_ls_1i, e_inc_1i, e_is_1o, e_as_1o, e_ls_1o, e_inc_1o, e_is_1n, e_as_1n, e_ls_1n, e_inc_1n, e_il_2, e_al_2, e_ll_2, e_is_2i, e_as_2i, e_ls_2i, e_inc_2i, e_is_2o, e_as_2o, e_ls_2o, e_inc_2o, e_is_2n, e_as_2n, e_ls_2n, e_inc_2n, e_il_3, e_al_3, e_ll_3, e_is_3i, e_as_3i, e_ls_3i, e_inc_3i, e_is_3o, e_as_3o, e_ls_3o, e_inc_3o, e_is_3n, e_as_3n, e_ls_3n, e_inc_3n, e_il_4, e_al_4, e_ll_4, e_is_4i, e_as_4i, e_ls_4i, e_inc_4i, e_is_4o, e_as_4o, e_ls_4o, e_inc_4o, e_is_4n, e_as_4n, e_ls_4n, e_inc_4n, e_il_5, e_al_5, e_ll_5, e_is_5i, e_as_5i, e_ls_5i, e_inc_5i, e_is_5o, e_as_5o, e_ls_5o, e_inc_5o, e_is_5n, e_as_5n, e_ls_5n, e_inc_5n, e_il_6, e_al_6, e_ll_6, e_is_6i, e_as_6i, e_ls_6i, e_inc_6i, e_is_6o, e_as_6o, e_ls_6o, e_inc_6o, e_is_6n, e_as_6n, e_ls_6n, e_inc_6n, e_il_7, e_al_7, e_ll_7, e_is_7i, e_as_7i, e_ls_7i, e_inc_7i, e_is_7o, e_as_7o, e_ls_7o, e_inc_7o, e_is_7n, e_as_7n, e_ls_7n, e_inc_7n, e_il_8, e_al_8, e_ll_8, e_is_8i, e_as_8i, e_ls_8i, e_inc_8i, e_is_8o, e_as_8o, e_ls_8o, e_inc_8o, e_is_8n, e_as_8n, e_ls_8n, e_inc_8n, e_il_9, e_al_9, e_ll_9, e_is_9i, e_as_9i, e_ls_9i, e_inc_9i, e_is_9o, e_as_9o, e_ls_9o, e_inc_9o, e_is_9n, e_as_9n, e_ls_9n, e_inc_9n, e_il_10, e_al_10, e_ll_10, e_is_10i, e_as_10i, e_ls_10i, e_inc_10i, e_is_10o, e_as_10o, e_ls_10o, e_inc_10o, e_is_10n, e_as_10n, e_ls_10n, e_inc_10n, e_il_11, e_al_11, e_ll_11, e_is_11i, e_as_11i, e_ls_11i, e_inc_11i, e_is_11o, e_as_11o, e_ls_11o, e_inc_11o, e_is_11n, e_as_11n, e_ls_11n, e_inc_11n, e_il_12, e_al_12, e_ll_12, e_is_12i, e_as_12i, e_ls_12i, e_inc_12i, e_is_12o, e_as_12o, e_ls_12o, e_inc_12o, e_is_12n, e_as_12n, e_ls_12n, e_inc_12n, e_dup_i, e_pop_i, e_dup2_ii, e_dup2_io, e_dup_o, e_pop_o, e_dup2_oi, e_dup2_oo, e_ir, e_zr, e_br, e_lr, e_ar, e_vr, e_cut, e_cS_0, e_cV_1, e_cS_1, e_cV_2, e_cS_2, e_cV_3, e_cS_3, e_cV_4, e_cS_4, e_cV_5, e_cS_5, e_cV_6, e_cS_6, e_cV_7, e_cS_7, e_swn, e_swc, e_tls, e_tln, gI_sI, gI_sA, gR_sI, gR_sA, gI_sR, gR_sR, hN_sI, hN_sA, hN_sR, isO_sI, isO_sA, isO_sR, isAr_sI, isAr_sA, isAr_sR, hC_sI, hC_sA, hC_sR, hZ_sI, hZ_sA, hZ_sR, MW_sI, MW_sA, true_and, and_true, true_or, or_true, and_self, forall_const, imp_self, implies_true, if_true, if_false, false_and, and_false, false_or, or_false, not_false_eq_true, not_true_eq_false, sI_sI, entA, fitL, List.length_cons, List.length_nil, List.nil_append, List.cons_append, false_imp_iff, true_imp_iff, pn1, pn2, MW_sI, CW_sI, cr_Ho_0 w, cr_Ho_3 w, cr_Ho_4 w, cr_Ho_5 w, cr_Ho_6 w, cr_Ho_7 w, cr_Ho_8 w, cr_Ho_9 w, cr_Ho_13 w, cr_Ho_15 w, cr_Ho_16 w, cr_Ws_0 w, cr_Ss_0 w, cr_Re_0 w, cr_Re_1 w, cr_Re_2 w, cr_Re_3 w, cr_Ta_0 w, cr_Ta_1 w, cr_Ta_2 w, cr_Ta_3 w, cr_Ta_4 w, cr_Ta_5 w, cr_Ta_6 w, cr_Wa_0 w, cr_Wa_2 w, cr_Wa_3 w, cr_Wa_4 w, cr_Wa_5 w, cr_Wa_6 w, cr_Lo_0 w, cr_Lo_1 w, cr_Lo_2 w, cr_Lo_3 w, cr_Lo_4 w, cr_Sh_0 w, cr_Sh_1 w, cr_Sh_2 w, co_Ho w, ca_Ho_tape w, cl_Ho_tape, co_Ws w, co_Ss w, co_Ask w, co_Re w, co_Ta w, co_Fi w, co_Wa w, ca_Ho_told w, cl_Ho_told, co_Lo w, co_Sh w, ca_Ws_e w, cl_Ws_e, ca_Ss_e w, cl_Ss_e, ca_Re_sums w, cl_Re_sums, ca_Re_firsts w, cl_Re_firsts, co_Atom w, co_Raised w, ca_Ta_cells w, cl_Ta_cells, ca_Ta_numbers w, cl_Ta_numbers, ca_Ta_done w, cl_Ta_done, ca_Ta_order w, cl_Ta_order, ca_Ta_spare w, cl_Ta_spare, ca_Ta_parents w, cl_Ta_parents, ca_Ta_melting w, cl_Ta_melting, ca_Wa_queue w, cl_Wa_queue, ca_Wa_origins w, cl_Wa_origins, ca_Wa_vias w, cl_Wa_vias, ca_Wa_lengths w, cl_Wa_lengths, ca_Wa_seen w, cl_Wa_seen, co_Single w, ca_Lo_cells w, cl_Lo_cells, ca_Lo_kept w, cl_Lo_kept, ca_Lo_keptRows w, cl_Lo_keptRows, ca_Lo_names w, cl_Lo_names, ca_Lo_met w, cl_Lo_met, ca_Sh_cells w, cl_Sh_cells, ca_Sh_seen w, cl_Sh_seen, ca_Sh_queue w, cl_Sh_queue, CW_sI, CW_sA, ← ha]
  refine ⟨sz, m, hc, by omega, ?_⟩
  rw [← hch]
  refine ⟨sz, m, hc, cb.1, cb.2, fun z => ⟨fun y => ⟨fun y2 => ⟨fun y3 => absurd y y3, fun _ => ?_⟩, fun y2 => kD (nl z) (Or.inl y) y2⟩, fun y => ⟨fun y1 => ⟨fun y2 => ⟨fun _ => ?_, fun y3 => absurd y3 y⟩, fun y2 => kD (nl z) (Or.inr y1) y2⟩, fun y1 => ⟨w, hp _ 0 (Prr_stop (FrP_refl _ h)) (Or.inr ⟨rfl, rNo_here (st_form (m := m) ea h49' (fun _ => ?_) (Or.inl ?_)) (by decide) (by decide)⟩)⟩⟩⟩, fun z => ?_⟩
  · obtain ⟨s1, -, g1, g2, g3, g4, g5, g6, g7, g8, g9⟩ := kO 1 (Or.inl rfl) (nl z) (by rw [y]; rfl) y2
    exact ⟨⟨by omega, by omega⟩, sz, m, D + 1, s1, by push_cast; rfl, by omega, by omega, hc, g1, g2, g3, g4, g5, g6, g7, g8, by omega, g9⟩
  · obtain ⟨s1, -, g1, g2, g3, g4, g5, g6, g7, g8, g9⟩ := kO 2 (Or.inr rfl) (nl z) (by rw [y1]; rfl) y2
    exact ⟨⟨by omega, by omega⟩, sz, m, D + 1, s1, by push_cast; rfl, by omega, by omega, hc, g1, g2, g3, g4, g5, g6, g7, g8, by omega, g9⟩
  · rintro (x | x | x)
    · exact nl z x
    · exact y x
    · exact y1 x
  · rw [hl]
    rcases hb with x | x
    · exact x
    · rcases x.2 with x | x | x
      · exact absurd x (nl z)
      · exact absurd x y
      · exact absurd x y1
  · have hlt : isLt m (ch a) := Classical.byContradiction fun x => z (if_neg x)
    have hcl := col_ok m1 m5 hlt
    have hlt2 : a < sz := by
      have : chR h sz a ≠ -1 := by rw [← hch]; omega
      exact (chR_lt this).2
    rw [if_pos hlt]
    have ej : jn [] (colC (ch a)) = [colC (ch a)] := rfl
    have hw0 : WR (sI (sI h pRe 6 (a + 1)) pAtom 1 0) pAtom [] := ⟨rfl, by rw [at_ln]; decide, fun k hk => absurd hk (Nat.not_lt_zero k), fun d hd => absurd hd (by simp)⟩
    refine ⟨⟨by omega, by omega⟩, w, wP_at, w, wP_at, [], hw0, hcl.1, by omega, fun _ h1 f1 hw => ?_, fun x => absurd (show ((jn [] (colC (ch a))).length : Int) ≤ lnA (pAtom + 1) by rw [ej, at_ln]; show (1 : Int) ≤ 160; decide) x⟩
    rw [ej] at hw
    have f0 : FrP (Pw pAtom) (sI h pRe 6 (a + 1)) h1 := FrP_trans (FrP_sI (Or.inl ⟨rfl, rfl⟩) (FrP_refl _ _)) f1
    have f2 : FrP Prr h h1 := FrP_trans (Prr_at (FrP_refl _ h)) (FrP_mono (Pw_rr (Nat.le_refl _) (by decide)) f0)
    have nP : ∀ j, ¬ Pw pAtom pRe j := fun j => by unfold Pw; simp (decide := true)
    have sw : ∀ i, (∀ u, WR h (sumP i) u → WR h1 (sumP i) u) ∧ ∀ u, WR h (firP i) u → WR h1 (firP i) u := fun i => by
      have := sm_re
      have := sm_i i
      exact ⟨fun u x => (WR_pw f0 (by omega) (by omega) (by omega)).mpr ((WR_re (by omega)).mpr x), fun u x => (WR_pw f0 (by omega) (by omega) (by omega)).mpr ((WR_re (by omega)).mpr x)⟩
    have hf := fact_letter (m := m) ea hb2 h49' hlt
    rw [hl] at hf
    refine ⟨hp h1 1 f2 (Or.inl ⟨rfl, a + 1, [colC (ch a)], hf, ?_, Int.le_refl _, by omega, hw, rdI_one, SWl_mv (fun _ _ => rfl) (fun _ _ => rfl) (fun i _ => sw i) hS, SWt_eq rfl rfl (sw D).2 hT, SWs_eq rfl (sw D).1 hs, ?_⟩), f2.2.2.2.1, f2.2.2.2.2⟩
    · rw [f0.1 _ _ (nP _)]; rfl
    · exact ⟨by rw [f0.1 _ _ (nP _)]; rfl, by rw [f0.1 _ _ (nP _)]; rfl⟩
