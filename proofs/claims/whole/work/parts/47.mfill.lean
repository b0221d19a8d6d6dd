/-! THE MODEL'S fill -/
def TX (L Q : Int) (h : PH) : Prop := L = 2 * gI h pMo 0 ∧ (2 ≤ L ∧ L ≤ 10) ∧ WT L Q (atM h) ∧ Q ≤ 100000 ∧ MWd L h ∧ BB h
theorem TX_Fr {L Q : Int} {h h' : PH} (t : TX L Q h) (f : Fr h h') (hw : WT L Q (atM h')) (hb : BB h') : TX L Q h' := by
  obtain ⟨t1, t2, t3, t4, t5, t6⟩ := t
  exact ⟨by rw [Fr_fld f (by omega)]; exact t1, t2, hw, t4, ((Fr_words f).2.2 L).mpr t5, hb⟩
theorem st_raw {L Q : Int} {h : PH} (hW : WT L Q (atM h)) : (1 ≤ gI h pMo_state 0 ∧ gI h pMo_state 0 ≤ gI h pMo_state 2 ∧ gI h pMo_state 2 ≤ 2000) ∧ (1 ≤ gI h pMo_state 1 ∧ gI h pMo_state 1 ≤ gI h pMo_state 0 ∧ gI h pMo_state 1 ≤ gI h pMo_state 9 ∧ gI h pMo_state 9 ≤ 300) ∧ (gI h pMo_state 3 = gI h pMo_state 2 - gI h pMo_state 1 ∧ 0 ≤ gI h pMo_state 10 ∧ 0 ≤ gI h pMo_state 7 ∧ gI h pMo_state 7 + gI h pMo_state 10 ≤ gI h pMo_state 3 + Q) ∧ (0 ≤ gI h pMo_state 8 ∧ gI h pMo_state 8 ≤ 4) ∧ (0 ≤ gI h pMo_state 4 ∧ gI h pMo_state 4 ≤ 300) ∧ (0 ≤ gI h pMo_state 6 ∧ gI h pMo_state 6 ≤ 2) ∧ 0 ≤ gI h pMo_state 5 ∧ (-1 ≤ gI h pMo 39 ∧ gI h pMo 39 < gI h pMo_state 0) := by
  have hl := WT_left hW
  obtain ⟨-, -, -, -, h5, h6, h7, h8, h9, h10, h11, h12, -⟩ := hW
  rw [aM_atM] at h12
  simp only [aS_atM (h := h) (by decide : (0 : Int) ≤ 0) (by decide), aS_atM (h := h) (by decide : (0 : Int) ≤ 1) (by decide), aS_atM (h := h) (by decide : (0 : Int) ≤ 2) (by decide), aS_atM (h := h) (by decide : (0 : Int) ≤ 3) (by decide), aS_atM (h := h) (by decide : (0 : Int) ≤ 4) (by decide), aS_atM (h := h) (by decide : (0 : Int) ≤ 5) (by decide), aS_atM (h := h) (by decide : (0 : Int) ≤ 6) (by decide), aS_atM (h := h) (by decide : (0 : Int) ≤ 7) (by decide), aS_atM (h := h) (by decide : (0 : Int) ≤ 8) (by decide), aS_atM (h := h) (by decide : (0 : Int) ≤ 9) (by decide), aS_atM (h := h) (by decide : (0 : Int) ≤ 10) (by decide)] at hl h5 h6 h7 h8 h9 h10 h11 h12
  exact ⟨h5, ⟨hl.1, hl.2, h6.2.1, h6.2.2⟩, h7, h8, h9, h10, h11, h12⟩
theorem wk_raw {L Q : Int} {h : PH} (hW : WT L Q (atM h)) : wkg (atM h) ↔ 0 ≤ gI h pMo 39 ∧ gI h pMo_isLeft (gI h pMo 39) ≠ 0 := by
  have h12 := (st_raw hW).2.2.2.2.2.2.2
  show 0 ≤ gI h pMo 39 ∧ VV (atM h) (gI h pMo 39) ↔ _
  rw [VV_atM]
  exact ⟨fun z => ⟨z.1, z.2.2.2⟩, fun z => ⟨z.1, z.1, h12.2, z.2⟩⟩
theorem hp_raw {h : PH} : hasP (atM h) ↔ gI h pMo_state 1 < gI h pMo_state 9 ∧ gI h pMo_state 2 < 2000 := by
  unfold hasP
  rw [aS_atM (by decide) (by decide), aS_atM (by decide) (by decide), aS_atM (by decide) (by decide)]
def Ct_Mo_seeksPlace : CtT := fun av h post => match av with
  | [.inr (.inl (some t))] => t = pMo ∧ MW h ∧ ∃ (L Q : Int), TX L Q h ∧ (gI h pMo_state 8 ≠ 4 → post (some (.inl 0)) h) ∧ (gI h pMo_state 8 = 4 → ∀ h', Fr h h' → atM h' = seekA L (wM h) (uM h) (atM h) → TX L Q h' → post (some (.inl 1)) h')
  | _ => False
def B_Mo_seeksPlace_31 : TT := (tt_ci 1 tt_zr)
theorem S_Mo_seeksPlace_31 (lc lz : Nat) : Snd md_Mo_seeksPlace lc lz 31 (B_Mo_seeksPlace_31) := (snd_iconst (n := 1) (dget dd_Mo_seeksPlace 17 rfl) (inR_d rfl) rfl (snd_zr (dget dd_Mo_seeksPlace 18 rfl) rfl))
def B_Mo_seeksPlace_13 : TT := (tt_al 0 (tt_cV 9 1 Ct_Mo_close (tt_al 0 (tt_gR 9 30 (tt_ci 10 (tt_ia (tt_zle (B_Mo_seeksPlace_31) (tt_al 0 (tt_cV 9 1 Ct_Mo_packRows (B_Mo_seeksPlace_31))))))))))
theorem S_Mo_seeksPlace_13 (lc lz : Nat) : Snd md_Mo_seeksPlace lc lz 13 (B_Mo_seeksPlace_13) := (snd_al_n (n := 0) (dget dd_Mo_seeksPlace 8 rfl) rfl (snd_cV (n := 0) met_Mo_close mi_Mo_close ki_Mo_close kv_Mo_close ml_Mo_266 rfl (by decide) (dget dd_Mo_seeksPlace 9 rfl) (snd_al_n (n := 0) (dget dd_Mo_seeksPlace 10 rfl) rfl (snd_gR (kn := 30) fd_Mo_76 rfl (dget dd_Mo_seeksPlace 11 rfl) (snd_bipush (n := 10) (dget dd_Mo_seeksPlace 12 rfl) (inR_d rfl) (by decide) (snd_ia (dget dd_Mo_seeksPlace 13 rfl) (snd_zle (tg := 31) (dget dd_Mo_seeksPlace 14 rfl) rfl (S_Mo_seeksPlace_31 lc lz) (snd_al_n (n := 0) (dget dd_Mo_seeksPlace 15 rfl) rfl (snd_cV (n := 0) met_Mo_packRows mi_Mo_packRows ki_Mo_packRows kv_Mo_packRows ml_Mo_269 rfl (by decide) (dget dd_Mo_seeksPlace 16 rfl) (S_Mo_seeksPlace_31 lc lz))))))))))
def B_Mo_seeksPlace_0 : TT := (tt_al 0 (tt_gR 9 30 (tt_ci 8 (tt_ia (tt_ci 4 (tt_ceq (B_Mo_seeksPlace_13) (tt_ci 0 tt_zr)))))))
theorem S_Mo_seeksPlace_0 (lc lz : Nat) : Snd md_Mo_seeksPlace lc lz 0 (B_Mo_seeksPlace_0) := (snd_al_n (n := 0) (dget dd_Mo_seeksPlace 0 rfl) rfl (snd_gR (kn := 30) fd_Mo_76 rfl (dget dd_Mo_seeksPlace 1 rfl) (snd_bipush (n := 8) (dget dd_Mo_seeksPlace 2 rfl) (inR_d rfl) (by decide) (snd_ia (dget dd_Mo_seeksPlace 3 rfl) (snd_iconst (n := 4) (dget dd_Mo_seeksPlace 4 rfl) (inR_d rfl) rfl (snd_ceq (tg := 13) (dget dd_Mo_seeksPlace 5 rfl) rfl (S_Mo_seeksPlace_13 lc lz) (snd_iconst (n := 0) (dget dd_Mo_seeksPlace 6 rfl) (inR_d rfl) rfl (snd_zr (dget dd_Mo_seeksPlace 7 rfl) rfl))))))))
theorem met_Mo_seeksPlace : MetP y_Mo_seeksPlace md_Mo_seeksPlace (fun _ => 0) (fun _ => 0) Ct_Mo_seeksPlace := by
  refine met0 (body := B_Mo_seeksPlace_0) (by decide) rfl rfl (fun lc lz => S_Mo_seeksPlace_0 lc lz) ?_
  intro av h post hc hH hav
  unfold Ct_Mo_seeksPlace at hc
  split at hc
  rotate_left
  · exact hc.elim
  rename_i t
  obtain ⟨rfl, w, L, Q, hX, hp0, hp⟩ := hc
  refine ⟨Nat.le_of_ble_eq_true rfl, ?_⟩
  simp (decide := true) only [B_Mo_seeksPlace_0, B_Mo_seeksPlace_13, B_Mo_seeksPlace_31, Ct_Mo_close, Ct_Mo_packRows, tt_ci, tt_cl, tt_nul, tt_il, tt_al, tt_ll, tt_is, tt_as, tt_ls, tt_inc, tt_add, tt_sub, tt_mul, tt_div, tt_rem, tt_ladd, tt_lmul, tt_ldiv, tt_lrem, tt_zeq, tt_zne, tt_zlt, tt_zge, tt_zgt, tt_zle, tt_ceq, tt_cne, tt_clt, tt_cge, tt_cgt, tt_cle, tt_nn, tt_cut, tt_pop, tt_dup, tt_dup2, tt_gI, tt_gR, tt_pI, tt_pZ, tt_pR, tt_ia, tt_ba, tt_za, tt_iS, tt_bS, tt_zS, tt_aa, tt_aS, tt_len, tt_and, tt_xor, tt_shr, tt_ushr, tt_lcmp, tt_i2b, tt_i2l, tt_l2i, tt_sw, swG, tt_ir, tt_zr, tt_br, tt_lr, tt_ar, tt_vr, tt_cV, tt_cS, tt_min, tt_max, tt_acp, pI, pII, pO, pA, pIA, pIIA, pOA, pOIA, pL, pLL, pLIA, pV, pCP, lI, lO, lL, nth, stL, clL, entA, fitL, rcv, List.take_succ_cons, List.take_zero, List.drop_succ_cons, List.drop_zero, List.reverse_cons, List.reverse_nil, List.nil_append, List.cons_append, List.length_cons, List.length_nil, Option.toList_some, Option.toList_none, gI_sI, gI_sA, gR_sI, gR_sA, gI_sR, gR_sR, hN_sI, hN_sA, hN_sR, isO_sI, isO_sA, isO_sR, isAr_sI, isAr_sA, isAr_sR, hC_sI, hC_sA, hC_sR, hZ_sI, hZ_sA, hZ_sR, MW_sI, MW_sA, true_and, and_true, true_or, or_true, and_self, forall_const, imp_self, implies_true, if_true, if_false, false_and, and_false, false_or, or_false, not_false_eq_true, not_true_eq_false, sI_sI, mr_tape w, mr_text w, mr_words w, mr_wordSize w, mr_subs w, mr_subSize w, mr_asked w, mr_pile w, mr_pileSize w, mr_opened w, mr_openedAt w, mr_begun w, mr_cells w, mr_keptCells w, mr_name w, mr_isLeft w, mr_isDone w, mr_keptLeft w, mr_keptDone w, mr_state w, mr_keptState w, mr_newOf w, mr_oldOf w, mr_spare w, mr_spareDone w, mr_out w, mr_metFrom w, mr_metBy w, mr_far w, mr_low w, mr_lows w, mr_lowSize w, mr_triedRow w, mr_triedColumn w, mr_triedValue w, mr_triedRows w, mr_sheet w, ma_tape w, ma_text w, ma_words w, ma_wordSize w, ma_subs w, ma_subSize w, ma_asked w, ma_pile w, ma_pileSize w, ma_opened w, ma_openedAt w, ma_begun w, ma_cells w, ma_keptCells w, ma_name w, ma_isLeft w, ma_isDone w, ma_keptLeft w, ma_keptDone w, ma_state w, ma_keptState w, ma_newOf w, ma_oldOf w, ma_spare w, ma_spareDone w, ma_out w, ma_metFrom w, ma_metBy w, ma_far w, ma_low w, ma_lows w, ma_lowSize w, ma_triedRow w, ma_triedColumn w, ma_triedValue w, ma_triedRows w, ma_sheet w, ml_tape, ml_text, ml_words, ml_wordSize, ml_subs, ml_subSize, ml_asked, ml_pile, ml_pileSize, ml_opened, ml_openedAt, ml_begun, ml_cells, ml_keptCells, ml_name, ml_isLeft, ml_isDone, ml_keptLeft, ml_keptDone, ml_state, ml_keptState, ml_newOf, ml_oldOf, ml_spare, ml_spareDone, ml_out, ml_metFrom, ml_metBy, ml_far, ml_low, ml_lows, ml_lowSize, ml_triedRow, ml_triedColumn, ml_triedValue, ml_triedRows, ml_sheet, mo_O w]
  obtain ⟨x1, x2, x3, x4, x5, x6⟩ := id hX
  refine ⟨fun q => ⟨w, L, Q, x1, x2, x3, x4, x5, fun h1 g1 g2 g3 g4 => ?_⟩, fun q => hp0 q⟩
  have w1 := FrP_MW g1 w
  have o1 : isO h1 pMo 9 := mo_O w1
  have X1 := TX_Fr hX g1 g3 (g4 x6)
  have e10 : aS (clA L (wM h) (uM h) (atM h)) 10 = gI h1 pMo_state 10 := by rw [← g2, aS_atM (by decide) (by decide)]
  simp (decide := true) only [B_Mo_seeksPlace_0, B_Mo_seeksPlace_13, B_Mo_seeksPlace_31, Ct_Mo_close, Ct_Mo_packRows, tt_ci, tt_cl, tt_nul, tt_il, tt_al, tt_ll, tt_is, tt_as, tt_ls, tt_inc, tt_add, tt_sub, tt_mul, tt_div, tt_rem, tt_ladd, tt_lmul, tt_ldiv, tt_lrem, tt_zeq, tt_zne, tt_zlt, tt_zge, tt_zgt, tt_zle, tt_ceq, tt_cne, tt_clt, tt_cge, tt_cgt, tt_cle, tt_nn, tt_cut, tt_pop, tt_dup, tt_dup2, tt_gI, tt_gR, tt_pI, tt_pZ, tt_pR, tt_ia, tt_ba, tt_za, tt_iS, tt_bS, tt_zS, tt_aa, tt_aS, tt_len, tt_and, tt_xor, tt_shr, tt_ushr, tt_lcmp, tt_i2b, tt_i2l, tt_l2i, tt_sw, swG, tt_ir, tt_zr, tt_br, tt_lr, tt_ar, tt_vr, tt_cV, tt_cS, tt_min, tt_max, tt_acp, pI, pII, pO, pA, pIA, pIIA, pOA, pOIA, pL, pLL, pLIA, pV, pCP, lI, lO, lL, nth, stL, clL, entA, fitL, rcv, List.take_succ_cons, List.take_zero, List.drop_succ_cons, List.drop_zero, List.reverse_cons, List.reverse_nil, List.nil_append, List.cons_append, List.length_cons, List.length_nil, Option.toList_some, Option.toList_none, gI_sI, gI_sA, gR_sI, gR_sA, gI_sR, gR_sR, hN_sI, hN_sA, hN_sR, isO_sI, isO_sA, isO_sR, isAr_sI, isAr_sA, isAr_sR, hC_sI, hC_sA, hC_sR, hZ_sI, hZ_sA, hZ_sR, MW_sI, MW_sA, true_and, and_true, true_or, or_true, and_self, forall_const, imp_self, implies_true, if_true, if_false, false_and, and_false, false_or, or_false, not_false_eq_true, not_true_eq_false, sI_sI, mr_tape w1, mr_text w1, mr_words w1, mr_wordSize w1, mr_subs w1, mr_subSize w1, mr_asked w1, mr_pile w1, mr_pileSize w1, mr_opened w1, mr_openedAt w1, mr_begun w1, mr_cells w1, mr_keptCells w1, mr_name w1, mr_isLeft w1, mr_isDone w1, mr_keptLeft w1, mr_keptDone w1, mr_state w1, mr_keptState w1, mr_newOf w1, mr_oldOf w1, mr_spare w1, mr_spareDone w1, mr_out w1, mr_metFrom w1, mr_metBy w1, mr_far w1, mr_low w1, mr_lows w1, mr_lowSize w1, mr_triedRow w1, mr_triedColumn w1, mr_triedValue w1, mr_triedRows w1, mr_sheet w1, ma_tape w1, ma_text w1, ma_words w1, ma_wordSize w1, ma_subs w1, ma_subSize w1, ma_asked w1, ma_pile w1, ma_pileSize w1, ma_opened w1, ma_openedAt w1, ma_begun w1, ma_cells w1, ma_keptCells w1, ma_name w1, ma_isLeft w1, ma_isDone w1, ma_keptLeft w1, ma_keptDone w1, ma_state w1, ma_keptState w1, ma_newOf w1, ma_oldOf w1, ma_spare w1, ma_spareDone w1, ma_out w1, ma_metFrom w1, ma_metBy w1, ma_far w1, ma_low w1, ma_lows w1, ma_lowSize w1, ma_triedRow w1, ma_triedColumn w1, ma_triedValue w1, ma_triedRows w1, ma_sheet w1, ml_tape, ml_text, ml_words, ml_wordSize, ml_subs, ml_subSize, ml_asked, ml_pile, ml_pileSize, ml_opened, ml_openedAt, ml_begun, ml_cells, ml_keptCells, ml_name, ml_isLeft, ml_isDone, ml_keptLeft, ml_keptDone, ml_state, ml_keptState, ml_newOf, ml_oldOf, ml_spare, ml_spareDone, ml_out, ml_metFrom, ml_metBy, ml_far, ml_low, ml_lows, ml_lowSize, ml_triedRow, ml_triedColumn, ml_triedValue, ml_triedRows, ml_sheet, mo_O w1, o1]
  refine ⟨fun z => ⟨hp q h1 g1 ?_ X1, g1.2.2.2.1, g1.2.2.2.2⟩, fun z => ⟨w1, L, Q, x2, by omega, g3, x4, g4 x6, fun h2 f1 f2 f3 => ⟨hp q h2 (FrP_trans g1 f1) ?_ (TX_Fr X1 f1 ?_ f3), f1.2.2.2.1.trans g1.2.2.2.1, f1.2.2.2.2.trans g1.2.2.2.2⟩⟩⟩
  · unfold seekA
    rw [if_neg (by omega)]
    exact g2
  · unfold seekA
    rw [if_pos (by omega), f2, g2]
  · rw [f2]
    refine WT_pk (by omega) g3 ?_
    have r1 := (st_raw g3).2.2.1
    rw [aS_atM (by decide) (by decide), aS_atM (by decide) (by decide)]
    omega
/-- the model's table behind a new row -/
def nwH (h : PH) (r c : Int) : PH := sI (sI (adH h) pMo_cells (10 * r + c) (gI h pMo_state 0)) pMo_cells (10 * gI h pMo_state 0 + oc c) r
theorem nwH_Fr {h : PH} {r c : Int} : Fr h (nwH h r c) := by
  unfold nwH adH
  exact FrP_sI (Or.inl rfl) (FrP_sI (Or.inl rfl) (FrP_sA (fun j => by unfold Tb; simp) (FrP_sI (Or.inr (Or.inr (Or.inl rfl))) (FrP_sI (Or.inr (Or.inl rfl)) (FrP_sA (fun j => by unfold Tb; simp) (FrP_refl _ h))))))
theorem nwH_BB {h : PH} {r c : Int} (b : BB h) : BB (nwH h r c) := by
  intro j
  unfold nwH adH
  simp (decide := true) only [gI_sI, gI_sA, if_false, false_and, true_and]
  refine ⟨?_, ?_⟩
  · split
    · exact Or.inr rfl
    · exact (b j).1
  · split
    · exact Or.inl rfl
    · exact (b j).2
theorem nwH_at {L Q : Int} {h : PH} {r c : Int} (hW : WT L Q (atM h)) (hr : VV (atM h) r) (h0 : 0 ≤ c) (h1 : c < 10) : atM (nwH h r c) = newA (atM h) r c := by
  have sr := st_raw hW
  have o := oc_in (c := c) (L := 10) (by decide) h0 h1
  have hr' := VV_atM.mp hr
  have eS : gI (nwH h r c) pMo_state = adS (gI h pMo_state) := by funext j; unfold nwH adH; simp (decide := true) only [gI_sI, gI_sA, if_false, if_true, false_and]
  have eL : ∀ j, gI (nwH h r c) pMo_isLeft j = if j = gI h pMo_state 0 then 1 else gI h pMo_isLeft j := by intro j; unfold nwH adH; simp (decide := true) only [gI_sI, gI_sA, if_false, if_true, false_and, true_and]
  have eD : ∀ j, gI (nwH h r c) pMo_isDone j = if j = gI h pMo_state 0 then 0 else gI h pMo_isDone j := by intro j; unfold nwH adH; simp (decide := true) only [gI_sI, gI_sA, if_false, if_true, false_and, true_and]
  have eC : ∀ j, gI (nwH h r c) pMo_cells j = if j = 10 * gI h pMo_state 0 + oc c then r else if j = 10 * r + c then gI h pMo_state 0 else if 10 * gI h pMo_state 0 ≤ j ∧ j < 10 * gI h pMo_state 0 + 10 then -2 else gI h pMo_cells j := by intro j; unfold nwH adH; simp (decide := true) only [gI_sI, gI_sA, if_false, if_true, false_and, true_and]
  have eM : gI (nwH h r c) pMo 39 = gI h pMo 39 := by unfold nwH adH; simp (decide := true) only [gI_sI, gI_sA, if_false, false_and]
  have eS0 : gI (nwH h r c) pMo_state 0 = gI h pMo_state 0 + 1 := by rw [eS]; unfold adS; simp (decide := true) only [if_true]
  have v1 : cV (gI h pMo_state 0 + 1) (gI (nwH h r c) pMo_isLeft) = aV (newA (atM h) r c) := by
    funext x
    show (if 0 ≤ x ∧ x < gI h pMo_state 0 + 1 ∧ gI (nwH h r c) pMo_isLeft x ≠ 0 then (1 : Int) else 0) = if x = aS (atM h) 0 then 1 else (if 0 ≤ x ∧ x < gI h pMo_state 0 ∧ gI h pMo_isLeft x ≠ 0 then 1 else 0)
    rw [aS_atM (by decide) (by decide), eL x]
    by_cases z : x = gI h pMo_state 0
    · rw [if_pos z, if_pos z, if_pos ⟨by omega, by omega, by decide⟩]
    · rw [if_neg z, if_neg z]
      by_cases y : 0 ≤ x ∧ x < gI h pMo_state 0 ∧ gI h pMo_isLeft x ≠ 0
      · rw [if_pos y, if_pos ⟨y.1, by omega, y.2.2⟩]
      · rw [if_neg y, if_neg (fun t => y ⟨t.1, by omega, t.2.2⟩)]
  have vx : ∀ x, aV (newA (atM h) r c) x ≠ 0 ↔ (x = gI h pMo_state 0 ∨ VV (atM h) x) := by
    intro x
    show (if x = aS (atM h) 0 then (1 : Int) else aV (atM h) x) ≠ 0 ↔ _
    rw [aS_atM (by decide) (by decide)]
    split
    · rename_i q; exact ⟨fun _ => Or.inl q, fun _ => by decide⟩
    · rename_i q; exact ⟨fun z => Or.inr z, fun z => z.resolve_left q⟩
  have e1 : kE 10 (aV (newA (atM h) r c)) (c2 (gI (nwH h r c) pMo_cells)) = aE (newA (atM h) r c) := by
    funext x d
    show _ = putE (aE (atM h)) r c (aS (atM h) 0) x d
    rw [aS_atM (by decide) (by decide)]
    unfold kE
    by_cases z : aV (newA (atM h) r c) x ≠ 0 ∧ 0 ≤ d ∧ d < 10
    · rw [if_pos z]
      show gI (nwH h r c) pMo_cells (10 * x + d) = _
      rw [eC]
      unfold putE
      by_cases y1 : x = gI h pMo_state 0 ∧ d = oc c
      · rw [if_pos (by omega), if_pos y1]
      · rw [if_neg (by omega), if_neg y1]
        by_cases y2 : x = r ∧ d = c
        · rw [if_pos (by omega), if_pos y2]
        · rw [if_neg (by omega), if_neg y2]
          rcases (vx x).mp z.1 with t | t
          · rw [if_pos (by omega)]
            exact (if_neg (fun q => by have := VV_atM.mp q.1; omega) : kE 10 _ _ x d = -2).symm
          · have := VV_atM.mp t
            rw [if_neg (by omega), aE_atM t z.2.1 z.2.2]
    · rw [if_neg z, putE_3]
      · exact (if_neg (fun q => z ⟨(vx x).mpr (Or.inr q.1), q.2⟩) : kE 10 _ _ x d = -2).symm
      · rintro ⟨rfl, rfl⟩; exact z ⟨(vx _).mpr (Or.inl rfl), o.1, o.2⟩
      · rintro ⟨rfl, rfl⟩; exact z ⟨(vx _).mpr (Or.inr hr), h0, h1⟩
  have d1 : cD (aV (newA (atM h) r c)) (gI (nwH h r c) pMo_isDone) = aD (atM h) := by
    funext x
    show (if aV (newA (atM h) r c) x ≠ 0 ∧ gI (nwH h r c) pMo_isDone x ≠ 0 then (1 : Int) else 0) = if aV (atM h) x ≠ 0 ∧ gI h pMo_isDone x ≠ 0 then 1 else 0
    rw [eD x]
    by_cases z : x = gI h pMo_state 0
    · rw [if_pos z, if_neg (fun t => t.2 rfl), if_neg (fun t => by have := VV_atM.mp t.1; omega)]
    · rw [if_neg z]
      by_cases y : aV (atM h) x ≠ 0 ∧ gI h pMo_isDone x ≠ 0
      · rw [if_pos y, if_pos ⟨(vx x).mpr (Or.inr y.1), y.2⟩]
      · rw [if_neg y, if_neg (fun t => y ⟨((vx x).mp t.1).resolve_left z, t.2⟩)]
  have s1 : cS (adS (gI h pMo_state)) = adS (aS (atM h)) := by
    funext j
    unfold cS
    by_cases z : 0 ≤ j ∧ j < 11
    · rw [if_pos z]
      unfold adS
      rw [aS_atM (by decide) (by decide), aS_atM (by decide) (by decide), aS_atM (by decide) (by decide), aS_atM (by decide) (by decide), aS_atM z.1 z.2]
    · rw [if_neg z]
      unfold adS
      rw [if_neg (by omega), if_neg (by omega), if_neg (by omega), if_neg (by omega)]
      exact (if_neg z : cS _ j = 0).symm
  unfold atM mkA
  rw [eS0, v1, eS, s1, eM]
  show (aV (newA (atM h) r c), kE 10 (aV (newA (atM h) r c)) (c2 (gI (nwH h r c) pMo_cells)), cD (aV (newA (atM h) r c)) (gI (nwH h r c) pMo_isDone), adS (aS (atM h)), gI h pMo 39) = _
  rw [e1, d1]
  rfl
theorem nwH_TX {L Q : Int} {h : PH} {r c : Int} (hX : TX L Q h) (hr : VV (atM h) r) (h0 : 0 ≤ c) (h1 : c < L) (e1 : aE (atM h) r c = -2) (hp : hasP (atM h)) : TX L Q (nwH h r c) := by
  have hX2 := hX.2.1
  have hX1 := hX.1
  refine TX_Fr hX nwH_Fr ?_ (nwH_BB hX.2.2.2.2.2)
  rw [nwH_at hX.2.2.1 hr h0 (by omega)]
  exact WT_new (by omega) hX.2.2.1 hr h0 h1 e1 hp.1 hp.2
/-- what a call of fill is given -/
def FX (h : PH) (b : Nat) (f : Int) (u : List Int) (L : Int) : Prop := wAr b ∧ u.length ≤ 40 ∧ 0 ≤ f ∧ f + 40 ≤ lnA b ∧ (∀ k : Nat, k < u.length → gI h b (f + k) = wf u k) ∧ (∀ c, c ∈ u → 0 ≤ c ∧ c < L)
def flS (b : Nat) (f : Int) (u : List Int) : LSt := [some (.inr (.inl (some pMo))), some (.inr (.inl (some b))), some (.inl f), some (.inl u.length)]
def Ct_Mo_fill : CtT := fun av h post => match av with
  | [.inr (.inl (some t)), .inr (.inl (some b)), .inl f, .inl n] => t = pMo ∧ MW h ∧ ∃ (u : List Int) (L Q : Int), FX h b f u L ∧ TX L Q h ∧ n = u.length ∧
      ∀ h', Fr h h' → atM h' = (filA L (wM h) (uM h) u (atM h)).1 → TX L Q h' → post (some (.inl (filA L (wM h) (uM h) u (atM h)).2)) h'
  | _ => False
def B_Mo_fill_126 : TT := (tt_ci 1 tt_zr)
theorem S_Mo_fill_126 (lc lz : Nat) : Snd md_Mo_fill lc lz 126 (B_Mo_fill_126) := (snd_iconst (n := 1) (dget dd_Mo_fill 70 rfl) (inR_d rfl) rfl (snd_zr (dget dd_Mo_fill 71 rfl) rfl))
def B_Mo_fill_107 : TT := (tt_al 0 (tt_al 0 (tt_gI 9 35 (tt_al 1 (tt_il 2 (tt_al 0 (tt_gI 9 36 (tt_add (tt_ia (tt_cV 9 3 Ct_Mo_newAt (tt_cut 0)))))))))))
theorem S_Mo_fill_107 (lc lz : Nat) : Snd md_Mo_fill lc lz 107 (B_Mo_fill_107) := (snd_al_n (n := 0) (dget dd_Mo_fill 59 rfl) rfl (snd_al_n (n := 0) (dget dd_Mo_fill 60 rfl) rfl (snd_gI (kn := 35) fd_Mo_243 rfl (dget dd_Mo_fill 61 rfl) (snd_al_n (n := 1) (dget dd_Mo_fill 62 rfl) rfl (snd_il_n (n := 2) (dget dd_Mo_fill 63 rfl) rfl (snd_al_n (n := 0) (dget dd_Mo_fill 64 rfl) rfl (snd_gI (kn := 36) fd_Mo_246 rfl (dget dd_Mo_fill 65 rfl) (snd_add (dget dd_Mo_fill 66 rfl) (snd_ia (dget dd_Mo_fill 67 rfl) (snd_cV (n := 2) met_Mo_newAt mi_Mo_newAt ki_Mo_newAt kv_Mo_newAt ml_Mo_284 rfl (by decide) (dget dd_Mo_fill 68 rfl) (snd_goto (tg := 0) (dget dd_Mo_fill 69 rfl) rfl snd_cut)))))))))))
def B_Mo_fill_98 : TT := (tt_al 0 (tt_cV 9 1 Ct_Mo_hasPlace (tt_zne (B_Mo_fill_107) (tt_ci 0 tt_zr))))
theorem S_Mo_fill_98 (lc lz : Nat) : Snd md_Mo_fill lc lz 98 (B_Mo_fill_98) := (snd_al_n (n := 0) (dget dd_Mo_fill 54 rfl) rfl (snd_cV (n := 0) met_Mo_hasPlace mi_Mo_hasPlace ki_Mo_hasPlace kv_Mo_hasPlace ml_Mo_278 rfl (by decide) (dget dd_Mo_fill 55 rfl) (snd_zne (tg := 107) (dget dd_Mo_fill 56 rfl) rfl (S_Mo_fill_107 lc lz) (snd_iconst (n := 0) (dget dd_Mo_fill 57 rfl) (inR_d rfl) rfl (snd_zr (dget dd_Mo_fill 58 rfl) rfl)))))
def B_Mo_fill_96 : TT := (tt_ci 1 tt_zr)
theorem S_Mo_fill_96 (lc lz : Nat) : Snd md_Mo_fill lc lz 96 (B_Mo_fill_96) := (snd_iconst (n := 1) (dget dd_Mo_fill 52 rfl) (inR_d rfl) rfl (snd_zr (dget dd_Mo_fill 53 rfl) rfl))
def B_Mo_fill_65 : TT := (tt_al 0 (tt_al 1 (tt_il 2 (tt_il 3 (tt_al 0 (tt_gI 9 39 (tt_cV 9 5 Ct_Mo_lookAt (tt_al 0 (tt_cV 9 1 Ct_Mo_isWorking (tt_zeq (B_Mo_fill_96) (tt_al 0 (tt_gI 9 38 (tt_al 0 (tt_gI 9 36 (tt_sub (tt_ci 1 (tt_cgt (B_Mo_fill_98) (B_Mo_fill_96))))))))))))))))))
theorem S_Mo_fill_65 (lc lz : Nat) : Snd md_Mo_fill lc lz 65 (B_Mo_fill_65) := (snd_al_n (n := 0) (dget dd_Mo_fill 35 rfl) rfl (snd_al_n (n := 1) (dget dd_Mo_fill 36 rfl) rfl (snd_il_n (n := 2) (dget dd_Mo_fill 37 rfl) rfl (snd_il_n (n := 3) (dget dd_Mo_fill 38 rfl) rfl (snd_al_n (n := 0) (dget dd_Mo_fill 39 rfl) rfl (snd_gI (kn := 39) fd_Mo_272 rfl (dget dd_Mo_fill 40 rfl) (snd_cV (n := 4) met_Mo_lookAt mi_Mo_lookAt ki_Mo_lookAt kv_Mo_lookAt ml_Mo_262 rfl (by decide) (dget dd_Mo_fill 41 rfl) (snd_al_n (n := 0) (dget dd_Mo_fill 42 rfl) rfl (snd_cV (n := 0) met_Mo_isWorking mi_Mo_isWorking ki_Mo_isWorking kv_Mo_isWorking ml_Mo_275 rfl (by decide) (dget dd_Mo_fill 43 rfl) (snd_zeq (tg := 96) (dget dd_Mo_fill 44 rfl) rfl (S_Mo_fill_96 lc lz) (snd_al_n (n := 0) (dget dd_Mo_fill 45 rfl) rfl (snd_gI (kn := 38) fd_Mo_252 rfl (dget dd_Mo_fill 46 rfl) (snd_al_n (n := 0) (dget dd_Mo_fill 47 rfl) rfl (snd_gI (kn := 36) fd_Mo_246 rfl (dget dd_Mo_fill 48 rfl) (snd_sub (dget dd_Mo_fill 49 rfl) (snd_iconst (n := 1) (dget dd_Mo_fill 50 rfl) (inR_d rfl) rfl (snd_cgt (tg := 98) (dget dd_Mo_fill 51 rfl) rfl (S_Mo_fill_98 lc lz) (S_Mo_fill_96 lc lz))))))))))))))))))
def B_Mo_fill_56 : TT := (tt_al 0 (tt_cV 9 1 Ct_Mo_isWorking (tt_zne (B_Mo_fill_65) (tt_ci 1 tt_zr))))
theorem S_Mo_fill_56 (lc lz : Nat) : Snd md_Mo_fill lc lz 56 (B_Mo_fill_56) := (snd_al_n (n := 0) (dget dd_Mo_fill 30 rfl) rfl (snd_cV (n := 0) met_Mo_isWorking mi_Mo_isWorking ki_Mo_isWorking kv_Mo_isWorking ml_Mo_275 rfl (by decide) (dget dd_Mo_fill 31 rfl) (snd_zne (tg := 65) (dget dd_Mo_fill 32 rfl) rfl (S_Mo_fill_65 lc lz) (snd_iconst (n := 1) (dget dd_Mo_fill 33 rfl) (inR_d rfl) rfl (snd_zr (dget dd_Mo_fill 34 rfl) rfl)))))
def B_Mo_fill_40 : TT := (tt_al 0 (tt_cV 9 1 Ct_Mo_hasPlace (tt_zne (B_Mo_fill_107) (tt_al 0 (tt_cV 9 1 Ct_Mo_seeksPlace (tt_zne (B_Mo_fill_56) (tt_ci 0 tt_zr)))))))
theorem S_Mo_fill_40 (lc lz : Nat) : Snd md_Mo_fill lc lz 40 (B_Mo_fill_40) := (snd_al_n (n := 0) (dget dd_Mo_fill 22 rfl) rfl (snd_cV (n := 0) met_Mo_hasPlace mi_Mo_hasPlace ki_Mo_hasPlace kv_Mo_hasPlace ml_Mo_278 rfl (by decide) (dget dd_Mo_fill 23 rfl) (snd_zne (tg := 107) (dget dd_Mo_fill 24 rfl) rfl (S_Mo_fill_107 lc lz) (snd_al_n (n := 0) (dget dd_Mo_fill 25 rfl) rfl (snd_cV (n := 0) met_Mo_seeksPlace mi_Mo_seeksPlace ki_Mo_seeksPlace kv_Mo_seeksPlace ml_Mo_281 rfl (by decide) (dget dd_Mo_fill 26 rfl) (snd_zne (tg := 56) (dget dd_Mo_fill 27 rfl) rfl (S_Mo_fill_56 lc lz) (snd_iconst (n := 0) (dget dd_Mo_fill 28 rfl) (inR_d rfl) rfl (snd_zr (dget dd_Mo_fill 29 rfl) rfl))))))))
def B_Mo_fill_38 : TT := (tt_ci 1 tt_zr)
theorem S_Mo_fill_38 (lc lz : Nat) : Snd md_Mo_fill lc lz 38 (B_Mo_fill_38) := (snd_iconst (n := 1) (dget dd_Mo_fill 20 rfl) (inR_d rfl) rfl (snd_zr (dget dd_Mo_fill 21 rfl) rfl))
def B_Mo_fill_0 : TT := (tt_al 0 (tt_cV 9 1 Ct_Mo_isWorking (tt_zeq (B_Mo_fill_126) (tt_al 0 (tt_al 1 (tt_il 2 (tt_il 3 (tt_al 0 (tt_gI 9 39 (tt_cV 9 5 Ct_Mo_lookAt (tt_al 0 (tt_cV 9 1 Ct_Mo_isWorking (tt_zeq (B_Mo_fill_38) (tt_al 0 (tt_gI 9 38 (tt_al 0 (tt_gI 9 36 (tt_sub (tt_ci 1 (tt_cgt (B_Mo_fill_40) (B_Mo_fill_38)))))))))))))))))))))
theorem S_Mo_fill_0 (lc lz : Nat) : Snd md_Mo_fill lc lz 0 (B_Mo_fill_0) := (snd_al_n (n := 0) (dget dd_Mo_fill 0 rfl) rfl (snd_cV (n := 0) met_Mo_isWorking mi_Mo_isWorking ki_Mo_isWorking kv_Mo_isWorking ml_Mo_275 rfl (by decide) (dget dd_Mo_fill 1 rfl) (snd_zeq (tg := 126) (dget dd_Mo_fill 2 rfl) rfl (S_Mo_fill_126 lc lz) (snd_al_n (n := 0) (dget dd_Mo_fill 3 rfl) rfl (snd_al_n (n := 1) (dget dd_Mo_fill 4 rfl) rfl (snd_il_n (n := 2) (dget dd_Mo_fill 5 rfl) rfl (snd_il_n (n := 3) (dget dd_Mo_fill 6 rfl) rfl (snd_al_n (n := 0) (dget dd_Mo_fill 7 rfl) rfl (snd_gI (kn := 39) fd_Mo_272 rfl (dget dd_Mo_fill 8 rfl) (snd_cV (n := 4) met_Mo_lookAt mi_Mo_lookAt ki_Mo_lookAt kv_Mo_lookAt ml_Mo_262 rfl (by decide) (dget dd_Mo_fill 9 rfl) (snd_al_n (n := 0) (dget dd_Mo_fill 10 rfl) rfl (snd_cV (n := 0) met_Mo_isWorking mi_Mo_isWorking ki_Mo_isWorking kv_Mo_isWorking ml_Mo_275 rfl (by decide) (dget dd_Mo_fill 11 rfl) (snd_zeq (tg := 38) (dget dd_Mo_fill 12 rfl) rfl (S_Mo_fill_38 lc lz) (snd_al_n (n := 0) (dget dd_Mo_fill 13 rfl) rfl (snd_gI (kn := 38) fd_Mo_252 rfl (dget dd_Mo_fill 14 rfl) (snd_al_n (n := 0) (dget dd_Mo_fill 15 rfl) rfl (snd_gI (kn := 36) fd_Mo_246 rfl (dget dd_Mo_fill 16 rfl) (snd_sub (dget dd_Mo_fill 17 rfl) (snd_iconst (n := 1) (dget dd_Mo_fill 18 rfl) (inR_d rfl) rfl (snd_cgt (tg := 40) (dget dd_Mo_fill 19 rfl) rfl (S_Mo_fill_40 lc lz) (S_Mo_fill_38 lc lz)))))))))))))))))))))
theorem fill_107 {I : Nat → LSt → PH → Prop} {P : TR} {h h1 : PH} {b : Nat} {f : Int} {u : List Int} {L Q : Int} (w : MW h) (hx : FX h b f u L) (hF : Fr h h1) (hX : TX L Q h1) (hk : wkg (atM h1)) (hg : 1 < gap (aE (atM h1)) u (aM (atM h1))) (hp : hasP (atM h1)) (h35 : gI h1 pMo 35 = (lkp (aE (atM h1)) u (aM (atM h1))).1) (h36 : gI h1 pMo 36 = (lkp (aE (atM h1)) u (aM (atM h1))).2) (hI : ∀ h2, Fr h h2 → TX L Q h2 → atM h2 = nwA u (atM h1) → I 0 (flS b f u) h2) : B_Mo_fill_107 I P (flS b f u) [] h1 := by
  have w1 := FrP_MW hF w
  obtain ⟨b1, b2, b3, b4, b5, b6⟩ := hx
  have hb1 : isAr h1 b 0 := wAr_isAr w1 b1
  have eb : gI h1 b = gI h b := FrP_arr hF (wAr_Tb b1)
  have hln := wAr_ln b1
  obtain ⟨x1, x2, x3, x4, x5, x6⟩ := id hX
  have sr := st_raw x3
  obtain ⟨l1, l2, l3, l4, l5⟩ := look_two (L := L) (by omega) x3.1 hk.2 b6 hg
  have v1 := VV_atM.mp l1
  have hp' := hp_raw.mp hp
  unfold flS
  simp (decide := true) only [B_Mo_fill_0, B_Mo_fill_38, B_Mo_fill_40, B_Mo_fill_56, B_Mo_fill_65, B_Mo_fill_96, B_Mo_fill_98, B_Mo_fill_107, B_Mo_fill_126, Ct_Mo_isWorking, Ct_Mo_lookAt, Ct_Mo_hasPlace, Ct_Mo_seeksPlace, Ct_Mo_newAt, tt_ci, tt_cl, tt_nul, tt_il, tt_al, tt_ll, tt_is, tt_as, tt_ls, tt_inc, tt_add, tt_sub, tt_mul, tt_div, tt_rem, tt_ladd, tt_lmul, tt_ldiv, tt_lrem, tt_zeq, tt_zne, tt_zlt, tt_zge, tt_zgt, tt_zle, tt_ceq, tt_cne, tt_clt, tt_cge, tt_cgt, tt_cle, tt_nn, tt_cut, tt_pop, tt_dup, tt_dup2, tt_gI, tt_gR, tt_pI, tt_pZ, tt_pR, tt_ia, tt_ba, tt_za, tt_iS, tt_bS, tt_zS, tt_aa, tt_aS, tt_len, tt_and, tt_xor, tt_shr, tt_ushr, tt_lcmp, tt_i2b, tt_i2l, tt_l2i, tt_sw, swG, tt_ir, tt_zr, tt_br, tt_lr, tt_ar, tt_vr, tt_cV, tt_cS, tt_min, tt_max, tt_acp, pI, pII, pO, pA, pIA, pIIA, pOA, pOIA, pL, pLL, pLIA, pV, pCP, lI, lO, lL, nth, stL, clL, entA, fitL, rcv, List.take_succ_cons, List.take_zero, List.drop_succ_cons, List.drop_zero, List.reverse_cons, List.reverse_nil, List.nil_append, List.cons_append, List.length_cons, List.length_nil, Option.toList_some, Option.toList_none, gI_sI, gI_sA, gR_sI, gR_sA, gI_sR, gR_sR, hN_sI, hN_sA, hN_sR, isO_sI, isO_sA, isO_sR, isAr_sI, isAr_sA, isAr_sR, hC_sI, hC_sA, hC_sR, hZ_sI, hZ_sA, hZ_sR, MW_sI, MW_sA, true_and, and_true, true_or, or_true, and_self, forall_const, imp_self, implies_true, if_true, if_false, false_and, and_false, false_or, or_false, not_false_eq_true, not_true_eq_false, sI_sI, mr_tape w1, mr_text w1, mr_words w1, mr_wordSize w1, mr_subs w1, mr_subSize w1, mr_asked w1, mr_pile w1, mr_pileSize w1, mr_opened w1, mr_openedAt w1, mr_begun w1, mr_cells w1, mr_keptCells w1, mr_name w1, mr_isLeft w1, mr_isDone w1, mr_keptLeft w1, mr_keptDone w1, mr_state w1, mr_keptState w1, mr_newOf w1, mr_oldOf w1, mr_spare w1, mr_spareDone w1, mr_out w1, mr_metFrom w1, mr_metBy w1, mr_far w1, mr_low w1, mr_lows w1, mr_lowSize w1, mr_triedRow w1, mr_triedColumn w1, mr_triedValue w1, mr_triedRows w1, mr_sheet w1, ma_tape w1, ma_text w1, ma_words w1, ma_wordSize w1, ma_subs w1, ma_subSize w1, ma_asked w1, ma_pile w1, ma_pileSize w1, ma_opened w1, ma_openedAt w1, ma_begun w1, ma_cells w1, ma_keptCells w1, ma_name w1, ma_isLeft w1, ma_isDone w1, ma_keptLeft w1, ma_keptDone w1, ma_state w1, ma_keptState w1, ma_newOf w1, ma_oldOf w1, ma_spare w1, ma_spareDone w1, ma_out w1, ma_metFrom w1, ma_metBy w1, ma_far w1, ma_low w1, ma_lows w1, ma_lowSize w1, ma_triedRow w1, ma_triedColumn w1, ma_triedValue w1, ma_triedRows w1, ma_sheet w1, ml_tape, ml_text, ml_words, ml_wordSize, ml_subs, ml_subSize, ml_asked, ml_pile, ml_pileSize, ml_opened, ml_openedAt, ml_begun, ml_cells, ml_keptCells, ml_name, ml_isLeft, ml_isDone, ml_keptLeft, ml_keptDone, ml_state, ml_keptState, ml_newOf, ml_oldOf, ml_spare, ml_spareDone, ml_out, ml_metFrom, ml_metBy, ml_far, ml_low, ml_lows, ml_lowSize, ml_triedRow, ml_triedColumn, ml_triedValue, ml_triedRows, ml_sheet, mo_O w1, hb1, eb, h35, h36, b5 _ l2]
  refine ⟨⟨by omega, by omega⟩, by omega, by omega, w1, by omega, by omega, by omega, by omega, by omega, by omega, v1.1, by omega, l3, by omega, ?_⟩
  have q := hI (nwH h1 (lkp (aE (atM h1)) u (aM (atM h1))).1 (wf u (lkp (aE (atM h1)) u (aM (atM h1))).2)) (FrP_trans hF nwH_Fr) (nwH_TX hX l1 l3 l4 l5 hp) (nwH_at x3 l1 l3 (by omega))
  exact q
theorem fill_65 {I : Nat → LSt → PH → Prop} {P : TR} {h h1 : PH} {b : Nat} {f : Int} {u : List Int} {L Q : Int} (w : MW h) (hx : FX h b f u L) (hF : Fr h h1) (hX : TX L Q h1) (hk : wkg (atM h1))
    (hI : 1 < gap (aE (atM h1)) u (aM (atM h1)) → hasP (atM h1) → ∀ h2, Fr h h2 → TX L Q h2 → atM h2 = nwA u (atM h1) → I 0 (flS b f u) h2)
    (hP0 : 1 < gap (aE (atM h1)) u (aM (atM h1)) → ¬ hasP (atM h1) → ∀ h2, Fr h h2 → TX L Q h2 → atM h2 = atM h1 → P (some (.inl 0)) h2)
    (hP1 : ¬ 1 < gap (aE (atM h1)) u (aM (atM h1)) → ∀ h2, Fr h h2 → TX L Q h2 → atM h2 = lookA L (atM h1) u (aM (atM h1)) → P (some (.inl 1)) h2) : B_Mo_fill_65 I P (flS b f u) [] h1 := by
  have w1 := FrP_MW hF w
  obtain ⟨b1, b2, b3, b4, b5, b6⟩ := id hx
  have hb1 : isAr h1 b 0 := wAr_isAr w1 b1
  have eb : gI h1 b = gI h b := FrP_arr hF (wAr_Tb b1)
  have hln := wAr_ln b1
  obtain ⟨x1, x2, x3, x4, x5, x6⟩ := id hX
  have sr := st_raw x3
  have look := look_spec (L := L) (by omega) x3.1 hk.2 b6
  unfold flS
  simp (decide := true) only [B_Mo_fill_0, B_Mo_fill_38, B_Mo_fill_40, B_Mo_fill_56, B_Mo_fill_65, B_Mo_fill_96, B_Mo_fill_107, B_Mo_fill_126, Ct_Mo_isWorking, Ct_Mo_lookAt, Ct_Mo_hasPlace, Ct_Mo_seeksPlace, Ct_Mo_newAt, tt_ci, tt_cl, tt_nul, tt_il, tt_al, tt_ll, tt_is, tt_as, tt_ls, tt_inc, tt_add, tt_sub, tt_mul, tt_div, tt_rem, tt_ladd, tt_lmul, tt_ldiv, tt_lrem, tt_zeq, tt_zne, tt_zlt, tt_zge, tt_zgt, tt_zle, tt_ceq, tt_cne, tt_clt, tt_cge, tt_cgt, tt_cle, tt_nn, tt_cut, tt_pop, tt_dup, tt_dup2, tt_gI, tt_gR, tt_pI, tt_pZ, tt_pR, tt_ia, tt_ba, tt_za, tt_iS, tt_bS, tt_zS, tt_aa, tt_aS, tt_len, tt_and, tt_xor, tt_shr, tt_ushr, tt_lcmp, tt_i2b, tt_i2l, tt_l2i, tt_sw, swG, tt_ir, tt_zr, tt_br, tt_lr, tt_ar, tt_vr, tt_cV, tt_cS, tt_min, tt_max, tt_acp, pI, pII, pO, pA, pIA, pIIA, pOA, pOIA, pL, pLL, pLIA, pV, pCP, lI, lO, lL, nth, stL, clL, entA, fitL, rcv, List.take_succ_cons, List.take_zero, List.drop_succ_cons, List.drop_zero, List.reverse_cons, List.reverse_nil, List.nil_append, List.cons_append, List.length_cons, List.length_nil, Option.toList_some, Option.toList_none, gI_sI, gI_sA, gR_sI, gR_sA, gI_sR, gR_sR, hN_sI, hN_sA, hN_sR, isO_sI, isO_sA, isO_sR, isAr_sI, isAr_sA, isAr_sR, hC_sI, hC_sA, hC_sR, hZ_sI, hZ_sA, hZ_sR, MW_sI, MW_sA, true_and, and_true, true_or, or_true, and_self, forall_const, imp_self, implies_true, if_true, if_false, false_and, and_false, false_or, or_false, not_false_eq_true, not_true_eq_false, sI_sI, mr_tape w1, mr_text w1, mr_words w1, mr_wordSize w1, mr_subs w1, mr_subSize w1, mr_asked w1, mr_pile w1, mr_pileSize w1, mr_opened w1, mr_openedAt w1, mr_begun w1, mr_cells w1, mr_keptCells w1, mr_name w1, mr_isLeft w1, mr_isDone w1, mr_keptLeft w1, mr_keptDone w1, mr_state w1, mr_keptState w1, mr_newOf w1, mr_oldOf w1, mr_spare w1, mr_spareDone w1, mr_out w1, mr_metFrom w1, mr_metBy w1, mr_far w1, mr_low w1, mr_lows w1, mr_lowSize w1, mr_triedRow w1, mr_triedColumn w1, mr_triedValue w1, mr_triedRows w1, mr_sheet w1, ma_tape w1, ma_text w1, ma_words w1, ma_wordSize w1, ma_subs w1, ma_subSize w1, ma_asked w1, ma_pile w1, ma_pileSize w1, ma_opened w1, ma_openedAt w1, ma_begun w1, ma_cells w1, ma_keptCells w1, ma_name w1, ma_isLeft w1, ma_isDone w1, ma_keptLeft w1, ma_keptDone w1, ma_state w1, ma_keptState w1, ma_newOf w1, ma_oldOf w1, ma_spare w1, ma_spareDone w1, ma_out w1, ma_metFrom w1, ma_metBy w1, ma_far w1, ma_low w1, ma_lows w1, ma_lowSize w1, ma_triedRow w1, ma_triedColumn w1, ma_triedValue w1, ma_triedRows w1, ma_sheet w1, ml_tape, ml_text, ml_words, ml_wordSize, ml_subs, ml_subSize, ml_asked, ml_pile, ml_pileSize, ml_opened, ml_openedAt, ml_begun, ml_cells, ml_keptCells, ml_name, ml_isLeft, ml_isDone, ml_keptLeft, ml_keptDone, ml_state, ml_keptState, ml_newOf, ml_oldOf, ml_spare, ml_spareDone, ml_out, ml_metFrom, ml_metBy, ml_far, ml_low, ml_lows, ml_lowSize, ml_triedRow, ml_triedColumn, ml_triedValue, ml_triedRows, ml_sheet, mo_O w1, hb1, eb]
  refine ⟨w1, b1, u, L, Q, x1, x2, x3, x4, hk.2, rfl, b2, b3, b4, b5, b6, fun h2 f1 f2 f3 f4 f5 f6 f7 f8 f9 f10 => ?_⟩
  have w2 := FrP_MW f1 w1
  have o2 : isO h2 pMo 9 := mo_O w2
  have hF2 := FrP_trans hF f1
  have X2 := TX_Fr hX f1 f3 (f10 x6)
  have sr2 := st_raw f3
  have wr2 := wk_raw f3
  have hg : gap (aE (atM h1)) u (aM (atM h1)) = u.length - (lkp (aE (atM h1)) u (aM (atM h1))).2 - (lkq (aE (atM h1)) u (aM (atM h1))).2 := rfl
  have l7 := look.2.2.2.2.2.2.1
  have f6' : gI h2 pMo 36 = (lkp (aE (atM h1)) u (aM (atM h1))).2 := f6
  have f7' : gI h2 pMo 38 = u.length - (lkq (aE (atM h1)) u (aM (atM h1))).2 := f7
  have same : 1 < gap (aE (atM h1)) u (aM (atM h1)) → atM h2 = atM h1 := fun z => f2.trans (lookA_two z)
  simp (decide := true) only [B_Mo_fill_0, B_Mo_fill_38, B_Mo_fill_40, B_Mo_fill_56, B_Mo_fill_65, B_Mo_fill_96, B_Mo_fill_107, B_Mo_fill_126, Ct_Mo_isWorking, Ct_Mo_lookAt, Ct_Mo_hasPlace, Ct_Mo_seeksPlace, Ct_Mo_newAt, tt_ci, tt_cl, tt_nul, tt_il, tt_al, tt_ll, tt_is, tt_as, tt_ls, tt_inc, tt_add, tt_sub, tt_mul, tt_div, tt_rem, tt_ladd, tt_lmul, tt_ldiv, tt_lrem, tt_zeq, tt_zne, tt_zlt, tt_zge, tt_zgt, tt_zle, tt_ceq, tt_cne, tt_clt, tt_cge, tt_cgt, tt_cle, tt_nn, tt_cut, tt_pop, tt_dup, tt_dup2, tt_gI, tt_gR, tt_pI, tt_pZ, tt_pR, tt_ia, tt_ba, tt_za, tt_iS, tt_bS, tt_zS, tt_aa, tt_aS, tt_len, tt_and, tt_xor, tt_shr, tt_ushr, tt_lcmp, tt_i2b, tt_i2l, tt_l2i, tt_sw, swG, tt_ir, tt_zr, tt_br, tt_lr, tt_ar, tt_vr, tt_cV, tt_cS, tt_min, tt_max, tt_acp, pI, pII, pO, pA, pIA, pIIA, pOA, pOIA, pL, pLL, pLIA, pV, pCP, lI, lO, lL, nth, stL, clL, entA, fitL, rcv, List.take_succ_cons, List.take_zero, List.drop_succ_cons, List.drop_zero, List.reverse_cons, List.reverse_nil, List.nil_append, List.cons_append, List.length_cons, List.length_nil, Option.toList_some, Option.toList_none, gI_sI, gI_sA, gR_sI, gR_sA, gI_sR, gR_sR, hN_sI, hN_sA, hN_sR, isO_sI, isO_sA, isO_sR, isAr_sI, isAr_sA, isAr_sR, hC_sI, hC_sA, hC_sR, hZ_sI, hZ_sA, hZ_sR, MW_sI, MW_sA, true_and, and_true, true_or, or_true, and_self, forall_const, imp_self, implies_true, if_true, if_false, false_and, and_false, false_or, or_false, not_false_eq_true, not_true_eq_false, sI_sI, mr_tape w2, mr_text w2, mr_words w2, mr_wordSize w2, mr_subs w2, mr_subSize w2, mr_asked w2, mr_pile w2, mr_pileSize w2, mr_opened w2, mr_openedAt w2, mr_begun w2, mr_cells w2, mr_keptCells w2, mr_name w2, mr_isLeft w2, mr_isDone w2, mr_keptLeft w2, mr_keptDone w2, mr_state w2, mr_keptState w2, mr_newOf w2, mr_oldOf w2, mr_spare w2, mr_spareDone w2, mr_out w2, mr_metFrom w2, mr_metBy w2, mr_far w2, mr_low w2, mr_lows w2, mr_lowSize w2, mr_triedRow w2, mr_triedColumn w2, mr_triedValue w2, mr_triedRows w2, mr_sheet w2, ma_tape w2, ma_text w2, ma_words w2, ma_wordSize w2, ma_subs w2, ma_subSize w2, ma_asked w2, ma_pile w2, ma_pileSize w2, ma_opened w2, ma_openedAt w2, ma_begun w2, ma_cells w2, ma_keptCells w2, ma_name w2, ma_isLeft w2, ma_isDone w2, ma_keptLeft w2, ma_keptDone w2, ma_state w2, ma_keptState w2, ma_newOf w2, ma_oldOf w2, ma_spare w2, ma_spareDone w2, ma_out w2, ma_metFrom w2, ma_metBy w2, ma_far w2, ma_low w2, ma_lows w2, ma_lowSize w2, ma_triedRow w2, ma_triedColumn w2, ma_triedValue w2, ma_triedRows w2, ma_sheet w2, ml_tape, ml_text, ml_words, ml_wordSize, ml_subs, ml_subSize, ml_asked, ml_pile, ml_pileSize, ml_opened, ml_openedAt, ml_begun, ml_cells, ml_keptCells, ml_name, ml_isLeft, ml_isDone, ml_keptLeft, ml_keptDone, ml_state, ml_keptState, ml_newOf, ml_oldOf, ml_spare, ml_spareDone, ml_out, ml_metFrom, ml_metBy, ml_far, ml_low, ml_lows, ml_lowSize, ml_triedRow, ml_triedColumn, ml_triedValue, ml_triedRows, ml_sheet, mo_O w2, o2, f6', f7']
  refine ⟨w2, by omega, fun z => hP1 (fun y => ?_) h2 hF2 X2 f2, fun z => ⟨⟨by omega, by omega⟩, fun y => ?_, fun y => hP1 (by omega) h2 hF2 X2 f2⟩⟩
  · have := same y
    rw [← this] at hk
    rw [if_pos (wr2.mp hk)] at z
    exact absurd z (by decide)
  · have y' : 1 < gap (aE (atM h1)) u (aM (atM h1)) := by omega
    have e := same y'
    have n107 : hasP (atM h1) → B_Mo_fill_107 I P (flS b f u) [] h2 := fun q => fill_107 w hx hF2 X2 (by rw [e]; exact hk) (by rw [e]; exact y') (by rw [e]; exact q) (by rw [e]; exact f5) (by rw [e]; exact f6') (fun h3 g1 g2 g3 => hI y' q h3 g1 g2 (by rw [g3, e]))
    unfold flS at n107
    simp (decide := true) only [B_Mo_fill_0, B_Mo_fill_38, B_Mo_fill_40, B_Mo_fill_56, B_Mo_fill_65, B_Mo_fill_96, B_Mo_fill_98, B_Mo_fill_126, Ct_Mo_isWorking, Ct_Mo_lookAt, Ct_Mo_hasPlace, Ct_Mo_seeksPlace, Ct_Mo_newAt, tt_ci, tt_cl, tt_nul, tt_il, tt_al, tt_ll, tt_is, tt_as, tt_ls, tt_inc, tt_add, tt_sub, tt_mul, tt_div, tt_rem, tt_ladd, tt_lmul, tt_ldiv, tt_lrem, tt_zeq, tt_zne, tt_zlt, tt_zge, tt_zgt, tt_zle, tt_ceq, tt_cne, tt_clt, tt_cge, tt_cgt, tt_cle, tt_nn, tt_cut, tt_pop, tt_dup, tt_dup2, tt_gI, tt_gR, tt_pI, tt_pZ, tt_pR, tt_ia, tt_ba, tt_za, tt_iS, tt_bS, tt_zS, tt_aa, tt_aS, tt_len, tt_and, tt_xor, tt_shr, tt_ushr, tt_lcmp, tt_i2b, tt_i2l, tt_l2i, tt_sw, swG, tt_ir, tt_zr, tt_br, tt_lr, tt_ar, tt_vr, tt_cV, tt_cS, tt_min, tt_max, tt_acp, pI, pII, pO, pA, pIA, pIIA, pOA, pOIA, pL, pLL, pLIA, pV, pCP, lI, lO, lL, nth, stL, clL, entA, fitL, rcv, List.take_succ_cons, List.take_zero, List.drop_succ_cons, List.drop_zero, List.reverse_cons, List.reverse_nil, List.nil_append, List.cons_append, List.length_cons, List.length_nil, Option.toList_some, Option.toList_none, gI_sI, gI_sA, gR_sI, gR_sA, gI_sR, gR_sR, hN_sI, hN_sA, hN_sR, isO_sI, isO_sA, isO_sR, isAr_sI, isAr_sA, isAr_sR, hC_sI, hC_sA, hC_sR, hZ_sI, hZ_sA, hZ_sR, MW_sI, MW_sA, true_and, and_true, true_or, or_true, and_self, forall_const, imp_self, implies_true, if_true, if_false, false_and, and_false, false_or, or_false, not_false_eq_true, not_true_eq_false, sI_sI, mr_tape w2, mr_text w2, mr_words w2, mr_wordSize w2, mr_subs w2, mr_subSize w2, mr_asked w2, mr_pile w2, mr_pileSize w2, mr_opened w2, mr_openedAt w2, mr_begun w2, mr_cells w2, mr_keptCells w2, mr_name w2, mr_isLeft w2, mr_isDone w2, mr_keptLeft w2, mr_keptDone w2, mr_state w2, mr_keptState w2, mr_newOf w2, mr_oldOf w2, mr_spare w2, mr_spareDone w2, mr_out w2, mr_metFrom w2, mr_metBy w2, mr_far w2, mr_low w2, mr_lows w2, mr_lowSize w2, mr_triedRow w2, mr_triedColumn w2, mr_triedValue w2, mr_triedRows w2, mr_sheet w2, ma_tape w2, ma_text w2, ma_words w2, ma_wordSize w2, ma_subs w2, ma_subSize w2, ma_asked w2, ma_pile w2, ma_pileSize w2, ma_opened w2, ma_openedAt w2, ma_begun w2, ma_cells w2, ma_keptCells w2, ma_name w2, ma_isLeft w2, ma_isDone w2, ma_keptLeft w2, ma_keptDone w2, ma_state w2, ma_keptState w2, ma_newOf w2, ma_oldOf w2, ma_spare w2, ma_spareDone w2, ma_out w2, ma_metFrom w2, ma_metBy w2, ma_far w2, ma_low w2, ma_lows w2, ma_lowSize w2, ma_triedRow w2, ma_triedColumn w2, ma_triedValue w2, ma_triedRows w2, ma_sheet w2, ml_tape, ml_text, ml_words, ml_wordSize, ml_subs, ml_subSize, ml_asked, ml_pile, ml_pileSize, ml_opened, ml_openedAt, ml_begun, ml_cells, ml_keptCells, ml_name, ml_isLeft, ml_isDone, ml_keptLeft, ml_keptDone, ml_state, ml_keptState, ml_newOf, ml_oldOf, ml_spare, ml_spareDone, ml_out, ml_metFrom, ml_metBy, ml_far, ml_low, ml_lows, ml_lowSize, ml_triedRow, ml_triedColumn, ml_triedValue, ml_triedRows, ml_sheet, mo_O w2, o2]
    have hr := hp_raw (h := h2)
    rw [e] at hr
    refine ⟨w2, fun q => n107 (hr.mpr ?_), fun q => hP0 y' (fun t => ?_) h2 hF2 X2 e⟩
    · apply Classical.byContradiction
      intro t
      exact q (if_neg t)
    · rw [if_pos (hr.mp t)] at q
      exact absurd q (by decide)
theorem fill_40 {I : Nat → LSt → PH → Prop} {P : TR} {h h1 : PH} {b : Nat} {f : Int} {u : List Int} {L Q : Int} (w : MW h) (hx : FX h b f u L) (hF : Fr h h1) (hX : TX L Q h1) (hk : wkg (atM h1)) (hg : 1 < gap (aE (atM h1)) u (aM (atM h1))) (h35 : gI h1 pMo 35 = (lkp (aE (atM h1)) u (aM (atM h1))).1) (h36 : gI h1 pMo 36 = (lkp (aE (atM h1)) u (aM (atM h1))).2)
    (hI : ∀ h2, Fr h h2 → TX L Q h2 → gI h1 pMo_state 2 < gI h2 pMo_state 2 → filA L (wM h) (uM h) u (atM h2) = filA L (wM h) (uM h) u (atM h1) → I 0 (flS b f u) h2)
    (hP : ∀ h2, Fr h h2 → TX L Q h2 → atM h2 = (filA L (wM h) (uM h) u (atM h1)).1 → P (some (.inl (filA L (wM h) (uM h) u (atM h1)).2)) h2) : B_Mo_fill_40 I P (flS b f u) [] h1 := by
  have w1 := FrP_MW hF w
  obtain ⟨x1, x2, x3, x4, x5, x6⟩ := id hX
  have sr := st_raw x3
  have hr := hp_raw (h := h1)
  obtain ⟨eW, eU, -⟩ := Fr_words hF
  have fe := filA_eq (L := L) (W := wM h) (U := uM h) (u := u) (a := atM h1) (by rw [aS_atM (by decide) (by decide)]; omega)
  rw [if_pos hk, if_pos hg] at fe
  have s2 : ∀ (a : AT) (h2 : PH), atM h2 = nwA u a → gI h2 pMo_state 2 = aS a 2 + 1 := by
    intro a h2 e
    rw [← aS_atM (by decide) (by decide), e]
    rfl
  have n107 : hasP (atM h1) → B_Mo_fill_107 I P (flS b f u) [] h1 := fun q => fill_107 w hx hF hX hk hg q h35 h36 (fun h3 g1 g2 g3 => hI h3 g1 g2 (by have := s2 _ _ g3; rw [aS_atM (by decide) (by decide)] at this; omega) (by rw [g3, fe, if_pos q]))
  unfold flS at n107
  unfold flS
  simp (decide := true) only [B_Mo_fill_0, B_Mo_fill_38, B_Mo_fill_40, B_Mo_fill_65, B_Mo_fill_96, B_Mo_fill_98, B_Mo_fill_126, Ct_Mo_isWorking, Ct_Mo_lookAt, Ct_Mo_hasPlace, Ct_Mo_seeksPlace, Ct_Mo_newAt, tt_ci, tt_cl, tt_nul, tt_il, tt_al, tt_ll, tt_is, tt_as, tt_ls, tt_inc, tt_add, tt_sub, tt_mul, tt_div, tt_rem, tt_ladd, tt_lmul, tt_ldiv, tt_lrem, tt_zeq, tt_zne, tt_zlt, tt_zge, tt_zgt, tt_zle, tt_ceq, tt_cne, tt_clt, tt_cge, tt_cgt, tt_cle, tt_nn, tt_cut, tt_pop, tt_dup, tt_dup2, tt_gI, tt_gR, tt_pI, tt_pZ, tt_pR, tt_ia, tt_ba, tt_za, tt_iS, tt_bS, tt_zS, tt_aa, tt_aS, tt_len, tt_and, tt_xor, tt_shr, tt_ushr, tt_lcmp, tt_i2b, tt_i2l, tt_l2i, tt_sw, swG, tt_ir, tt_zr, tt_br, tt_lr, tt_ar, tt_vr, tt_cV, tt_cS, tt_min, tt_max, tt_acp, pI, pII, pO, pA, pIA, pIIA, pOA, pOIA, pL, pLL, pLIA, pV, pCP, lI, lO, lL, nth, stL, clL, entA, fitL, rcv, List.take_succ_cons, List.take_zero, List.drop_succ_cons, List.drop_zero, List.reverse_cons, List.reverse_nil, List.nil_append, List.cons_append, List.length_cons, List.length_nil, Option.toList_some, Option.toList_none, gI_sI, gI_sA, gR_sI, gR_sA, gI_sR, gR_sR, hN_sI, hN_sA, hN_sR, isO_sI, isO_sA, isO_sR, isAr_sI, isAr_sA, isAr_sR, hC_sI, hC_sA, hC_sR, hZ_sI, hZ_sA, hZ_sR, MW_sI, MW_sA, true_and, and_true, true_or, or_true, and_self, forall_const, imp_self, implies_true, if_true, if_false, false_and, and_false, false_or, or_false, not_false_eq_true, not_true_eq_false, sI_sI, mr_tape w1, mr_text w1, mr_words w1, mr_wordSize w1, mr_subs w1, mr_subSize w1, mr_asked w1, mr_pile w1, mr_pileSize w1, mr_opened w1, mr_openedAt w1, mr_begun w1, mr_cells w1, mr_keptCells w1, mr_name w1, mr_isLeft w1, mr_isDone w1, mr_keptLeft w1, mr_keptDone w1, mr_state w1, mr_keptState w1, mr_newOf w1, mr_oldOf w1, mr_spare w1, mr_spareDone w1, mr_out w1, mr_metFrom w1, mr_metBy w1, mr_far w1, mr_low w1, mr_lows w1, mr_lowSize w1, mr_triedRow w1, mr_triedColumn w1, mr_triedValue w1, mr_triedRows w1, mr_sheet w1, ma_tape w1, ma_text w1, ma_words w1, ma_wordSize w1, ma_subs w1, ma_subSize w1, ma_asked w1, ma_pile w1, ma_pileSize w1, ma_opened w1, ma_openedAt w1, ma_begun w1, ma_cells w1, ma_keptCells w1, ma_name w1, ma_isLeft w1, ma_isDone w1, ma_keptLeft w1, ma_keptDone w1, ma_state w1, ma_keptState w1, ma_newOf w1, ma_oldOf w1, ma_spare w1, ma_spareDone w1, ma_out w1, ma_metFrom w1, ma_metBy w1, ma_far w1, ma_low w1, ma_lows w1, ma_lowSize w1, ma_triedRow w1, ma_triedColumn w1, ma_triedValue w1, ma_triedRows w1, ma_sheet w1, ml_tape, ml_text, ml_words, ml_wordSize, ml_subs, ml_subSize, ml_asked, ml_pile, ml_pileSize, ml_opened, ml_openedAt, ml_begun, ml_cells, ml_keptCells, ml_name, ml_isLeft, ml_isDone, ml_keptLeft, ml_keptDone, ml_state, ml_keptState, ml_newOf, ml_oldOf, ml_spare, ml_spareDone, ml_out, ml_metFrom, ml_metBy, ml_far, ml_low, ml_lows, ml_lowSize, ml_triedRow, ml_triedColumn, ml_triedValue, ml_triedRows, ml_sheet, mo_O w1]
  refine ⟨w1, fun q => n107 (hr.mpr ?_), fun q => ?_⟩
  · apply Classical.byContradiction
    intro t
    exact q (if_neg t)
  · have nq : ¬ hasP (atM h1) := fun t => by
      rw [if_pos (hr.mp t)] at q
      exact absurd q (by decide)
    rw [if_neg nq, aS_atM (by decide) (by decide)] at fe
    refine ⟨w1, L, Q, hX, fun q8 => ?_, fun q8 h2 g1 g2 X2 => ?_⟩
    · rw [if_pos q8] at fe
      have := hP h1 hF hX (by rw [fe])
      rw [fe] at this
      exact ⟨fun z => z.elim, this⟩
    · rw [if_neg (fun z => z q8)] at fe
      have w2 := FrP_MW g1 w1
      have o2 : isO h2 pMo 9 := mo_O w2
      have hF2 := FrP_trans hF g1
      have sr2 := st_raw X2.2.2.1
      have wr2 := wk_raw X2.2.2.1
      rw [eW, eU] at g2
      rw [← g2] at fe
      have S2 : aS (atM h2) 2 = gI h1 pMo_state 2 := by rw [g2, aS_seekA (by decide) (by decide) (by decide) (by decide) (by decide), aS_atM (by decide) (by decide)]
      have n65 : wkg (atM h2) → B_Mo_fill_65 I P (flS b f u) [] h2 := by
        intro k2
        rw [if_pos k2] at fe
        refine fill_65 w hx hF2 X2 k2 (fun y q h3 e1 e2 e3 => ?_) (fun y q h3 e1 e2 e3 => ?_) (fun y h3 e1 e2 e3 => ?_)
        · rw [if_pos y, if_pos q] at fe
          exact hI h3 e1 e2 (by have := s2 _ _ e3; omega) (by rw [e3, fe])
        · rw [if_pos y, if_neg q] at fe
          have := hP h3 e1 e2 (by rw [fe, e3])
          rw [fe] at this
          exact this
        · rw [if_neg y] at fe
          have := hP h3 e1 e2 (by rw [fe, e3])
          rw [fe] at this
          exact this
      unfold flS at n65
      simp (decide := true) only [B_Mo_fill_0, B_Mo_fill_38, B_Mo_fill_40, B_Mo_fill_56, B_Mo_fill_96, B_Mo_fill_98, B_Mo_fill_107, B_Mo_fill_126, Ct_Mo_isWorking, Ct_Mo_lookAt, Ct_Mo_hasPlace, Ct_Mo_seeksPlace, Ct_Mo_newAt, tt_ci, tt_cl, tt_nul, tt_il, tt_al, tt_ll, tt_is, tt_as, tt_ls, tt_inc, tt_add, tt_sub, tt_mul, tt_div, tt_rem, tt_ladd, tt_lmul, tt_ldiv, tt_lrem, tt_zeq, tt_zne, tt_zlt, tt_zge, tt_zgt, tt_zle, tt_ceq, tt_cne, tt_clt, tt_cge, tt_cgt, tt_cle, tt_nn, tt_cut, tt_pop, tt_dup, tt_dup2, tt_gI, tt_gR, tt_pI, tt_pZ, tt_pR, tt_ia, tt_ba, tt_za, tt_iS, tt_bS, tt_zS, tt_aa, tt_aS, tt_len, tt_and, tt_xor, tt_shr, tt_ushr, tt_lcmp, tt_i2b, tt_i2l, tt_l2i, tt_sw, swG, tt_ir, tt_zr, tt_br, tt_lr, tt_ar, tt_vr, tt_cV, tt_cS, tt_min, tt_max, tt_acp, pI, pII, pO, pA, pIA, pIIA, pOA, pOIA, pL, pLL, pLIA, pV, pCP, lI, lO, lL, nth, stL, clL, entA, fitL, rcv, List.take_succ_cons, List.take_zero, List.drop_succ_cons, List.drop_zero, List.reverse_cons, List.reverse_nil, List.nil_append, List.cons_append, List.length_cons, List.length_nil, Option.toList_some, Option.toList_none, gI_sI, gI_sA, gR_sI, gR_sA, gI_sR, gR_sR, hN_sI, hN_sA, hN_sR, isO_sI, isO_sA, isO_sR, isAr_sI, isAr_sA, isAr_sR, hC_sI, hC_sA, hC_sR, hZ_sI, hZ_sA, hZ_sR, MW_sI, MW_sA, true_and, and_true, true_or, or_true, and_self, forall_const, imp_self, implies_true, if_true, if_false, false_and, and_false, false_or, or_false, not_false_eq_true, not_true_eq_false, sI_sI, mr_tape w2, mr_text w2, mr_words w2, mr_wordSize w2, mr_subs w2, mr_subSize w2, mr_asked w2, mr_pile w2, mr_pileSize w2, mr_opened w2, mr_openedAt w2, mr_begun w2, mr_cells w2, mr_keptCells w2, mr_name w2, mr_isLeft w2, mr_isDone w2, mr_keptLeft w2, mr_keptDone w2, mr_state w2, mr_keptState w2, mr_newOf w2, mr_oldOf w2, mr_spare w2, mr_spareDone w2, mr_out w2, mr_metFrom w2, mr_metBy w2, mr_far w2, mr_low w2, mr_lows w2, mr_lowSize w2, mr_triedRow w2, mr_triedColumn w2, mr_triedValue w2, mr_triedRows w2, mr_sheet w2, ma_tape w2, ma_text w2, ma_words w2, ma_wordSize w2, ma_subs w2, ma_subSize w2, ma_asked w2, ma_pile w2, ma_pileSize w2, ma_opened w2, ma_openedAt w2, ma_begun w2, ma_cells w2, ma_keptCells w2, ma_name w2, ma_isLeft w2, ma_isDone w2, ma_keptLeft w2, ma_keptDone w2, ma_state w2, ma_keptState w2, ma_newOf w2, ma_oldOf w2, ma_spare w2, ma_spareDone w2, ma_out w2, ma_metFrom w2, ma_metBy w2, ma_far w2, ma_low w2, ma_lows w2, ma_lowSize w2, ma_triedRow w2, ma_triedColumn w2, ma_triedValue w2, ma_triedRows w2, ma_sheet w2, ml_tape, ml_text, ml_words, ml_wordSize, ml_subs, ml_subSize, ml_asked, ml_pile, ml_pileSize, ml_opened, ml_openedAt, ml_begun, ml_cells, ml_keptCells, ml_name, ml_isLeft, ml_isDone, ml_keptLeft, ml_keptDone, ml_state, ml_keptState, ml_newOf, ml_oldOf, ml_spare, ml_spareDone, ml_out, ml_metFrom, ml_metBy, ml_far, ml_low, ml_lows, ml_lowSize, ml_triedRow, ml_triedColumn, ml_triedValue, ml_triedRows, ml_sheet, mo_O w2, o2]
      refine ⟨⟨w2, by omega, fun z => n65 (wr2.mpr ?_), fun z => ?_⟩, fun z => z.elim⟩
      · apply Classical.byContradiction
        intro t
        exact z (if_neg t)
      · rw [if_neg (fun t => by rw [if_pos (wr2.mp t)] at z; exact absurd z (by decide))] at fe
        have := hP h2 hF2 X2 (by rw [fe])
        rw [fe] at this
        exact this
theorem met_Mo_fill : MetP y_Mo_fill md_Mo_fill (fun _ => 0) (fun _ => 0) Ct_Mo_fill := by
  refine metL1 (body := tt_cut 0) (B1 := B_Mo_fill_0) (by decide) rfl rfl (fun lc lz => snd_cut) (fun lc lz => S_Mo_fill_0 lc lz) ?_
  intro av h post hc hH hav
  unfold Ct_Mo_fill at hc
  split at hc
  rotate_left
  · exact hc.elim
  rename_i t b f n
  obtain ⟨rfl, w, u, L, Q, hx, hX, rfl, hp⟩ := hc
  refine ⟨Nat.le_of_ble_eq_true rfl, ?_⟩
  obtain ⟨mu, hmu⟩ : ∃ mu : Nat → LSt → PH → Nat, mu = fun _ _ h' => (2001 - gI h' pMo_state 2).toNat := ⟨_, rfl⟩
  refine ⟨fun ls h' => ls = flS b f u ∧ Fr h h' ∧ TX L Q h' ∧ filA L (wM h) (uM h) u (atM h') = filA L (wM h) (uM h) u (atM h), mu, ?_, ?_⟩
  · rintro ls h1 ⟨rfl, hF, hX1, he⟩
    have w1 := FrP_MW hF w
    obtain ⟨b1, b2, b3, b4, b5, b6⟩ := id hx
    have hb1 : isAr h1 b 0 := wAr_isAr w1 b1
    have eb : gI h1 b = gI h b := FrP_arr hF (wAr_Tb b1)
    obtain ⟨x1, x2, x3, x4, x5, x6⟩ := id hX1
    have sr := st_raw x3
    have wr := wk_raw x3
    have fe := filA_eq (L := L) (W := wM h) (U := uM h) (u := u) (a := atM h1) (by rw [aS_atM (by decide) (by decide)]; omega)
    have hlt : ∀ h2, gI h1 pMo_state 2 < gI h2 pMo_state 2 → mu 0 (flS b f u) h2 < mu 0 (flS b f u) h1 := by
      intro h2 z
      rw [hmu]
      show (2001 - gI h2 pMo_state 2).toNat < (2001 - gI h1 pMo_state 2).toNat
      omega
    have hP : ∀ h2, Fr h h2 → TX L Q h2 → atM h2 = (filA L (wM h) (uM h) u (atM h1)).1 → ∀ v, v = (filA L (wM h) (uM h) u (atM h1)).2 → post (some (.inl v)) h2 ∧ hC h2 = hC h ∧ hZ h2 = hZ h := by
      intro h2 g1 g2 g3 v g4
      rw [he] at g3 g4
      rw [g4]
      exact ⟨hp h2 g1 g3 g2, g1.2.2.2.1, g1.2.2.2.2⟩
    obtain ⟨R, hR⟩ : ∃ R, R = filA L (wM h) (uM h) u (atM h1) := ⟨_, rfl⟩
    have n40 : ∀ I : Nat → LSt → PH → Prop, (∀ h2, (Fr h h2 ∧ TX L Q h2 ∧ filA L (wM h) (uM h) u (atM h2) = filA L (wM h) (uM h) u (atM h)) ∧ mu 0 (flS b f u) h2 < mu 0 (flS b f u) h1 → I 0 (flS b f u) h2) → ∀ h2, Fr h h2 → TX L Q h2 → atM h2 = atM h1 → wkg (atM h2) → 1 < gap (aE (atM h2)) u (aM (atM h2)) → gI h2 pMo 35 = (lkp (aE (atM h2)) u (aM (atM h2))).1 → gI h2 pMo 36 = (lkp (aE (atM h2)) u (aM (atM h2))).2 → B_Mo_fill_40 I (fun r h'' => post r h'' ∧ hC h'' = hC h ∧ hZ h'' = hZ h) (flS b f u) [] h2 := by
      intro I hI h2 g1 g2 g3 g4 g5 g6 g7
      refine fill_40 w hx g1 g2 g4 g5 g6 g7 (fun h3 e1 e2 e3 e4 => hI h3 ⟨⟨e1, e2, by rw [e4, g3, he]⟩, hlt h3 ?_⟩) (fun h3 e1 e2 e3 => hP h3 e1 e2 (by rw [← g3]; exact e3) _ (by rw [← g3]))
      have : gI h2 pMo_state 2 = gI h1 pMo_state 2 := by rw [← aS_atM (h := h2) (by decide) (by decide), g3, aS_atM (by decide) (by decide)]
      omega
    unfold flS at n40 ⊢
    simp (decide := true) only [B_Mo_fill_0, B_Mo_fill_38, B_Mo_fill_56, B_Mo_fill_65, B_Mo_fill_96, B_Mo_fill_98, B_Mo_fill_107, B_Mo_fill_126, Ct_Mo_isWorking, Ct_Mo_lookAt, Ct_Mo_hasPlace, Ct_Mo_seeksPlace, Ct_Mo_newAt, tt_ci, tt_cl, tt_nul, tt_il, tt_al, tt_ll, tt_is, tt_as, tt_ls, tt_inc, tt_add, tt_sub, tt_mul, tt_div, tt_rem, tt_ladd, tt_lmul, tt_ldiv, tt_lrem, tt_zeq, tt_zne, tt_zlt, tt_zge, tt_zgt, tt_zle, tt_ceq, tt_cne, tt_clt, tt_cge, tt_cgt, tt_cle, tt_nn, tt_cut, tt_pop, tt_dup, tt_dup2, tt_gI, tt_gR, tt_pI, tt_pZ, tt_pR, tt_ia, tt_ba, tt_za, tt_iS, tt_bS, tt_zS, tt_aa, tt_aS, tt_len, tt_and, tt_xor, tt_shr, tt_ushr, tt_lcmp, tt_i2b, tt_i2l, tt_l2i, tt_sw, swG, tt_ir, tt_zr, tt_br, tt_lr, tt_ar, tt_vr, tt_cV, tt_cS, tt_min, tt_max, tt_acp, pI, pII, pO, pA, pIA, pIIA, pOA, pOIA, pL, pLL, pLIA, pV, pCP, lI, lO, lL, nth, stL, clL, entA, fitL, rcv, List.take_succ_cons, List.take_zero, List.drop_succ_cons, List.drop_zero, List.reverse_cons, List.reverse_nil, List.nil_append, List.cons_append, List.length_cons, List.length_nil, Option.toList_some, Option.toList_none, gI_sI, gI_sA, gR_sI, gR_sA, gI_sR, gR_sR, hN_sI, hN_sA, hN_sR, isO_sI, isO_sA, isO_sR, isAr_sI, isAr_sA, isAr_sR, hC_sI, hC_sA, hC_sR, hZ_sI, hZ_sA, hZ_sR, MW_sI, MW_sA, true_and, and_true, true_or, or_true, and_self, forall_const, imp_self, implies_true, if_true, if_false, false_and, and_false, false_or, or_false, not_false_eq_true, not_true_eq_false, sI_sI, mr_tape w1, mr_text w1, mr_words w1, mr_wordSize w1, mr_subs w1, mr_subSize w1, mr_asked w1, mr_pile w1, mr_pileSize w1, mr_opened w1, mr_openedAt w1, mr_begun w1, mr_cells w1, mr_keptCells w1, mr_name w1, mr_isLeft w1, mr_isDone w1, mr_keptLeft w1, mr_keptDone w1, mr_state w1, mr_keptState w1, mr_newOf w1, mr_oldOf w1, mr_spare w1, mr_spareDone w1, mr_out w1, mr_metFrom w1, mr_metBy w1, mr_far w1, mr_low w1, mr_lows w1, mr_lowSize w1, mr_triedRow w1, mr_triedColumn w1, mr_triedValue w1, mr_triedRows w1, mr_sheet w1, ma_tape w1, ma_text w1, ma_words w1, ma_wordSize w1, ma_subs w1, ma_subSize w1, ma_asked w1, ma_pile w1, ma_pileSize w1, ma_opened w1, ma_openedAt w1, ma_begun w1, ma_cells w1, ma_keptCells w1, ma_name w1, ma_isLeft w1, ma_isDone w1, ma_keptLeft w1, ma_keptDone w1, ma_state w1, ma_keptState w1, ma_newOf w1, ma_oldOf w1, ma_spare w1, ma_spareDone w1, ma_out w1, ma_metFrom w1, ma_metBy w1, ma_far w1, ma_low w1, ma_lows w1, ma_lowSize w1, ma_triedRow w1, ma_triedColumn w1, ma_triedValue w1, ma_triedRows w1, ma_sheet w1, ml_tape, ml_text, ml_words, ml_wordSize, ml_subs, ml_subSize, ml_asked, ml_pile, ml_pileSize, ml_opened, ml_openedAt, ml_begun, ml_cells, ml_keptCells, ml_name, ml_isLeft, ml_isDone, ml_keptLeft, ml_keptDone, ml_state, ml_keptState, ml_newOf, ml_oldOf, ml_spare, ml_spareDone, ml_out, ml_metFrom, ml_metBy, ml_far, ml_low, ml_lows, ml_lowSize, ml_triedRow, ml_triedColumn, ml_triedValue, ml_triedRows, ml_sheet, mo_O w1, hb1, eb]
    refine ⟨w1, by omega, fun z => ?_, fun z => ?_⟩
    · have nk : ¬ wkg (atM h1) := fun t => by rw [if_pos (wr.mp t)] at z; exact absurd z (by decide)
      rw [if_neg nk] at fe
      exact hP h1 hF hX1 (by rw [fe]) _ (by rw [fe])
    · have hk : wkg (atM h1) := wr.mpr (by
        apply Classical.byContradiction
        intro t
        exact z (if_neg t))
      rw [if_pos hk] at fe
      refine ⟨w1, b1, u, L, Q, x1, x2, x3, x4, hk.2, rfl, b2, b3, b4, b5, b6, fun h2 f1 f2 f3 f4 f5 f6 f7 f8 f9 f10 => ?_⟩
      have look := look_spec (L := L) (by omega) x3.1 hk.2 b6
      have w2 := FrP_MW f1 w1
      have o2 : isO h2 pMo 9 := mo_O w2
      have hF2 := FrP_trans hF f1
      have X2 := TX_Fr hX1 f1 f3 (f10 x6)
      have sr2 := st_raw f3
      have wr2 := wk_raw f3
      have hg : gap (aE (atM h1)) u (aM (atM h1)) = u.length - (lkp (aE (atM h1)) u (aM (atM h1))).2 - (lkq (aE (atM h1)) u (aM (atM h1))).2 := rfl
      have l7 := look.2.2.2.2.2.2.1
      have f5' : gI h2 pMo 35 = (lkp (aE (atM h1)) u (aM (atM h1))).1 := f5
      have f6' : gI h2 pMo 36 = (lkp (aE (atM h1)) u (aM (atM h1))).2 := f6
      have f7' : gI h2 pMo 38 = u.length - (lkq (aE (atM h1)) u (aM (atM h1))).2 := f7
      have same : 1 < gap (aE (atM h1)) u (aM (atM h1)) → atM h2 = atM h1 := fun z => f2.trans (lookA_two z)
      simp (decide := true) only [B_Mo_fill_0, B_Mo_fill_38, B_Mo_fill_56, B_Mo_fill_65, B_Mo_fill_96, B_Mo_fill_98, B_Mo_fill_107, B_Mo_fill_126, Ct_Mo_isWorking, Ct_Mo_lookAt, Ct_Mo_hasPlace, Ct_Mo_seeksPlace, Ct_Mo_newAt, tt_ci, tt_cl, tt_nul, tt_il, tt_al, tt_ll, tt_is, tt_as, tt_ls, tt_inc, tt_add, tt_sub, tt_mul, tt_div, tt_rem, tt_ladd, tt_lmul, tt_ldiv, tt_lrem, tt_zeq, tt_zne, tt_zlt, tt_zge, tt_zgt, tt_zle, tt_ceq, tt_cne, tt_clt, tt_cge, tt_cgt, tt_cle, tt_nn, tt_cut, tt_pop, tt_dup, tt_dup2, tt_gI, tt_gR, tt_pI, tt_pZ, tt_pR, tt_ia, tt_ba, tt_za, tt_iS, tt_bS, tt_zS, tt_aa, tt_aS, tt_len, tt_and, tt_xor, tt_shr, tt_ushr, tt_lcmp, tt_i2b, tt_i2l, tt_l2i, tt_sw, swG, tt_ir, tt_zr, tt_br, tt_lr, tt_ar, tt_vr, tt_cV, tt_cS, tt_min, tt_max, tt_acp, pI, pII, pO, pA, pIA, pIIA, pOA, pOIA, pL, pLL, pLIA, pV, pCP, lI, lO, lL, nth, stL, clL, entA, fitL, rcv, List.take_succ_cons, List.take_zero, List.drop_succ_cons, List.drop_zero, List.reverse_cons, List.reverse_nil, List.nil_append, List.cons_append, List.length_cons, List.length_nil, Option.toList_some, Option.toList_none, gI_sI, gI_sA, gR_sI, gR_sA, gI_sR, gR_sR, hN_sI, hN_sA, hN_sR, isO_sI, isO_sA, isO_sR, isAr_sI, isAr_sA, isAr_sR, hC_sI, hC_sA, hC_sR, hZ_sI, hZ_sA, hZ_sR, MW_sI, MW_sA, true_and, and_true, true_or, or_true, and_self, forall_const, imp_self, implies_true, if_true, if_false, false_and, and_false, false_or, or_false, not_false_eq_true, not_true_eq_false, sI_sI, mr_tape w2, mr_text w2, mr_words w2, mr_wordSize w2, mr_subs w2, mr_subSize w2, mr_asked w2, mr_pile w2, mr_pileSize w2, mr_opened w2, mr_openedAt w2, mr_begun w2, mr_cells w2, mr_keptCells w2, mr_name w2, mr_isLeft w2, mr_isDone w2, mr_keptLeft w2, mr_keptDone w2, mr_state w2, mr_keptState w2, mr_newOf w2, mr_oldOf w2, mr_spare w2, mr_spareDone w2, mr_out w2, mr_metFrom w2, mr_metBy w2, mr_far w2, mr_low w2, mr_lows w2, mr_lowSize w2, mr_triedRow w2, mr_triedColumn w2, mr_triedValue w2, mr_triedRows w2, mr_sheet w2, ma_tape w2, ma_text w2, ma_words w2, ma_wordSize w2, ma_subs w2, ma_subSize w2, ma_asked w2, ma_pile w2, ma_pileSize w2, ma_opened w2, ma_openedAt w2, ma_begun w2, ma_cells w2, ma_keptCells w2, ma_name w2, ma_isLeft w2, ma_isDone w2, ma_keptLeft w2, ma_keptDone w2, ma_state w2, ma_keptState w2, ma_newOf w2, ma_oldOf w2, ma_spare w2, ma_spareDone w2, ma_out w2, ma_metFrom w2, ma_metBy w2, ma_far w2, ma_low w2, ma_lows w2, ma_lowSize w2, ma_triedRow w2, ma_triedColumn w2, ma_triedValue w2, ma_triedRows w2, ma_sheet w2, ml_tape, ml_text, ml_words, ml_wordSize, ml_subs, ml_subSize, ml_asked, ml_pile, ml_pileSize, ml_opened, ml_openedAt, ml_begun, ml_cells, ml_keptCells, ml_name, ml_isLeft, ml_isDone, ml_keptLeft, ml_keptDone, ml_state, ml_keptState, ml_newOf, ml_oldOf, ml_spare, ml_spareDone, ml_out, ml_metFrom, ml_metBy, ml_far, ml_low, ml_lows, ml_lowSize, ml_triedRow, ml_triedColumn, ml_triedValue, ml_triedRows, ml_sheet, mo_O w2, o2, f6', f7']
      have out : ¬ 1 < gap (aE (atM h1)) u (aM (atM h1)) → post (some (.inl 1)) h2 ∧ hC h2 = hC h ∧ hZ h2 = hZ h := by
        intro y
        rw [if_neg y] at fe
        exact hP h2 hF2 X2 (by rw [fe]; exact f2) _ (by rw [fe])
      refine ⟨w2, by omega, fun z => out (fun y => ?_), fun z => ⟨⟨by omega, by omega⟩, fun y => ?_, fun y => out (by omega)⟩⟩
      · have := same y
        rw [← this] at hk
        rw [if_pos (wr2.mp hk)] at z
        exact absurd z (by decide)
      · have y' : 1 < gap (aE (atM h1)) u (aM (atM h1)) := by omega
        have e := same y'
        exact n40 _ (fun h3 q => ⟨rfl, ⟨rfl, q.1⟩, q.2⟩) h2 hF2 X2 e (by rw [e]; exact hk) (by rw [e]; exact y') (by rw [e]; exact f5') (by rw [e]; exact f6')
  · simp (decide := true) only [B_Mo_fill_0, B_Mo_fill_38, B_Mo_fill_40, B_Mo_fill_56, B_Mo_fill_65, B_Mo_fill_96, B_Mo_fill_98, B_Mo_fill_107, B_Mo_fill_126, Ct_Mo_isWorking, Ct_Mo_lookAt, Ct_Mo_hasPlace, Ct_Mo_seeksPlace, Ct_Mo_newAt, tt_ci, tt_cl, tt_nul, tt_il, tt_al, tt_ll, tt_is, tt_as, tt_ls, tt_inc, tt_add, tt_sub, tt_mul, tt_div, tt_rem, tt_ladd, tt_lmul, tt_ldiv, tt_lrem, tt_zeq, tt_zne, tt_zlt, tt_zge, tt_zgt, tt_zle, tt_ceq, tt_cne, tt_clt, tt_cge, tt_cgt, tt_cle, tt_nn, tt_cut, tt_pop, tt_dup, tt_dup2, tt_gI, tt_gR, tt_pI, tt_pZ, tt_pR, tt_ia, tt_ba, tt_za, tt_iS, tt_bS, tt_zS, tt_aa, tt_aS, tt_len, tt_and, tt_xor, tt_shr, tt_ushr, tt_lcmp, tt_i2b, tt_i2l, tt_l2i, tt_sw, swG, tt_ir, tt_zr, tt_br, tt_lr, tt_ar, tt_vr, tt_cV, tt_cS, tt_min, tt_max, tt_acp, pI, pII, pO, pA, pIA, pIIA, pOA, pOIA, pL, pLL, pLIA, pV, pCP, lI, lO, lL, nth, stL, clL, entA, fitL, rcv, List.take_succ_cons, List.take_zero, List.drop_succ_cons, List.drop_zero, List.reverse_cons, List.reverse_nil, List.nil_append, List.cons_append, List.length_cons, List.length_nil, Option.toList_some, Option.toList_none, gI_sI, gI_sA, gR_sI, gR_sA, gI_sR, gR_sR, hN_sI, hN_sA, hN_sR, isO_sI, isO_sA, isO_sR, isAr_sI, isAr_sA, isAr_sR, hC_sI, hC_sA, hC_sR, hZ_sI, hZ_sA, hZ_sR, MW_sI, MW_sA, true_and, and_true, true_or, or_true, and_self, forall_const, imp_self, implies_true, if_true, if_false, false_and, and_false, false_or, or_false, not_false_eq_true, not_true_eq_false, sI_sI, mr_tape w, mr_text w, mr_words w, mr_wordSize w, mr_subs w, mr_subSize w, mr_asked w, mr_pile w, mr_pileSize w, mr_opened w, mr_openedAt w, mr_begun w, mr_cells w, mr_keptCells w, mr_name w, mr_isLeft w, mr_isDone w, mr_keptLeft w, mr_keptDone w, mr_state w, mr_keptState w, mr_newOf w, mr_oldOf w, mr_spare w, mr_spareDone w, mr_out w, mr_metFrom w, mr_metBy w, mr_far w, mr_low w, mr_lows w, mr_lowSize w, mr_triedRow w, mr_triedColumn w, mr_triedValue w, mr_triedRows w, mr_sheet w, ma_tape w, ma_text w, ma_words w, ma_wordSize w, ma_subs w, ma_subSize w, ma_asked w, ma_pile w, ma_pileSize w, ma_opened w, ma_openedAt w, ma_begun w, ma_cells w, ma_keptCells w, ma_name w, ma_isLeft w, ma_isDone w, ma_keptLeft w, ma_keptDone w, ma_state w, ma_keptState w, ma_newOf w, ma_oldOf w, ma_spare w, ma_spareDone w, ma_out w, ma_metFrom w, ma_metBy w, ma_far w, ma_low w, ma_lows w, ma_lowSize w, ma_triedRow w, ma_triedColumn w, ma_triedValue w, ma_triedRows w, ma_sheet w, ml_tape, ml_text, ml_words, ml_wordSize, ml_subs, ml_subSize, ml_asked, ml_pile, ml_pileSize, ml_opened, ml_openedAt, ml_begun, ml_cells, ml_keptCells, ml_name, ml_isLeft, ml_isDone, ml_keptLeft, ml_keptDone, ml_state, ml_keptState, ml_newOf, ml_oldOf, ml_spare, ml_spareDone, ml_out, ml_metFrom, ml_metBy, ml_far, ml_low, ml_lows, ml_lowSize, ml_triedRow, ml_triedColumn, ml_triedValue, ml_triedRows, ml_sheet, mo_O w]
    exact ⟨rfl, FrP_refl _ h, hX⟩
