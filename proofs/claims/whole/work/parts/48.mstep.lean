/-! THE MODEL'S STEP -/
theorem wdsM_drop {g s : Int → Int} {n : Int} {i : Nat} (h : (i : Int) < n) : (wdsM g s n).drop i = seg g (40 * (i : Int)) (s i).toNat :: (wdsM g s n).drop (i + 1) := by
  have hl : i < (wdsM g s n).length := by unfold wdsM; rw [List.length_map, List.length_range]; omega
  rw [List.drop_eq_getElem_cons hl]
  congr 1
  simp [wdsM]
theorem wdsM_len {g s : Int → Int} {n : Int} : (wdsM g s n).length = n.toNat := by unfold wdsM; rw [List.length_map, List.length_range]
theorem FX_sub {L Q : Int} {h h1 : PH} (hX : TX L Q h) (hF : Fr h h1) {i : Nat} (hi : (i : Int) < gI h pMo 15) : FX h1 pMo_subs (40 * i) (subK h i) L ∧ ((subK h i).length : Int) = gI h pMo_subSize i := by
  have hD := hX.2.2.2.2.1
  have hs := hD.2.2.1.2 i (by omega) hi
  have h15 := hD.2.2.2
  have hok := OKw_mem hD.2.2.1 _ (subK_mem (h := h) (i := i) hi)
  have hlen : (subK h i).length = (gI h pMo_subSize i).toNat := seg_len
  obtain ⟨z1, z2, z3, z4⟩ := Fr_size hF
  exact ⟨⟨Or.inr rfl, hok.1, by omega, by rw [ml_subs]; omega, fun k hk => by rw [z4]; exact seg_wf (by rw [hlen] at hk; exact hk), hok.2⟩, by omega⟩
theorem FX_wrd {L Q : Int} {h h1 : PH} (hX : TX L Q h) (hF : Fr h h1) {i : Nat} (hi : (i : Int) < gI h pMo 14) : FX h1 pMo_words (40 * i) (wrdK h i) L ∧ ((wrdK h i).length : Int) = gI h pMo_wordSize i := by
  have hD := hX.2.2.2.2.1
  have hs := hD.1.2 i (by omega) hi
  have h14 := hD.2.1
  have hok := OKw_mem hD.1 _ (wrdK_mem (h := h) (i := i) hi)
  have hlen : (wrdK h i).length = (gI h pMo_wordSize i).toNat := seg_len
  obtain ⟨z1, z2, z3, z4⟩ := Fr_size hF
  exact ⟨⟨Or.inl rfl, hok.1, by omega, by rw [ml_words]; omega, fun k hk => by rw [z3]; exact seg_wf (by rw [hlen] at hk; exact hk), hok.2⟩, by omega⟩
theorem atM_mine {h : PH} {m : Int} : atM (sI h pMo 39 m) = setM (atM h) m := by
  have e : ∀ b, b ≠ pMo → gI (sI h pMo 39 m) b = gI h b := by
    intro b hb
    funext k
    rw [gI_sI, if_neg (fun z => hb z.1)]
  unfold atM
  rw [e pMo_state (by decide), e pMo_isLeft (by decide), e pMo_isDone (by decide), e pMo_cells (by decide), gI_sI, if_pos ⟨rfl, rfl⟩]
  rfl
theorem mine_Fr {h h' : PH} {m : Int} (f : Fr h h') : Fr h (sI h' pMo 39 m) := FrP_sI (Or.inr (Or.inr (Or.inr (Or.inr (Or.inr ⟨rfl, by omega, by omega⟩))))) f
theorem mine_TX {L Q : Int} {h : PH} {m : Int} (hX : TX L Q h) (h0 : -1 ≤ m) (h1 : m < gI h pMo_state 0) : TX L Q (sI h pMo 39 m) := by
  refine TX_Fr hX (mine_Fr (FrP_refl _ h)) ?_ (BB_sI (by decide) (by decide) hX.2.2.2.2.2)
  rw [atM_mine]
  exact WT_setM hX.2.2.1 h0 (by rw [aS_atM (by decide) (by decide)]; exact h1)
def Ct_Mo_fillSubs : CtT := fun av h post => match av with
  | [.inr (.inl (some t))] => t = pMo ∧ MW h ∧ ∃ (L Q : Int), TX L Q h ∧ ∀ h', Fr h h' → atM h' = (fsA L (wM h) (uM h) (uM h) (atM h)).1 → TX L Q h' → post (some (.inl (fsA L (wM h) (uM h) (uM h) (atM h)).2)) h'
  | _ => False
def B_Mo_fillSubs_44 : TT := (tt_ci 1 tt_zr)
theorem S_Mo_fillSubs_44 (lc lz : Nat) : Snd md_Mo_fillSubs lc lz 44 (B_Mo_fillSubs_44) := (snd_iconst (n := 1) (dget dd_Mo_fillSubs 25 rfl) (inR_d rfl) rfl (snd_zr (dget dd_Mo_fillSubs 26 rfl) rfl))
def B_Mo_fillSubs_38 : TT := (tt_inc 1 1 (tt_cut 2))
theorem S_Mo_fillSubs_38 (lc lz : Nat) : Snd md_Mo_fillSubs lc lz 38 (B_Mo_fillSubs_38) := (snd_inc (dget dd_Mo_fillSubs 23 rfl) (snd_goto (tg := 2) (dget dd_Mo_fillSubs 24 rfl) rfl snd_cut))
def B_Mo_fillSubs_2 : TT := (tt_il 1 (tt_al 0 (tt_gI 9 15 (tt_cge (B_Mo_fillSubs_44) (tt_al 0 (tt_ci 0 (tt_pI 9 39 (tt_al 0 (tt_al 0 (tt_gR 9 11 (tt_ci 40 (tt_il 1 (tt_mul (tt_al 0 (tt_gR 9 12 (tt_il 1 (tt_ia (tt_cV 9 4 Ct_Mo_fill (tt_zne (B_Mo_fillSubs_38) (tt_ci 0 tt_zr))))))))))))))))))))
theorem S_Mo_fillSubs_2 (lc lz : Nat) : Snd md_Mo_fillSubs lc lz 2 (B_Mo_fillSubs_2) := (snd_il_n (n := 1) (dget dd_Mo_fillSubs 2 rfl) rfl (snd_al_n (n := 0) (dget dd_Mo_fillSubs 3 rfl) rfl (snd_gI (kn := 15) fd_Mo_146 rfl (dget dd_Mo_fillSubs 4 rfl) (snd_cge (tg := 44) (dget dd_Mo_fillSubs 5 rfl) rfl (S_Mo_fillSubs_44 lc lz) (snd_al_n (n := 0) (dget dd_Mo_fillSubs 6 rfl) rfl (snd_iconst (n := 0) (dget dd_Mo_fillSubs 7 rfl) (inR_d rfl) rfl (snd_pI (kn := 39) fd_Mo_272 rfl (dget dd_Mo_fillSubs 8 rfl) (snd_al_n (n := 0) (dget dd_Mo_fillSubs 9 rfl) rfl (snd_al_n (n := 0) (dget dd_Mo_fillSubs 10 rfl) rfl (snd_gR (kn := 11) fd_Mo_30 rfl (dget dd_Mo_fillSubs 11 rfl) (snd_bipush (n := 40) (dget dd_Mo_fillSubs 12 rfl) (inR_d rfl) (by decide) (snd_il_n (n := 1) (dget dd_Mo_fillSubs 13 rfl) rfl (snd_mul (dget dd_Mo_fillSubs 14 rfl) (snd_al_n (n := 0) (dget dd_Mo_fillSubs 15 rfl) rfl (snd_gR (kn := 12) fd_Mo_33 rfl (dget dd_Mo_fillSubs 16 rfl) (snd_il_n (n := 1) (dget dd_Mo_fillSubs 17 rfl) rfl (snd_ia (dget dd_Mo_fillSubs 18 rfl) (snd_cV (n := 3) met_Mo_fill mi_Mo_fill ki_Mo_fill kv_Mo_fill ml_Mo_287 rfl (by decide) (dget dd_Mo_fillSubs 19 rfl) (snd_zne (tg := 38) (dget dd_Mo_fillSubs 20 rfl) rfl (S_Mo_fillSubs_38 lc lz) (snd_iconst (n := 0) (dget dd_Mo_fillSubs 21 rfl) (inR_d rfl) rfl (snd_zr (dget dd_Mo_fillSubs 22 rfl) rfl)))))))))))))))))))))
def B_Mo_fillSubs_0 : TT := (tt_ci 0 (tt_is 1 (tt_cut 2)))
theorem S_Mo_fillSubs_0 (lc lz : Nat) : Snd md_Mo_fillSubs lc lz 0 (B_Mo_fillSubs_0) := (snd_iconst (n := 0) (dget dd_Mo_fillSubs 0 rfl) (inR_d rfl) rfl (snd_is_n (n := 1) (dget dd_Mo_fillSubs 1 rfl) rfl snd_cut))
theorem met_Mo_fillSubs : MetP y_Mo_fillSubs md_Mo_fillSubs (fun _ => 0) (fun _ => 0) Ct_Mo_fillSubs := by
  refine metL1 (body := B_Mo_fillSubs_0) (B1 := B_Mo_fillSubs_2) (by decide) rfl rfl (fun lc lz => S_Mo_fillSubs_0 lc lz) (fun lc lz => S_Mo_fillSubs_2 lc lz) ?_
  intro av h post hc hH hav
  unfold Ct_Mo_fillSubs at hc
  split at hc
  rotate_left
  · exact hc.elim
  rename_i t
  obtain ⟨rfl, w, L, Q, hX, hp⟩ := hc
  refine ⟨Nat.le_of_ble_eq_true rfl, ?_⟩
  refine ⟨fun ls h' => ∃ i : Nat, ls = [some (.inr (.inl (some pMo))), some (.inl i)] ∧ Fr h h' ∧ TX L Q h' ∧ (i : Int) ≤ gI h pMo 15 ∧ fsA L (wM h) (uM h) ((uM h).drop i) (atM h') = fsA L (wM h) (uM h) (uM h) (atM h), fun _ ls _ => (6 - locI ls 1).toNat, ?_, ?_⟩
  · rintro ls h1 ⟨i, rfl, hF, hX1, hi, he⟩
    have w1 := FrP_MW hF w
    have e15 := Fr_fld hF (j := 15) (by omega)
    obtain ⟨z1, z2, z3, z4⟩ := Fr_size hF
    obtain ⟨eW, eU, -⟩ := Fr_words hF
    have h15 := hX.2.2.2.2.1.2.2.2
    have sr := st_raw hX1.2.2.1
    simp (decide := true) only [B_Mo_fillSubs_0, B_Mo_fillSubs_2, B_Mo_fillSubs_38, B_Mo_fillSubs_44, Ct_Mo_fill, tt_ci, tt_cl, tt_nul, tt_il, tt_al, tt_ll, tt_is, tt_as, tt_ls, tt_inc, tt_add, tt_sub, tt_mul, tt_div, tt_rem, tt_ladd, tt_lmul, tt_ldiv, tt_lrem, tt_zeq, tt_zne, tt_zlt, tt_zge, tt_zgt, tt_zle, tt_ceq, tt_cne, tt_clt, tt_cge, tt_cgt, tt_cle, tt_nn, tt_cut, tt_pop, tt_dup, tt_dup2, tt_gI, tt_gR, tt_pI, tt_pZ, tt_pR, tt_ia, tt_ba, tt_za, tt_iS, tt_bS, tt_zS, tt_aa, tt_aS, tt_len, tt_and, tt_xor, tt_shr, tt_ushr, tt_lcmp, tt_i2b, tt_i2l, tt_l2i, tt_sw, swG, tt_ir, tt_zr, tt_br, tt_lr, tt_ar, tt_vr, tt_cV, tt_cS, tt_min, tt_max, tt_acp, pI, pII, pO, pA, pIA, pIIA, pOA, pOIA, pL, pLL, pLIA, pV, pCP, lI, lO, lL, nth, stL, clL, entA, fitL, rcv, List.take_succ_cons, List.take_zero, List.drop_succ_cons, List.drop_zero, List.reverse_cons, List.reverse_nil, List.nil_append, List.cons_append, List.length_cons, List.length_nil, Option.toList_some, Option.toList_none, gI_sI, gI_sA, gR_sI, gR_sA, gI_sR, gR_sR, hN_sI, hN_sA, hN_sR, isO_sI, isO_sA, isO_sR, isAr_sI, isAr_sA, isAr_sR, hC_sI, hC_sA, hC_sR, hZ_sI, hZ_sA, hZ_sR, MW_sI, MW_sA, true_and, and_true, true_or, or_true, and_self, forall_const, imp_self, implies_true, if_true, if_false, false_and, and_false, false_or, or_false, not_false_eq_true, not_true_eq_false, sI_sI, mr_tape w1, mr_text w1, mr_words w1, mr_wordSize w1, mr_subs w1, mr_subSize w1, mr_asked w1, mr_pile w1, mr_pileSize w1, mr_opened w1, mr_openedAt w1, mr_begun w1, mr_cells w1, mr_keptCells w1, mr_name w1, mr_isLeft w1, mr_isDone w1, mr_keptLeft w1, mr_keptDone w1, mr_state w1, mr_keptState w1, mr_newOf w1, mr_oldOf w1, mr_spare w1, mr_spareDone w1, mr_out w1, mr_metFrom w1, mr_metBy w1, mr_far w1, mr_low w1, mr_lows w1, mr_lowSize w1, mr_triedRow w1, mr_triedColumn w1, mr_triedValue w1, mr_triedRows w1, mr_sheet w1, ma_tape w1, ma_text w1, ma_words w1, ma_wordSize w1, ma_subs w1, ma_subSize w1, ma_asked w1, ma_pile w1, ma_pileSize w1, ma_opened w1, ma_openedAt w1, ma_begun w1, ma_cells w1, ma_keptCells w1, ma_name w1, ma_isLeft w1, ma_isDone w1, ma_keptLeft w1, ma_keptDone w1, ma_state w1, ma_keptState w1, ma_newOf w1, ma_oldOf w1, ma_spare w1, ma_spareDone w1, ma_out w1, ma_metFrom w1, ma_metBy w1, ma_far w1, ma_low w1, ma_lows w1, ma_lowSize w1, ma_triedRow w1, ma_triedColumn w1, ma_triedValue w1, ma_triedRows w1, ma_sheet w1, ml_tape, ml_text, ml_words, ml_wordSize, ml_subs, ml_subSize, ml_asked, ml_pile, ml_pileSize, ml_opened, ml_openedAt, ml_begun, ml_cells, ml_keptCells, ml_name, ml_isLeft, ml_isDone, ml_keptLeft, ml_keptDone, ml_state, ml_keptState, ml_newOf, ml_oldOf, ml_spare, ml_spareDone, ml_out, ml_metFrom, ml_metBy, ml_far, ml_low, ml_lows, ml_lowSize, ml_triedRow, ml_triedColumn, ml_triedValue, ml_triedRows, ml_sheet, mo_O w1, e15, z2, locI, nth]
    refine ⟨fun q => ?_, fun q => ⟨⟨by omega, by omega⟩, by omega, by omega, w1, subK h i, L, Q, (FX_sub hX hF (by omega)).1, ?_, (FX_sub hX hF (by omega)).2.symm, fun h2 f1 f2 f3 => ?_⟩⟩
    · rw [List.drop_of_length_le (by unfold uM; rw [wdsM_len]; omega)] at he
      have := hp h1 hF (by rw [← he]; rfl) hX1
      rw [← he] at this
      exact ⟨this, hF.2.2.2.1, hF.2.2.2.2⟩
    · exact mine_TX hX1 (by omega) (by omega)
    · have hF2 : Fr h h2 := FrP_trans hF (FrP_trans (mine_Fr (FrP_refl _ h1)) f1)
      obtain ⟨eW2, eU2, -⟩ := Fr_words (mine_Fr (m := 0) hF)
      have hd : (uM h).drop i = subK h i :: (uM h).drop (i + 1) := wdsM_drop (by omega)
      rw [hd] at he
      rw [eW2, eU2, atM_mine] at f2 ⊢
      have ue : fsA L (wM h) (uM h) (subK h i :: (uM h).drop (i + 1)) (atM h1) = if (filA L (wM h) (uM h) (subK h i) (setM (atM h1) 0)).2 ≠ 0 then fsA L (wM h) (uM h) ((uM h).drop (i + 1)) (filA L (wM h) (uM h) (subK h i) (setM (atM h1) 0)).1 else ((filA L (wM h) (uM h) (subK h i) (setM (atM h1) 0)).1, 0) := rfl
      rw [he] at ue
      refine ⟨fun q2 => ⟨⟨by omega, by omega⟩, ⟨i + 1, by push_cast; rfl, hF2, f3, by omega, ?_⟩, by omega⟩, fun q2 => ?_⟩
      · rw [ue, if_pos q2, f2]
      · rw [if_neg (fun z => z q2)] at ue
        have := hp h2 hF2 (by rw [ue]; exact f2) f3
        rw [ue] at this
        exact ⟨this, hF2.2.2.2.1, hF2.2.2.2.2⟩
  · simp (decide := true) only [B_Mo_fillSubs_0, B_Mo_fillSubs_2, B_Mo_fillSubs_38, B_Mo_fillSubs_44, Ct_Mo_fill, tt_ci, tt_cl, tt_nul, tt_il, tt_al, tt_ll, tt_is, tt_as, tt_ls, tt_inc, tt_add, tt_sub, tt_mul, tt_div, tt_rem, tt_ladd, tt_lmul, tt_ldiv, tt_lrem, tt_zeq, tt_zne, tt_zlt, tt_zge, tt_zgt, tt_zle, tt_ceq, tt_cne, tt_clt, tt_cge, tt_cgt, tt_cle, tt_nn, tt_cut, tt_pop, tt_dup, tt_dup2, tt_gI, tt_gR, tt_pI, tt_pZ, tt_pR, tt_ia, tt_ba, tt_za, tt_iS, tt_bS, tt_zS, tt_aa, tt_aS, tt_len, tt_and, tt_xor, tt_shr, tt_ushr, tt_lcmp, tt_i2b, tt_i2l, tt_l2i, tt_sw, swG, tt_ir, tt_zr, tt_br, tt_lr, tt_ar, tt_vr, tt_cV, tt_cS, tt_min, tt_max, tt_acp, pI, pII, pO, pA, pIA, pIIA, pOA, pOIA, pL, pLL, pLIA, pV, pCP, lI, lO, lL, nth, stL, clL, entA, fitL, rcv, List.take_succ_cons, List.take_zero, List.drop_succ_cons, List.drop_zero, List.reverse_cons, List.reverse_nil, List.nil_append, List.cons_append, List.length_cons, List.length_nil, Option.toList_some, Option.toList_none, gI_sI, gI_sA, gR_sI, gR_sA, gI_sR, gR_sR, hN_sI, hN_sA, hN_sR, isO_sI, isO_sA, isO_sR, isAr_sI, isAr_sA, isAr_sR, hC_sI, hC_sA, hC_sR, hZ_sI, hZ_sA, hZ_sR, MW_sI, MW_sA, true_and, and_true, true_or, or_true, and_self, forall_const, imp_self, implies_true, if_true, if_false, false_and, and_false, false_or, or_false, not_false_eq_true, not_true_eq_false, sI_sI, mr_tape w, mr_text w, mr_words w, mr_wordSize w, mr_subs w, mr_subSize w, mr_asked w, mr_pile w, mr_pileSize w, mr_opened w, mr_openedAt w, mr_begun w, mr_cells w, mr_keptCells w, mr_name w, mr_isLeft w, mr_isDone w, mr_keptLeft w, mr_keptDone w, mr_state w, mr_keptState w, mr_newOf w, mr_oldOf w, mr_spare w, mr_spareDone w, mr_out w, mr_metFrom w, mr_metBy w, mr_far w, mr_low w, mr_lows w, mr_lowSize w, mr_triedRow w, mr_triedColumn w, mr_triedValue w, mr_triedRows w, mr_sheet w, ma_tape w, ma_text w, ma_words w, ma_wordSize w, ma_subs w, ma_subSize w, ma_asked w, ma_pile w, ma_pileSize w, ma_opened w, ma_openedAt w, ma_begun w, ma_cells w, ma_keptCells w, ma_name w, ma_isLeft w, ma_isDone w, ma_keptLeft w, ma_keptDone w, ma_state w, ma_keptState w, ma_newOf w, ma_oldOf w, ma_spare w, ma_spareDone w, ma_out w, ma_metFrom w, ma_metBy w, ma_far w, ma_low w, ma_lows w, ma_lowSize w, ma_triedRow w, ma_triedColumn w, ma_triedValue w, ma_triedRows w, ma_sheet w, ml_tape, ml_text, ml_words, ml_wordSize, ml_subs, ml_subSize, ml_asked, ml_pile, ml_pileSize, ml_opened, ml_openedAt, ml_begun, ml_cells, ml_keptCells, ml_name, ml_isLeft, ml_isDone, ml_keptLeft, ml_keptDone, ml_state, ml_keptState, ml_newOf, ml_oldOf, ml_spare, ml_spareDone, ml_out, ml_metFrom, ml_metBy, ml_far, ml_low, ml_lows, ml_lowSize, ml_triedRow, ml_triedColumn, ml_triedValue, ml_triedRows, ml_sheet, mo_O w]
    exact ⟨0, rfl, FrP_refl _ h, hX, hX.2.2.2.2.1.2.2.1.1, rfl⟩
def Ct_Mo_isClosed : CtT := fun av h post => match av with
  | [.inr (.inl (some t))] => t = pMo ∧ MW h ∧ ∃ (L Q : Int), TX L Q h ∧ post (some (.inl (clI L (wM h) (uM h) (atM h)))) h
  | _ => False
def B_Mo_isClosed_146 : TT := (tt_ci 1 tt_zr)
theorem S_Mo_isClosed_146 (lc lz : Nat) : Snd md_Mo_isClosed lc lz 146 (B_Mo_isClosed_146) := (snd_iconst (n := 1) (dget dd_Mo_isClosed 84 rfl) (inR_d rfl) rfl (snd_zr (dget dd_Mo_isClosed 85 rfl) rfl))
def B_Mo_isClosed_140 : TT := (tt_inc 1 1 (tt_cut 108))
theorem S_Mo_isClosed_140 (lc lz : Nat) : Snd md_Mo_isClosed lc lz 140 (B_Mo_isClosed_140) := (snd_inc (dget dd_Mo_isClosed 82 rfl) (snd_goto (tg := 108) (dget dd_Mo_isClosed 83 rfl) rfl snd_cut))
def B_Mo_isClosed_108 : TT := (tt_il 1 (tt_al 0 (tt_gI 9 15 (tt_cge (B_Mo_isClosed_146) (tt_al 0 (tt_al 0 (tt_gR 9 11 (tt_ci 40 (tt_il 1 (tt_mul (tt_al 0 (tt_gR 9 12 (tt_il 1 (tt_ia (tt_ci 0 (tt_cV 9 5 Ct_Mo_comesRound (tt_zne (B_Mo_isClosed_140) (tt_ci 0 tt_zr))))))))))))))))))
theorem S_Mo_isClosed_108 (lc lz : Nat) : Snd md_Mo_isClosed lc lz 108 (B_Mo_isClosed_108) := (snd_il_n (n := 1) (dget dd_Mo_isClosed 63 rfl) rfl (snd_al_n (n := 0) (dget dd_Mo_isClosed 64 rfl) rfl (snd_gI (kn := 15) fd_Mo_146 rfl (dget dd_Mo_isClosed 65 rfl) (snd_cge (tg := 146) (dget dd_Mo_isClosed 66 rfl) rfl (S_Mo_isClosed_146 lc lz) (snd_al_n (n := 0) (dget dd_Mo_isClosed 67 rfl) rfl (snd_al_n (n := 0) (dget dd_Mo_isClosed 68 rfl) rfl (snd_gR (kn := 11) fd_Mo_30 rfl (dget dd_Mo_isClosed 69 rfl) (snd_bipush (n := 40) (dget dd_Mo_isClosed 70 rfl) (inR_d rfl) (by decide) (snd_il_n (n := 1) (dget dd_Mo_isClosed 71 rfl) rfl (snd_mul (dget dd_Mo_isClosed 72 rfl) (snd_al_n (n := 0) (dget dd_Mo_isClosed 73 rfl) rfl (snd_gR (kn := 12) fd_Mo_33 rfl (dget dd_Mo_isClosed 74 rfl) (snd_il_n (n := 1) (dget dd_Mo_isClosed 75 rfl) rfl (snd_ia (dget dd_Mo_isClosed 76 rfl) (snd_iconst (n := 0) (dget dd_Mo_isClosed 77 rfl) (inR_d rfl) rfl (snd_cV (n := 4) met_Mo_comesRound mi_Mo_comesRound ki_Mo_comesRound kv_Mo_comesRound ml_Mo_291 rfl (by decide) (dget dd_Mo_isClosed 78 rfl) (snd_zne (tg := 140) (dget dd_Mo_isClosed 79 rfl) rfl (S_Mo_isClosed_140 lc lz) (snd_iconst (n := 0) (dget dd_Mo_isClosed 80 rfl) (inR_d rfl) rfl (snd_zr (dget dd_Mo_isClosed 81 rfl) rfl)))))))))))))))))))
def B_Mo_isClosed_106 : TT := (tt_ci 0 (tt_is 1 (tt_cut 108)))
theorem S_Mo_isClosed_106 (lc lz : Nat) : Snd md_Mo_isClosed lc lz 106 (B_Mo_isClosed_106) := (snd_iconst (n := 0) (dget dd_Mo_isClosed 61 rfl) (inR_d rfl) rfl (snd_is_n (n := 1) (dget dd_Mo_isClosed 62 rfl) rfl snd_cut))
def B_Mo_isClosed_100 : TT := (tt_inc 1 1 (tt_cut 2))
theorem S_Mo_isClosed_100 (lc lz : Nat) : Snd md_Mo_isClosed lc lz 100 (B_Mo_isClosed_100) := (snd_inc (dget dd_Mo_isClosed 59 rfl) (snd_goto (tg := 2) (dget dd_Mo_isClosed 60 rfl) rfl snd_cut))
def B_Mo_isClosed_94 : TT := (tt_inc 2 1 (tt_cut 62))
theorem S_Mo_isClosed_94 (lc lz : Nat) : Snd md_Mo_isClosed lc lz 94 (B_Mo_isClosed_94) := (snd_inc (dget dd_Mo_isClosed 57 rfl) (snd_goto (tg := 62) (dget dd_Mo_isClosed 58 rfl) rfl snd_cut))
def B_Mo_isClosed_62 : TT := (tt_il 2 (tt_al 0 (tt_gI 9 14 (tt_cge (B_Mo_isClosed_100) (tt_al 0 (tt_al 0 (tt_gR 9 9 (tt_ci 40 (tt_il 2 (tt_mul (tt_al 0 (tt_gR 9 10 (tt_il 2 (tt_ia (tt_il 1 (tt_cV 9 5 Ct_Mo_comesRound (tt_zne (B_Mo_isClosed_94) (tt_ci 0 tt_zr))))))))))))))))))
theorem S_Mo_isClosed_62 (lc lz : Nat) : Snd md_Mo_isClosed lc lz 62 (B_Mo_isClosed_62) := (snd_il_n (n := 2) (dget dd_Mo_isClosed 38 rfl) rfl (snd_al_n (n := 0) (dget dd_Mo_isClosed 39 rfl) rfl (snd_gI (kn := 14) fd_Mo_143 rfl (dget dd_Mo_isClosed 40 rfl) (snd_cge (tg := 100) (dget dd_Mo_isClosed 41 rfl) rfl (S_Mo_isClosed_100 lc lz) (snd_al_n (n := 0) (dget dd_Mo_isClosed 42 rfl) rfl (snd_al_n (n := 0) (dget dd_Mo_isClosed 43 rfl) rfl (snd_gR (kn := 9) fd_Mo_23 rfl (dget dd_Mo_isClosed 44 rfl) (snd_bipush (n := 40) (dget dd_Mo_isClosed 45 rfl) (inR_d rfl) (by decide) (snd_il_n (n := 2) (dget dd_Mo_isClosed 46 rfl) rfl (snd_mul (dget dd_Mo_isClosed 47 rfl) (snd_al_n (n := 0) (dget dd_Mo_isClosed 48 rfl) rfl (snd_gR (kn := 10) fd_Mo_27 rfl (dget dd_Mo_isClosed 49 rfl) (snd_il_n (n := 2) (dget dd_Mo_isClosed 50 rfl) rfl (snd_ia (dget dd_Mo_isClosed 51 rfl) (snd_il_n (n := 1) (dget dd_Mo_isClosed 52 rfl) rfl (snd_cV (n := 4) met_Mo_comesRound mi_Mo_comesRound ki_Mo_comesRound kv_Mo_comesRound ml_Mo_291 rfl (by decide) (dget dd_Mo_isClosed 53 rfl) (snd_zne (tg := 94) (dget dd_Mo_isClosed 54 rfl) rfl (S_Mo_isClosed_94 lc lz) (snd_iconst (n := 0) (dget dd_Mo_isClosed 55 rfl) (inR_d rfl) rfl (snd_zr (dget dd_Mo_isClosed 56 rfl) rfl)))))))))))))))))))
def B_Mo_isClosed_60 : TT := (tt_ci 0 (tt_is 2 (tt_cut 62)))
theorem S_Mo_isClosed_60 (lc lz : Nat) : Snd md_Mo_isClosed lc lz 60 (B_Mo_isClosed_60) := (snd_iconst (n := 0) (dget dd_Mo_isClosed 36 rfl) (inR_d rfl) rfl (snd_is_n (n := 2) (dget dd_Mo_isClosed 37 rfl) rfl snd_cut))
def B_Mo_isClosed_54 : TT := (tt_inc 2 1 (tt_cut 26))
theorem S_Mo_isClosed_54 (lc lz : Nat) : Snd md_Mo_isClosed lc lz 54 (B_Mo_isClosed_54) := (snd_inc (dget dd_Mo_isClosed 34 rfl) (snd_goto (tg := 26) (dget dd_Mo_isClosed 35 rfl) rfl snd_cut))
def B_Mo_isClosed_26 : TT := (tt_il 2 (tt_ci 2 (tt_al 0 (tt_gI 9 0 (tt_mul (tt_cge (B_Mo_isClosed_60) (tt_al 0 (tt_gR 9 23 (tt_ci 10 (tt_il 1 (tt_mul (tt_il 2 (tt_add (tt_ia (tt_ci (-2) (tt_cne (B_Mo_isClosed_54) (tt_ci 0 tt_zr)))))))))))))))))
theorem S_Mo_isClosed_26 (lc lz : Nat) : Snd md_Mo_isClosed lc lz 26 (B_Mo_isClosed_26) := (snd_il_n (n := 2) (dget dd_Mo_isClosed 16 rfl) rfl (snd_iconst (n := 2) (dget dd_Mo_isClosed 17 rfl) (inR_d rfl) rfl (snd_al_n (n := 0) (dget dd_Mo_isClosed 18 rfl) rfl (snd_gI (kn := 0) fd_Mo_7 rfl (dget dd_Mo_isClosed 19 rfl) (snd_mul (dget dd_Mo_isClosed 20 rfl) (snd_cge (tg := 60) (dget dd_Mo_isClosed 21 rfl) rfl (S_Mo_isClosed_60 lc lz) (snd_al_n (n := 0) (dget dd_Mo_isClosed 22 rfl) rfl (snd_gR (kn := 23) fd_Mo_54 rfl (dget dd_Mo_isClosed 23 rfl) (snd_bipush (n := 10) (dget dd_Mo_isClosed 24 rfl) (inR_d rfl) (by decide) (snd_il_n (n := 1) (dget dd_Mo_isClosed 25 rfl) rfl (snd_mul (dget dd_Mo_isClosed 26 rfl) (snd_il_n (n := 2) (dget dd_Mo_isClosed 27 rfl) rfl (snd_add (dget dd_Mo_isClosed 28 rfl) (snd_ia (dget dd_Mo_isClosed 29 rfl) (snd_bipush (n := -2) (dget dd_Mo_isClosed 30 rfl) (inR_d rfl) (by decide) (snd_cne (tg := 54) (dget dd_Mo_isClosed 31 rfl) rfl (S_Mo_isClosed_54 lc lz) (snd_iconst (n := 0) (dget dd_Mo_isClosed 32 rfl) (inR_d rfl) rfl (snd_zr (dget dd_Mo_isClosed 33 rfl) rfl))))))))))))))))))
def B_Mo_isClosed_24 : TT := (tt_ci 0 (tt_is 2 (tt_cut 26)))
theorem S_Mo_isClosed_24 (lc lz : Nat) : Snd md_Mo_isClosed lc lz 24 (B_Mo_isClosed_24) := (snd_iconst (n := 0) (dget dd_Mo_isClosed 14 rfl) (inR_d rfl) rfl (snd_is_n (n := 2) (dget dd_Mo_isClosed 15 rfl) rfl snd_cut))
def B_Mo_isClosed_2 : TT := (tt_il 1 (tt_al 0 (tt_gR 9 30 (tt_ci 0 (tt_ia (tt_cge (B_Mo_isClosed_106) (tt_al 0 (tt_gR 9 26 (tt_il 1 (tt_za (tt_zne (B_Mo_isClosed_24) (B_Mo_isClosed_100))))))))))))
theorem S_Mo_isClosed_2 (lc lz : Nat) : Snd md_Mo_isClosed lc lz 2 (B_Mo_isClosed_2) := (snd_il_n (n := 1) (dget dd_Mo_isClosed 2 rfl) rfl (snd_al_n (n := 0) (dget dd_Mo_isClosed 3 rfl) rfl (snd_gR (kn := 30) fd_Mo_76 rfl (dget dd_Mo_isClosed 4 rfl) (snd_iconst (n := 0) (dget dd_Mo_isClosed 5 rfl) (inR_d rfl) rfl (snd_ia (dget dd_Mo_isClosed 6 rfl) (snd_cge (tg := 106) (dget dd_Mo_isClosed 7 rfl) rfl (S_Mo_isClosed_106 lc lz) (snd_al_n (n := 0) (dget dd_Mo_isClosed 8 rfl) rfl (snd_gR (kn := 26) fd_Mo_63 rfl (dget dd_Mo_isClosed 9 rfl) (snd_il_n (n := 1) (dget dd_Mo_isClosed 10 rfl) rfl (snd_za (dget dd_Mo_isClosed 11 rfl) (snd_zne (tg := 24) (dget dd_Mo_isClosed 12 rfl) rfl (S_Mo_isClosed_24 lc lz) (snd_goto (tg := 100) (dget dd_Mo_isClosed 13 rfl) rfl (S_Mo_isClosed_100 lc lz)))))))))))))
def B_Mo_isClosed_0 : TT := (tt_ci 0 (tt_is 1 (tt_cut 2)))
theorem S_Mo_isClosed_0 (lc lz : Nat) : Snd md_Mo_isClosed lc lz 0 (B_Mo_isClosed_0) := (snd_iconst (n := 0) (dget dd_Mo_isClosed 0 rfl) (inR_d rfl) rfl (snd_is_n (n := 1) (dget dd_Mo_isClosed 1 rfl) rfl snd_cut))
theorem clI_1 {L : Int} {W U : List (List Int)} {a : AT} (h : clsd L W U a) : clI L W U a = 1 := by unfold clI; rw [if_pos h]
theorem clI_0 {L : Int} {W U : List (List Int)} {a : AT} (h : ¬ clsd L W U a) : clI L W U a = 0 := by unfold clI; rw [if_neg h]
theorem TX_clo {L Q : Int} {h : PH} (hX : TX L Q h) : clo h (VV (atM h)) L := by
  intro x hx
  have hx' := VV_atM.mp hx
  have sr := st_raw hX.2.2.1
  have x2 := hX.2.1
  refine ⟨hx'.1, by omega, fun c c0 c1 => ?_⟩
  rw [← aE_atM hx c0 (by omega)]
  rcases hX.2.2.1.1.2.2 x c hx c0 c1 with q | q
  · exact Or.inl q
  · exact Or.inr q.1
theorem round_iff {L Q : Int} {h : PH} {g : Int → Int} {f : Int} {n : Nat} {r : Int} (hX : TX L Q h) (hr : VV (atM h) r) (hl : ∀ k : Nat, k < n → 0 ≤ g (f + k) ∧ g (f + k) < L) : fwd (gI h pMo_cells) g f n r = r ↔ goF (aE (atM h)) (seg g f n) r = (r, n) := by
  rw [fwd_goF hX.2.2.1 hX.2.1.2 hr hl]
  have r0 := hX.2.2.1.1.2.1 r hr
  constructor
  · intro q
    split at q
    · rename_i z
      exact Prod.ext q z
    · omega
  · intro q
    rw [q]
    exact if_pos rfl
def muK (pc : Nat) (ls : LSt) (_ : PH) : Nat := if pc = 2 then 100 + (60000 - 30 * locI ls 1).toNat else if pc = 26 then 100 + (60000 - 30 * locI ls 1 - 1 - locI ls 2).toNat else if pc = 62 then 100 + (60000 - 30 * locI ls 1 - 15 - locI ls 2).toNat else (6 - locI ls 1).toNat
theorem muK_2 {ls : LSt} {h' : PH} : muK 2 ls h' = 100 + (60000 - 30 * locI ls 1).toNat := by unfold muK; rw [if_pos rfl]
theorem muK_26 {ls : LSt} {h' : PH} : muK 26 ls h' = 100 + (60000 - 30 * locI ls 1 - 1 - locI ls 2).toNat := by unfold muK; rw [if_neg (by decide), if_pos rfl]
theorem muK_62 {ls : LSt} {h' : PH} : muK 62 ls h' = 100 + (60000 - 30 * locI ls 1 - 15 - locI ls 2).toNat := by unfold muK; rw [if_neg (by decide), if_neg (by decide), if_pos rfl]
theorem muK_108 {ls : LSt} {h' : PH} : muK 108 ls h' = (6 - locI ls 1).toNat := by unfold muK; rw [if_neg (by decide), if_neg (by decide), if_neg (by decide)]
theorem met_Mo_isClosed : MetP y_Mo_isClosed md_Mo_isClosed (fun _ => 0) (fun _ => 0) Ct_Mo_isClosed := by
  refine metL4 (body := B_Mo_isClosed_0) (B1 := B_Mo_isClosed_2) (B2 := B_Mo_isClosed_26) (B3 := B_Mo_isClosed_62) (B4 := B_Mo_isClosed_108) (by decide) rfl rfl (fun lc lz => S_Mo_isClosed_0 lc lz) (fun lc lz => S_Mo_isClosed_2 lc lz) (fun lc lz => S_Mo_isClosed_26 lc lz) (fun lc lz => S_Mo_isClosed_62 lc lz) (fun lc lz => S_Mo_isClosed_108 lc lz) (by decide) ?_
  intro av h post hc hH hav
  unfold Ct_Mo_isClosed at hc
  split at hc
  rotate_left
  · exact hc.elim
  rename_i t
  obtain ⟨rfl, w, L, Q, hX, hp⟩ := hc
  refine ⟨Nat.le_of_ble_eq_true rfl, ?_⟩
  obtain ⟨mu, hmu⟩ : ∃ mu, mu = muK := ⟨_, rfl⟩
  obtain ⟨x1, x2, x3, x4, x5, x6⟩ := id hX
  have sr := st_raw x3
  have h14 := x5.2.1
  have h15 := x5.2.2.2
  have hclo := TX_clo hX
  refine ⟨fun ls h' => h' = h ∧ ∃ (r : Int) (x : Option PV), ls = [some (.inr (.inl (some pMo))), some (.inl r), x] ∧ 0 ≤ r ∧ r ≤ gI h pMo_state 0 ∧ (∀ y, VV (atM h) y → y < r → (∀ c, 0 ≤ c → c < L → aE (atM h) y c ≠ -2) ∧ ∀ u, u ∈ wM h → goF (aE (atM h)) u y = (y, u.length)),
    fun ls h' => h' = h ∧ ∃ (r c : Int), ls = [some (.inr (.inl (some pMo))), some (.inl r), some (.inl c)] ∧ VV (atM h) r ∧ 0 ≤ c ∧ c ≤ L ∧ (∀ y, VV (atM h) y → y < r → (∀ c, 0 ≤ c → c < L → aE (atM h) y c ≠ -2) ∧ ∀ u, u ∈ wM h → goF (aE (atM h)) u y = (y, u.length)) ∧ (∀ d, 0 ≤ d → d < c → aE (atM h) r d ≠ -2),
    fun ls h' => h' = h ∧ ∃ (r : Int) (i : Nat), ls = [some (.inr (.inl (some pMo))), some (.inl r), some (.inl i)] ∧ VV (atM h) r ∧ (i : Int) ≤ gI h pMo 14 ∧ (∀ y, VV (atM h) y → y < r → (∀ c, 0 ≤ c → c < L → aE (atM h) y c ≠ -2) ∧ ∀ u, u ∈ wM h → goF (aE (atM h)) u y = (y, u.length)) ∧ (∀ d, 0 ≤ d → d < L → aE (atM h) r d ≠ -2) ∧ (∀ k : Nat, k < i → goF (aE (atM h)) (wrdK h k) r = (r, (wrdK h k).length)),
    fun ls h' => h' = h ∧ ∃ (i : Nat) (x : Option PV), ls = [some (.inr (.inl (some pMo))), some (.inl i), x] ∧ (i : Int) ≤ gI h pMo 15 ∧ (∀ y, VV (atM h) y → (∀ c, 0 ≤ c → c < L → aE (atM h) y c ≠ -2) ∧ ∀ u, u ∈ wM h → goF (aE (atM h)) u y = (y, u.length)) ∧ (∀ k : Nat, k < i → goF (aE (atM h)) (subK h k) 0 = (0, (subK h k).length)), mu, ?_, ?_, ?_, ?_, ?_⟩
  · rintro ls h' ⟨rfl, r, x, rfl, r0, r1, hy⟩
    simp (decide := true) only [B_Mo_isClosed_0, B_Mo_isClosed_2, B_Mo_isClosed_24, B_Mo_isClosed_26, B_Mo_isClosed_54, B_Mo_isClosed_60, B_Mo_isClosed_62, B_Mo_isClosed_94, B_Mo_isClosed_100, B_Mo_isClosed_106, B_Mo_isClosed_108, B_Mo_isClosed_140, B_Mo_isClosed_146, Ct_Mo_comesRound, tt_ci, tt_cl, tt_nul, tt_il, tt_al, tt_ll, tt_is, tt_as, tt_ls, tt_inc, tt_add, tt_sub, tt_mul, tt_div, tt_rem, tt_ladd, tt_lmul, tt_ldiv, tt_lrem, tt_zeq, tt_zne, tt_zlt, tt_zge, tt_zgt, tt_zle, tt_ceq, tt_cne, tt_clt, tt_cge, tt_cgt, tt_cle, tt_nn, tt_cut, tt_pop, tt_dup, tt_dup2, tt_gI, tt_gR, tt_pI, tt_pZ, tt_pR, tt_ia, tt_ba, tt_za, tt_iS, tt_bS, tt_zS, tt_aa, tt_aS, tt_len, tt_and, tt_xor, tt_shr, tt_ushr, tt_lcmp, tt_i2b, tt_i2l, tt_l2i, tt_sw, swG, tt_ir, tt_zr, tt_br, tt_lr, tt_ar, tt_vr, tt_cV, tt_cS, tt_min, tt_max, tt_acp, pI, pII, pO, pA, pIA, pIIA, pOA, pOIA, pL, pLL, pLIA, pV, pCP, lI, lO, lL, nth, stL, clL, entA, fitL, rcv, List.take_succ_cons, List.take_zero, List.drop_succ_cons, List.drop_zero, List.reverse_cons, List.reverse_nil, List.nil_append, List.cons_append, List.length_cons, List.length_nil, Option.toList_some, Option.toList_none, gI_sI, gI_sA, gR_sI, gR_sA, gI_sR, gR_sR, hN_sI, hN_sA, hN_sR, isO_sI, isO_sA, isO_sR, isAr_sI, isAr_sA, isAr_sR, hC_sI, hC_sA, hC_sR, hZ_sI, hZ_sA, hZ_sR, MW_sI, MW_sA, true_and, and_true, true_or, or_true, and_self, forall_const, imp_self, implies_true, if_true, if_false, false_and, and_false, false_or, or_false, not_false_eq_true, not_true_eq_false, sI_sI, mr_tape w, mr_text w, mr_words w, mr_wordSize w, mr_subs w, mr_subSize w, mr_asked w, mr_pile w, mr_pileSize w, mr_opened w, mr_openedAt w, mr_begun w, mr_cells w, mr_keptCells w, mr_name w, mr_isLeft w, mr_isDone w, mr_keptLeft w, mr_keptDone w, mr_state w, mr_keptState w, mr_newOf w, mr_oldOf w, mr_spare w, mr_spareDone w, mr_out w, mr_metFrom w, mr_metBy w, mr_far w, mr_low w, mr_lows w, mr_lowSize w, mr_triedRow w, mr_triedColumn w, mr_triedValue w, mr_triedRows w, mr_sheet w, ma_tape w, ma_text w, ma_words w, ma_wordSize w, ma_subs w, ma_subSize w, ma_asked w, ma_pile w, ma_pileSize w, ma_opened w, ma_openedAt w, ma_begun w, ma_cells w, ma_keptCells w, ma_name w, ma_isLeft w, ma_isDone w, ma_keptLeft w, ma_keptDone w, ma_state w, ma_keptState w, ma_newOf w, ma_oldOf w, ma_spare w, ma_spareDone w, ma_out w, ma_metFrom w, ma_metBy w, ma_far w, ma_low w, ma_lows w, ma_lowSize w, ma_triedRow w, ma_triedColumn w, ma_triedValue w, ma_triedRows w, ma_sheet w, ml_tape, ml_text, ml_words, ml_wordSize, ml_subs, ml_subSize, ml_asked, ml_pile, ml_pileSize, ml_opened, ml_openedAt, ml_begun, ml_cells, ml_keptCells, ml_name, ml_isLeft, ml_isDone, ml_keptLeft, ml_keptDone, ml_state, ml_keptState, ml_newOf, ml_oldOf, ml_spare, ml_spareDone, ml_out, ml_metFrom, ml_metBy, ml_far, ml_low, ml_lows, ml_lowSize, ml_triedRow, ml_triedColumn, ml_triedValue, ml_triedRows, ml_sheet, mo_O w]
    refine ⟨fun q => ⟨⟨0, x, rfl, x5.2.2.1.1, fun y yv => hy y yv (by have := VV_atM.mp yv; omega), fun k hk => by omega⟩, ?_⟩, fun q => ⟨by omega, by omega, fun q2 => ⟨⟨r, 0, rfl, VV_atM.mpr ⟨r0, by omega, q2⟩, by omega, by omega, hy, fun d d0 d1 => by omega⟩, ?_⟩, fun q2 => ⟨⟨by omega, by omega⟩, ⟨r + 1, x, rfl, by omega, by omega, fun y yv z => hy y yv ?_⟩, ?_⟩⟩⟩
    · rw [hmu, muK_108, muK_2]
      simp only [locI, nth]
      omega
    · rw [hmu, muK_26, muK_2]
      simp only [locI, nth]
      omega
    · by_cases e : y = r
      · rw [e] at yv; exact absurd q2 (VV_atM.mp yv).2.2
      · omega
    · rw [hmu, muK_2, muK_2]
      simp only [locI, nth]
      omega
  · rintro ls h' ⟨rfl, r, c, rfl, hr, c0, c1, hy, hd⟩
    have hr' := VV_atM.mp hr
    simp (decide := true) only [B_Mo_isClosed_0, B_Mo_isClosed_2, B_Mo_isClosed_24, B_Mo_isClosed_26, B_Mo_isClosed_54, B_Mo_isClosed_60, B_Mo_isClosed_62, B_Mo_isClosed_94, B_Mo_isClosed_100, B_Mo_isClosed_106, B_Mo_isClosed_108, B_Mo_isClosed_140, B_Mo_isClosed_146, Ct_Mo_comesRound, tt_ci, tt_cl, tt_nul, tt_il, tt_al, tt_ll, tt_is, tt_as, tt_ls, tt_inc, tt_add, tt_sub, tt_mul, tt_div, tt_rem, tt_ladd, tt_lmul, tt_ldiv, tt_lrem, tt_zeq, tt_zne, tt_zlt, tt_zge, tt_zgt, tt_zle, tt_ceq, tt_cne, tt_clt, tt_cge, tt_cgt, tt_cle, tt_nn, tt_cut, tt_pop, tt_dup, tt_dup2, tt_gI, tt_gR, tt_pI, tt_pZ, tt_pR, tt_ia, tt_ba, tt_za, tt_iS, tt_bS, tt_zS, tt_aa, tt_aS, tt_len, tt_and, tt_xor, tt_shr, tt_ushr, tt_lcmp, tt_i2b, tt_i2l, tt_l2i, tt_sw, swG, tt_ir, tt_zr, tt_br, tt_lr, tt_ar, tt_vr, tt_cV, tt_cS, tt_min, tt_max, tt_acp, pI, pII, pO, pA, pIA, pIIA, pOA, pOIA, pL, pLL, pLIA, pV, pCP, lI, lO, lL, nth, stL, clL, entA, fitL, rcv, List.take_succ_cons, List.take_zero, List.drop_succ_cons, List.drop_zero, List.reverse_cons, List.reverse_nil, List.nil_append, List.cons_append, List.length_cons, List.length_nil, Option.toList_some, Option.toList_none, gI_sI, gI_sA, gR_sI, gR_sA, gI_sR, gR_sR, hN_sI, hN_sA, hN_sR, isO_sI, isO_sA, isO_sR, isAr_sI, isAr_sA, isAr_sR, hC_sI, hC_sA, hC_sR, hZ_sI, hZ_sA, hZ_sR, MW_sI, MW_sA, true_and, and_true, true_or, or_true, and_self, forall_const, imp_self, implies_true, if_true, if_false, false_and, and_false, false_or, or_false, not_false_eq_true, not_true_eq_false, sI_sI, mr_tape w, mr_text w, mr_words w, mr_wordSize w, mr_subs w, mr_subSize w, mr_asked w, mr_pile w, mr_pileSize w, mr_opened w, mr_openedAt w, mr_begun w, mr_cells w, mr_keptCells w, mr_name w, mr_isLeft w, mr_isDone w, mr_keptLeft w, mr_keptDone w, mr_state w, mr_keptState w, mr_newOf w, mr_oldOf w, mr_spare w, mr_spareDone w, mr_out w, mr_metFrom w, mr_metBy w, mr_far w, mr_low w, mr_lows w, mr_lowSize w, mr_triedRow w, mr_triedColumn w, mr_triedValue w, mr_triedRows w, mr_sheet w, ma_tape w, ma_text w, ma_words w, ma_wordSize w, ma_subs w, ma_subSize w, ma_asked w, ma_pile w, ma_pileSize w, ma_opened w, ma_openedAt w, ma_begun w, ma_cells w, ma_keptCells w, ma_name w, ma_isLeft w, ma_isDone w, ma_keptLeft w, ma_keptDone w, ma_state w, ma_keptState w, ma_newOf w, ma_oldOf w, ma_spare w, ma_spareDone w, ma_out w, ma_metFrom w, ma_metBy w, ma_far w, ma_low w, ma_lows w, ma_lowSize w, ma_triedRow w, ma_triedColumn w, ma_triedValue w, ma_triedRows w, ma_sheet w, ml_tape, ml_text, ml_words, ml_wordSize, ml_subs, ml_subSize, ml_asked, ml_pile, ml_pileSize, ml_opened, ml_openedAt, ml_begun, ml_cells, ml_keptCells, ml_name, ml_isLeft, ml_isDone, ml_keptLeft, ml_keptDone, ml_state, ml_keptState, ml_newOf, ml_oldOf, ml_spare, ml_spareDone, ml_out, ml_metFrom, ml_metBy, ml_far, ml_low, ml_lows, ml_lowSize, ml_triedRow, ml_triedColumn, ml_triedValue, ml_triedRows, ml_sheet, mo_O w]
    refine ⟨⟨by omega, by omega⟩, fun q => ⟨⟨r, 0, rfl, hr, x5.1.1, hy, fun d d0 d1 => hd d d0 (by omega), fun k hk => by omega⟩, ?_⟩, fun q => ⟨⟨by omega, by omega⟩, ⟨by omega, by omega⟩, by omega, by omega, ?_⟩⟩
    · rw [hmu, muK_62, muK_26]
      simp only [locI, nth]
      omega
    · rw [← aE_atM hr c0 (by omega)]
      refine ⟨fun q2 => ⟨⟨by omega, by omega⟩, ⟨r, c + 1, rfl, hr, by omega, by omega, hy, fun d d0 d1 => ?_⟩, ?_⟩, fun q2 => ?_⟩
      · by_cases e : d = c
        · rw [e]; exact q2
        · exact hd d d0 (by omega)
      · rw [hmu, muK_26, muK_26]
        simp only [locI, nth]
        omega
      · have n : clI L (wM h') (uM h') (atM h') = 0 := clI_0 (fun z => z.1 r c hr c0 (by omega) q2)
        rw [n] at hp
        exact hp
  · rintro ls h' ⟨rfl, r, i, rfl, hr, hi, hy, hd, hk⟩
    have hr' := VV_atM.mp hr
    simp (decide := true) only [B_Mo_isClosed_0, B_Mo_isClosed_2, B_Mo_isClosed_24, B_Mo_isClosed_26, B_Mo_isClosed_54, B_Mo_isClosed_60, B_Mo_isClosed_62, B_Mo_isClosed_94, B_Mo_isClosed_100, B_Mo_isClosed_106, B_Mo_isClosed_108, B_Mo_isClosed_140, B_Mo_isClosed_146, Ct_Mo_comesRound, tt_ci, tt_cl, tt_nul, tt_il, tt_al, tt_ll, tt_is, tt_as, tt_ls, tt_inc, tt_add, tt_sub, tt_mul, tt_div, tt_rem, tt_ladd, tt_lmul, tt_ldiv, tt_lrem, tt_zeq, tt_zne, tt_zlt, tt_zge, tt_zgt, tt_zle, tt_ceq, tt_cne, tt_clt, tt_cge, tt_cgt, tt_cle, tt_nn, tt_cut, tt_pop, tt_dup, tt_dup2, tt_gI, tt_gR, tt_pI, tt_pZ, tt_pR, tt_ia, tt_ba, tt_za, tt_iS, tt_bS, tt_zS, tt_aa, tt_aS, tt_len, tt_and, tt_xor, tt_shr, tt_ushr, tt_lcmp, tt_i2b, tt_i2l, tt_l2i, tt_sw, swG, tt_ir, tt_zr, tt_br, tt_lr, tt_ar, tt_vr, tt_cV, tt_cS, tt_min, tt_max, tt_acp, pI, pII, pO, pA, pIA, pIIA, pOA, pOIA, pL, pLL, pLIA, pV, pCP, lI, lO, lL, nth, stL, clL, entA, fitL, rcv, List.take_succ_cons, List.take_zero, List.drop_succ_cons, List.drop_zero, List.reverse_cons, List.reverse_nil, List.nil_append, List.cons_append, List.length_cons, List.length_nil, Option.toList_some, Option.toList_none, gI_sI, gI_sA, gR_sI, gR_sA, gI_sR, gR_sR, hN_sI, hN_sA, hN_sR, isO_sI, isO_sA, isO_sR, isAr_sI, isAr_sA, isAr_sR, hC_sI, hC_sA, hC_sR, hZ_sI, hZ_sA, hZ_sR, MW_sI, MW_sA, true_and, and_true, true_or, or_true, and_self, forall_const, imp_self, implies_true, if_true, if_false, false_and, and_false, false_or, or_false, not_false_eq_true, not_true_eq_false, sI_sI, mr_tape w, mr_text w, mr_words w, mr_wordSize w, mr_subs w, mr_subSize w, mr_asked w, mr_pile w, mr_pileSize w, mr_opened w, mr_openedAt w, mr_begun w, mr_cells w, mr_keptCells w, mr_name w, mr_isLeft w, mr_isDone w, mr_keptLeft w, mr_keptDone w, mr_state w, mr_keptState w, mr_newOf w, mr_oldOf w, mr_spare w, mr_spareDone w, mr_out w, mr_metFrom w, mr_metBy w, mr_far w, mr_low w, mr_lows w, mr_lowSize w, mr_triedRow w, mr_triedColumn w, mr_triedValue w, mr_triedRows w, mr_sheet w, ma_tape w, ma_text w, ma_words w, ma_wordSize w, ma_subs w, ma_subSize w, ma_asked w, ma_pile w, ma_pileSize w, ma_opened w, ma_openedAt w, ma_begun w, ma_cells w, ma_keptCells w, ma_name w, ma_isLeft w, ma_isDone w, ma_keptLeft w, ma_keptDone w, ma_state w, ma_keptState w, ma_newOf w, ma_oldOf w, ma_spare w, ma_spareDone w, ma_out w, ma_metFrom w, ma_metBy w, ma_far w, ma_low w, ma_lows w, ma_lowSize w, ma_triedRow w, ma_triedColumn w, ma_triedValue w, ma_triedRows w, ma_sheet w, ml_tape, ml_text, ml_words, ml_wordSize, ml_subs, ml_subSize, ml_asked, ml_pile, ml_pileSize, ml_opened, ml_openedAt, ml_begun, ml_cells, ml_keptCells, ml_name, ml_isLeft, ml_isDone, ml_keptLeft, ml_keptDone, ml_state, ml_keptState, ml_newOf, ml_oldOf, ml_spare, ml_spareDone, ml_out, ml_metFrom, ml_metBy, ml_far, ml_low, ml_lows, ml_lowSize, ml_triedRow, ml_triedColumn, ml_triedValue, ml_triedRows, ml_sheet, mo_O w]
    refine ⟨fun q => ⟨⟨by omega, by omega⟩, ⟨r + 1, _, rfl, by omega, by omega, fun y yv z => ?_⟩, ?_⟩, fun q => ?_⟩
    · by_cases e : y = r
      · rw [e]
        refine ⟨hd, fun u hu => ?_⟩
        obtain ⟨k, hk1, rfl⟩ := wdsM_mem.mp hu
        exact hk k (by omega)
      · exact hy y yv (by omega)
    · rw [hmu, muK_2, muK_62]
      simp only [locI, nth]
      omega
    · have hs := x5.1.2 i (by omega) (by omega)
      have hl : ∀ k : Nat, k < (gI h' pMo_wordSize i).toNat → 0 ≤ gI h' pMo_words (40 * i + k) ∧ gI h' pMo_words (40 * i + k) < L := fun k hk => hs.2.2 k (by omega) (by omega)
      have ri := round_iff (g := gI h' pMo_words) (f := 40 * (i : Int)) (n := (gI h' pMo_wordSize i).toNat) hX hr hl
      have hlen : (wrdK h' i).length = (gI h' pMo_wordSize i).toNat := seg_len
      refine ⟨⟨by omega, by omega⟩, by omega, by omega, w, VV (atM h'), L, (gI h' pMo_wordSize i).toNat, hr, hclo, x2.2, by omega, by omega, by omega, by omega, by omega, fun k k0 k1 => hs.2.2 k k0 (by omega), fun z => ⟨⟨by omega, by omega⟩, ⟨r, i + 1, by push_cast; rfl, hr, by omega, hy, hd, fun k hk1 => ?_⟩, ?_⟩, fun z => ?_⟩
      · by_cases e : k = i
        · rw [e, hlen]
          refine ri.mp ?_
          apply Classical.byContradiction
          intro t
          exact z (if_neg t)
        · exact hk k (by omega)
      · rw [hmu, muK_62, muK_62]
        simp only [locI, nth]
        omega
      · have n : clI L (wM h') (uM h') (atM h') = 0 := clI_0 (fun y => by
          have := y.2.1 _ (wrdK_mem (h := h') (i := i) (by omega)) r hr
          rw [hlen] at this
          rw [if_pos (ri.mpr this)] at z
          exact absurd z (by decide))
        rw [n] at hp
        exact hp
  · rintro ls h' ⟨rfl, i, x, rfl, hi, hy, hk⟩
    simp (decide := true) only [B_Mo_isClosed_0, B_Mo_isClosed_2, B_Mo_isClosed_24, B_Mo_isClosed_26, B_Mo_isClosed_54, B_Mo_isClosed_60, B_Mo_isClosed_62, B_Mo_isClosed_94, B_Mo_isClosed_100, B_Mo_isClosed_106, B_Mo_isClosed_108, B_Mo_isClosed_140, B_Mo_isClosed_146, Ct_Mo_comesRound, tt_ci, tt_cl, tt_nul, tt_il, tt_al, tt_ll, tt_is, tt_as, tt_ls, tt_inc, tt_add, tt_sub, tt_mul, tt_div, tt_rem, tt_ladd, tt_lmul, tt_ldiv, tt_lrem, tt_zeq, tt_zne, tt_zlt, tt_zge, tt_zgt, tt_zle, tt_ceq, tt_cne, tt_clt, tt_cge, tt_cgt, tt_cle, tt_nn, tt_cut, tt_pop, tt_dup, tt_dup2, tt_gI, tt_gR, tt_pI, tt_pZ, tt_pR, tt_ia, tt_ba, tt_za, tt_iS, tt_bS, tt_zS, tt_aa, tt_aS, tt_len, tt_and, tt_xor, tt_shr, tt_ushr, tt_lcmp, tt_i2b, tt_i2l, tt_l2i, tt_sw, swG, tt_ir, tt_zr, tt_br, tt_lr, tt_ar, tt_vr, tt_cV, tt_cS, tt_min, tt_max, tt_acp, pI, pII, pO, pA, pIA, pIIA, pOA, pOIA, pL, pLL, pLIA, pV, pCP, lI, lO, lL, nth, stL, clL, entA, fitL, rcv, List.take_succ_cons, List.take_zero, List.drop_succ_cons, List.drop_zero, List.reverse_cons, List.reverse_nil, List.nil_append, List.cons_append, List.length_cons, List.length_nil, Option.toList_some, Option.toList_none, gI_sI, gI_sA, gR_sI, gR_sA, gI_sR, gR_sR, hN_sI, hN_sA, hN_sR, isO_sI, isO_sA, isO_sR, isAr_sI, isAr_sA, isAr_sR, hC_sI, hC_sA, hC_sR, hZ_sI, hZ_sA, hZ_sR, MW_sI, MW_sA, true_and, and_true, true_or, or_true, and_self, forall_const, imp_self, implies_true, if_true, if_false, false_and, and_false, false_or, or_false, not_false_eq_true, not_true_eq_false, sI_sI, mr_tape w, mr_text w, mr_words w, mr_wordSize w, mr_subs w, mr_subSize w, mr_asked w, mr_pile w, mr_pileSize w, mr_opened w, mr_openedAt w, mr_begun w, mr_cells w, mr_keptCells w, mr_name w, mr_isLeft w, mr_isDone w, mr_keptLeft w, mr_keptDone w, mr_state w, mr_keptState w, mr_newOf w, mr_oldOf w, mr_spare w, mr_spareDone w, mr_out w, mr_metFrom w, mr_metBy w, mr_far w, mr_low w, mr_lows w, mr_lowSize w, mr_triedRow w, mr_triedColumn w, mr_triedValue w, mr_triedRows w, mr_sheet w, ma_tape w, ma_text w, ma_words w, ma_wordSize w, ma_subs w, ma_subSize w, ma_asked w, ma_pile w, ma_pileSize w, ma_opened w, ma_openedAt w, ma_begun w, ma_cells w, ma_keptCells w, ma_name w, ma_isLeft w, ma_isDone w, ma_keptLeft w, ma_keptDone w, ma_state w, ma_keptState w, ma_newOf w, ma_oldOf w, ma_spare w, ma_spareDone w, ma_out w, ma_metFrom w, ma_metBy w, ma_far w, ma_low w, ma_lows w, ma_lowSize w, ma_triedRow w, ma_triedColumn w, ma_triedValue w, ma_triedRows w, ma_sheet w, ml_tape, ml_text, ml_words, ml_wordSize, ml_subs, ml_subSize, ml_asked, ml_pile, ml_pileSize, ml_opened, ml_openedAt, ml_begun, ml_cells, ml_keptCells, ml_name, ml_isLeft, ml_isDone, ml_keptLeft, ml_keptDone, ml_state, ml_keptState, ml_newOf, ml_oldOf, ml_spare, ml_spareDone, ml_out, ml_metFrom, ml_metBy, ml_far, ml_low, ml_lows, ml_lowSize, ml_triedRow, ml_triedColumn, ml_triedValue, ml_triedRows, ml_sheet, mo_O w]
    refine ⟨fun q => ?_, fun q => ?_⟩
    · have n : clI L (wM h') (uM h') (atM h') = 1 := clI_1 ⟨fun r c hr c0 c1 => (hy r hr).1 c c0 c1, fun u hu r hr => (hy r hr).2 u hu, fun u hu => by
        obtain ⟨k, hk1, rfl⟩ := wdsM_mem.mp hu
        exact hk k (by omega)⟩
      rw [n] at hp
      exact hp
    · have hs := x5.2.2.1.2 i (by omega) (by omega)
      have hr := x3.1.1
      have hl : ∀ k : Nat, k < (gI h' pMo_subSize i).toNat → 0 ≤ gI h' pMo_subs (40 * i + k) ∧ gI h' pMo_subs (40 * i + k) < L := fun k hk => hs.2.2 k (by omega) (by omega)
      have ri := round_iff (g := gI h' pMo_subs) (f := 40 * (i : Int)) (n := (gI h' pMo_subSize i).toNat) hX hr hl
      have hlen : (subK h' i).length = (gI h' pMo_subSize i).toNat := seg_len
      refine ⟨⟨by omega, by omega⟩, by omega, by omega, w, VV (atM h'), L, (gI h' pMo_subSize i).toNat, hr, hclo, x2.2, by omega, by omega, by omega, by omega, by omega, fun k k0 k1 => hs.2.2 k k0 (by omega), fun z => ⟨⟨by omega, by omega⟩, ⟨i + 1, x, by push_cast; rfl, by omega, hy, fun k hk1 => ?_⟩, ?_⟩, fun z => ?_⟩
      · by_cases e : k = i
        · rw [e, hlen]
          refine ri.mp ?_
          apply Classical.byContradiction
          intro t
          exact z (if_neg t)
        · exact hk k (by omega)
      · rw [hmu, muK_108, muK_108]
        simp only [locI, nth]
        omega
      · have n : clI L (wM h') (uM h') (atM h') = 0 := clI_0 (fun y => by
          have := y.2.2 _ (subK_mem (h := h') (i := i) (by omega))
          rw [hlen] at this
          rw [if_pos (ri.mpr this)] at z
          exact absurd z (by decide))
        rw [n] at hp
        exact hp
  · simp (decide := true) only [B_Mo_isClosed_0, B_Mo_isClosed_2, B_Mo_isClosed_24, B_Mo_isClosed_26, B_Mo_isClosed_54, B_Mo_isClosed_60, B_Mo_isClosed_62, B_Mo_isClosed_94, B_Mo_isClosed_100, B_Mo_isClosed_106, B_Mo_isClosed_108, B_Mo_isClosed_140, B_Mo_isClosed_146, Ct_Mo_comesRound, tt_ci, tt_cl, tt_nul, tt_il, tt_al, tt_ll, tt_is, tt_as, tt_ls, tt_inc, tt_add, tt_sub, tt_mul, tt_div, tt_rem, tt_ladd, tt_lmul, tt_ldiv, tt_lrem, tt_zeq, tt_zne, tt_zlt, tt_zge, tt_zgt, tt_zle, tt_ceq, tt_cne, tt_clt, tt_cge, tt_cgt, tt_cle, tt_nn, tt_cut, tt_pop, tt_dup, tt_dup2, tt_gI, tt_gR, tt_pI, tt_pZ, tt_pR, tt_ia, tt_ba, tt_za, tt_iS, tt_bS, tt_zS, tt_aa, tt_aS, tt_len, tt_and, tt_xor, tt_shr, tt_ushr, tt_lcmp, tt_i2b, tt_i2l, tt_l2i, tt_sw, swG, tt_ir, tt_zr, tt_br, tt_lr, tt_ar, tt_vr, tt_cV, tt_cS, tt_min, tt_max, tt_acp, pI, pII, pO, pA, pIA, pIIA, pOA, pOIA, pL, pLL, pLIA, pV, pCP, lI, lO, lL, nth, stL, clL, entA, fitL, rcv, List.take_succ_cons, List.take_zero, List.drop_succ_cons, List.drop_zero, List.reverse_cons, List.reverse_nil, List.nil_append, List.cons_append, List.length_cons, List.length_nil, Option.toList_some, Option.toList_none, gI_sI, gI_sA, gR_sI, gR_sA, gI_sR, gR_sR, hN_sI, hN_sA, hN_sR, isO_sI, isO_sA, isO_sR, isAr_sI, isAr_sA, isAr_sR, hC_sI, hC_sA, hC_sR, hZ_sI, hZ_sA, hZ_sR, MW_sI, MW_sA, true_and, and_true, true_or, or_true, and_self, forall_const, imp_self, implies_true, if_true, if_false, false_and, and_false, false_or, or_false, not_false_eq_true, not_true_eq_false, sI_sI, mr_tape w, mr_text w, mr_words w, mr_wordSize w, mr_subs w, mr_subSize w, mr_asked w, mr_pile w, mr_pileSize w, mr_opened w, mr_openedAt w, mr_begun w, mr_cells w, mr_keptCells w, mr_name w, mr_isLeft w, mr_isDone w, mr_keptLeft w, mr_keptDone w, mr_state w, mr_keptState w, mr_newOf w, mr_oldOf w, mr_spare w, mr_spareDone w, mr_out w, mr_metFrom w, mr_metBy w, mr_far w, mr_low w, mr_lows w, mr_lowSize w, mr_triedRow w, mr_triedColumn w, mr_triedValue w, mr_triedRows w, mr_sheet w, ma_tape w, ma_text w, ma_words w, ma_wordSize w, ma_subs w, ma_subSize w, ma_asked w, ma_pile w, ma_pileSize w, ma_opened w, ma_openedAt w, ma_begun w, ma_cells w, ma_keptCells w, ma_name w, ma_isLeft w, ma_isDone w, ma_keptLeft w, ma_keptDone w, ma_state w, ma_keptState w, ma_newOf w, ma_oldOf w, ma_spare w, ma_spareDone w, ma_out w, ma_metFrom w, ma_metBy w, ma_far w, ma_low w, ma_lows w, ma_lowSize w, ma_triedRow w, ma_triedColumn w, ma_triedValue w, ma_triedRows w, ma_sheet w, ml_tape, ml_text, ml_words, ml_wordSize, ml_subs, ml_subSize, ml_asked, ml_pile, ml_pileSize, ml_opened, ml_openedAt, ml_begun, ml_cells, ml_keptCells, ml_name, ml_isLeft, ml_isDone, ml_keptLeft, ml_keptDone, ml_state, ml_keptState, ml_newOf, ml_oldOf, ml_spare, ml_spareDone, ml_out, ml_metFrom, ml_metBy, ml_far, ml_low, ml_lows, ml_lowSize, ml_triedRow, ml_triedColumn, ml_triedValue, ml_triedRows, ml_sheet, mo_O w]
    exact ⟨0, _, rfl, by omega, by omega, fun y hy z => by have := VV_atM.mp hy; omega⟩
def Ct_Mo_lookStep : CtT := fun av h post => match av with
  | [.inr (.inl (some t))] => t = pMo ∧ MW h ∧ ∃ (L Q : Int), TX L Q h ∧ ∀ h', Fr h h' → atM h' = (lsA L (wM h) (uM h) (atM h)).1 → TX L Q h' → post (some (.inl (lsA L (wM h) (uM h) (atM h)).2)) h'
  | _ => False
def B_Mo_lookStep_85 : TT := (tt_al 0 (tt_cV 9 1 Ct_Mo_close (tt_ci 1 tt_zr)))
theorem S_Mo_lookStep_85 (lc lz : Nat) : Snd md_Mo_lookStep lc lz 85 (B_Mo_lookStep_85) := (snd_al_n (n := 0) (dget dd_Mo_lookStep 49 rfl) rfl (snd_cV (n := 0) met_Mo_close mi_Mo_close ki_Mo_close kv_Mo_close ml_Mo_266 rfl (by decide) (dget dd_Mo_lookStep 50 rfl) (snd_iconst (n := 1) (dget dd_Mo_lookStep 51 rfl) (inR_d rfl) rfl (snd_zr (dget dd_Mo_lookStep 52 rfl) rfl))))
def B_Mo_lookStep_79 : TT := (tt_inc 1 1 (tt_cut 2))
theorem S_Mo_lookStep_79 (lc lz : Nat) : Snd md_Mo_lookStep lc lz 79 (B_Mo_lookStep_79) := (snd_inc (dget dd_Mo_lookStep 47 rfl) (snd_goto (tg := 2) (dget dd_Mo_lookStep 48 rfl) rfl snd_cut))
def B_Mo_lookStep_73 : TT := (tt_inc 2 1 (tt_cut 14))
theorem S_Mo_lookStep_73 (lc lz : Nat) : Snd md_Mo_lookStep lc lz 73 (B_Mo_lookStep_73) := (snd_inc (dget dd_Mo_lookStep 45 rfl) (snd_goto (tg := 14) (dget dd_Mo_lookStep 46 rfl) rfl snd_cut))
def B_Mo_lookStep_61 : TT := (tt_al 0 (tt_il 1 (tt_il 2 (tt_cV 9 3 Ct_Mo_newAt (tt_al 0 (tt_cV 9 1 Ct_Mo_close (tt_ci 1 tt_zr)))))))
theorem S_Mo_lookStep_61 (lc lz : Nat) : Snd md_Mo_lookStep lc lz 61 (B_Mo_lookStep_61) := (snd_al_n (n := 0) (dget dd_Mo_lookStep 37 rfl) rfl (snd_il_n (n := 1) (dget dd_Mo_lookStep 38 rfl) rfl (snd_il_n (n := 2) (dget dd_Mo_lookStep 39 rfl) rfl (snd_cV (n := 2) met_Mo_newAt mi_Mo_newAt ki_Mo_newAt kv_Mo_newAt ml_Mo_284 rfl (by decide) (dget dd_Mo_lookStep 40 rfl) (snd_al_n (n := 0) (dget dd_Mo_lookStep 41 rfl) rfl (snd_cV (n := 0) met_Mo_close mi_Mo_close ki_Mo_close kv_Mo_close ml_Mo_266 rfl (by decide) (dget dd_Mo_lookStep 42 rfl) (snd_iconst (n := 1) (dget dd_Mo_lookStep 43 rfl) (inR_d rfl) rfl (snd_zr (dget dd_Mo_lookStep 44 rfl) rfl))))))))
def B_Mo_lookStep_52 : TT := (tt_al 0 (tt_cV 9 1 Ct_Mo_hasPlace (tt_zne (B_Mo_lookStep_61) (tt_ci 0 tt_zr))))
theorem S_Mo_lookStep_52 (lc lz : Nat) : Snd md_Mo_lookStep lc lz 52 (B_Mo_lookStep_52) := (snd_al_n (n := 0) (dget dd_Mo_lookStep 32 rfl) rfl (snd_cV (n := 0) met_Mo_hasPlace mi_Mo_hasPlace ki_Mo_hasPlace kv_Mo_hasPlace ml_Mo_278 rfl (by decide) (dget dd_Mo_lookStep 33 rfl) (snd_zne (tg := 61) (dget dd_Mo_lookStep 34 rfl) rfl (S_Mo_lookStep_61 lc lz) (snd_iconst (n := 0) (dget dd_Mo_lookStep 35 rfl) (inR_d rfl) rfl (snd_zr (dget dd_Mo_lookStep 36 rfl) rfl)))))
def B_Mo_lookStep_14 : TT := (tt_il 2 (tt_ci 2 (tt_al 0 (tt_gI 9 0 (tt_mul (tt_cge (B_Mo_lookStep_79) (tt_al 0 (tt_gR 9 26 (tt_il 1 (tt_za (tt_zeq (B_Mo_lookStep_73) (tt_al 0 (tt_gR 9 23 (tt_ci 10 (tt_il 1 (tt_mul (tt_il 2 (tt_add (tt_ia (tt_ci (-2) (tt_ceq (B_Mo_lookStep_52) (B_Mo_lookStep_73))))))))))))))))))))))
theorem S_Mo_lookStep_14 (lc lz : Nat) : Snd md_Mo_lookStep lc lz 14 (B_Mo_lookStep_14) := (snd_il_n (n := 2) (dget dd_Mo_lookStep 10 rfl) rfl (snd_iconst (n := 2) (dget dd_Mo_lookStep 11 rfl) (inR_d rfl) rfl (snd_al_n (n := 0) (dget dd_Mo_lookStep 12 rfl) rfl (snd_gI (kn := 0) fd_Mo_7 rfl (dget dd_Mo_lookStep 13 rfl) (snd_mul (dget dd_Mo_lookStep 14 rfl) (snd_cge (tg := 79) (dget dd_Mo_lookStep 15 rfl) rfl (S_Mo_lookStep_79 lc lz) (snd_al_n (n := 0) (dget dd_Mo_lookStep 16 rfl) rfl (snd_gR (kn := 26) fd_Mo_63 rfl (dget dd_Mo_lookStep 17 rfl) (snd_il_n (n := 1) (dget dd_Mo_lookStep 18 rfl) rfl (snd_za (dget dd_Mo_lookStep 19 rfl) (snd_zeq (tg := 73) (dget dd_Mo_lookStep 20 rfl) rfl (S_Mo_lookStep_73 lc lz) (snd_al_n (n := 0) (dget dd_Mo_lookStep 21 rfl) rfl (snd_gR (kn := 23) fd_Mo_54 rfl (dget dd_Mo_lookStep 22 rfl) (snd_bipush (n := 10) (dget dd_Mo_lookStep 23 rfl) (inR_d rfl) (by decide) (snd_il_n (n := 1) (dget dd_Mo_lookStep 24 rfl) rfl (snd_mul (dget dd_Mo_lookStep 25 rfl) (snd_il_n (n := 2) (dget dd_Mo_lookStep 26 rfl) rfl (snd_add (dget dd_Mo_lookStep 27 rfl) (snd_ia (dget dd_Mo_lookStep 28 rfl) (snd_bipush (n := -2) (dget dd_Mo_lookStep 29 rfl) (inR_d rfl) (by decide) (snd_ceq (tg := 52) (dget dd_Mo_lookStep 30 rfl) rfl (S_Mo_lookStep_52 lc lz) (snd_goto (tg := 73) (dget dd_Mo_lookStep 31 rfl) rfl (S_Mo_lookStep_73 lc lz)))))))))))))))))))))))
def B_Mo_lookStep_2 : TT := (tt_il 1 (tt_al 0 (tt_gR 9 30 (tt_ci 0 (tt_ia (tt_cge (B_Mo_lookStep_85) (tt_ci 0 (tt_is 2 (tt_cut 14)))))))))
theorem S_Mo_lookStep_2 (lc lz : Nat) : Snd md_Mo_lookStep lc lz 2 (B_Mo_lookStep_2) := (snd_il_n (n := 1) (dget dd_Mo_lookStep 2 rfl) rfl (snd_al_n (n := 0) (dget dd_Mo_lookStep 3 rfl) rfl (snd_gR (kn := 30) fd_Mo_76 rfl (dget dd_Mo_lookStep 4 rfl) (snd_iconst (n := 0) (dget dd_Mo_lookStep 5 rfl) (inR_d rfl) rfl (snd_ia (dget dd_Mo_lookStep 6 rfl) (snd_cge (tg := 85) (dget dd_Mo_lookStep 7 rfl) rfl (S_Mo_lookStep_85 lc lz) (snd_iconst (n := 0) (dget dd_Mo_lookStep 8 rfl) (inR_d rfl) rfl (snd_is_n (n := 2) (dget dd_Mo_lookStep 9 rfl) rfl snd_cut))))))))
def B_Mo_lookStep_0 : TT := (tt_ci 0 (tt_is 1 (tt_cut 2)))
theorem S_Mo_lookStep_0 (lc lz : Nat) : Snd md_Mo_lookStep lc lz 0 (B_Mo_lookStep_0) := (snd_iconst (n := 0) (dget dd_Mo_lookStep 0 rfl) (inR_d rfl) rfl (snd_is_n (n := 1) (dget dd_Mo_lookStep 1 rfl) rfl snd_cut))
def muT (pc : Nat) (ls : LSt) (_ : PH) : Nat := if pc = 2 then (60000 - 20 * locI ls 1).toNat else (60000 - 20 * locI ls 1 - 1 - locI ls 2).toNat
theorem muT_2 {ls : LSt} {h' : PH} : muT 2 ls h' = (60000 - 20 * locI ls 1).toNat := by unfold muT; rw [if_pos rfl]
theorem muT_14 {ls : LSt} {h' : PH} : muT 14 ls h' = (60000 - 20 * locI ls 1 - 1 - locI ls 2).toNat := by unfold muT; rw [if_neg (by decide)]
def isE (L : Int) (a : AT) (j : Int) : Int := if aV a (j / 10) ≠ 0 ∧ j % 10 < L ∧ aE a (j / 10) (j % 10) = -2 then 1 else 0
theorem met_Mo_lookStep : MetP y_Mo_lookStep md_Mo_lookStep (fun _ => 0) (fun _ => 0) Ct_Mo_lookStep := by
  refine metL2 (body := B_Mo_lookStep_0) (B1 := B_Mo_lookStep_2) (B2 := B_Mo_lookStep_14) (by decide) rfl rfl (fun lc lz => S_Mo_lookStep_0 lc lz) (fun lc lz => S_Mo_lookStep_2 lc lz) (fun lc lz => S_Mo_lookStep_14 lc lz) (by decide) ?_
  intro av h post hc hH hav
  unfold Ct_Mo_lookStep at hc
  split at hc
  rotate_left
  · exact hc.elim
  rename_i t
  obtain ⟨rfl, w, L, Q, hX, hp⟩ := hc
  refine ⟨Nat.le_of_ble_eq_true rfl, ?_⟩
  obtain ⟨mu, hmu⟩ : ∃ mu, mu = muT := ⟨_, rfl⟩
  obtain ⟨x1, x2, x3, x4, x5, x6⟩ := id hX
  have sr := st_raw x3
  have eN := aN_eq x3
  rw [aS_atM (by decide) (by decide)] at eN
  have em : emA L (atM h) = lsF (isE L (atM h)) (10 * aN (atM h)) 0 := rfl
  refine ⟨fun ls h' => h' = h ∧ ∃ (r : Int) (x : Option PV), ls = [some (.inr (.inl (some pMo))), some (.inl r), x] ∧ 0 ≤ r ∧ r ≤ gI h pMo_state 0 ∧ (∀ j, 0 ≤ j → j < 10 * r → isE L (atM h) j = 0),
    fun ls h' => h' = h ∧ ∃ (r c : Int), ls = [some (.inr (.inl (some pMo))), some (.inl r), some (.inl c)] ∧ 0 ≤ r ∧ r < gI h pMo_state 0 ∧ 0 ≤ c ∧ c ≤ L ∧ (∀ j, 0 ≤ j → j < 10 * r + c → isE L (atM h) j = 0), mu, ?_, ?_, ?_⟩
  · rintro ls h' ⟨rfl, r, x, rfl, r0, r1, hj⟩
    simp (decide := true) only [B_Mo_lookStep_0, B_Mo_lookStep_2, B_Mo_lookStep_14, B_Mo_lookStep_52, B_Mo_lookStep_61, B_Mo_lookStep_73, B_Mo_lookStep_79, B_Mo_lookStep_85, Ct_Mo_hasPlace, Ct_Mo_newAt, Ct_Mo_close, tt_ci, tt_cl, tt_nul, tt_il, tt_al, tt_ll, tt_is, tt_as, tt_ls, tt_inc, tt_add, tt_sub, tt_mul, tt_div, tt_rem, tt_ladd, tt_lmul, tt_ldiv, tt_lrem, tt_zeq, tt_zne, tt_zlt, tt_zge, tt_zgt, tt_zle, tt_ceq, tt_cne, tt_clt, tt_cge, tt_cgt, tt_cle, tt_nn, tt_cut, tt_pop, tt_dup, tt_dup2, tt_gI, tt_gR, tt_pI, tt_pZ, tt_pR, tt_ia, tt_ba, tt_za, tt_iS, tt_bS, tt_zS, tt_aa, tt_aS, tt_len, tt_and, tt_xor, tt_shr, tt_ushr, tt_lcmp, tt_i2b, tt_i2l, tt_l2i, tt_sw, swG, tt_ir, tt_zr, tt_br, tt_lr, tt_ar, tt_vr, tt_cV, tt_cS, tt_min, tt_max, tt_acp, pI, pII, pO, pA, pIA, pIIA, pOA, pOIA, pL, pLL, pLIA, pV, pCP, lI, lO, lL, nth, stL, clL, entA, fitL, rcv, List.take_succ_cons, List.take_zero, List.drop_succ_cons, List.drop_zero, List.reverse_cons, List.reverse_nil, List.nil_append, List.cons_append, List.length_cons, List.length_nil, Option.toList_some, Option.toList_none, gI_sI, gI_sA, gR_sI, gR_sA, gI_sR, gR_sR, hN_sI, hN_sA, hN_sR, isO_sI, isO_sA, isO_sR, isAr_sI, isAr_sA, isAr_sR, hC_sI, hC_sA, hC_sR, hZ_sI, hZ_sA, hZ_sR, MW_sI, MW_sA, true_and, and_true, true_or, or_true, and_self, forall_const, imp_self, implies_true, if_true, if_false, false_and, and_false, false_or, or_false, not_false_eq_true, not_true_eq_false, sI_sI, mr_tape w, mr_text w, mr_words w, mr_wordSize w, mr_subs w, mr_subSize w, mr_asked w, mr_pile w, mr_pileSize w, mr_opened w, mr_openedAt w, mr_begun w, mr_cells w, mr_keptCells w, mr_name w, mr_isLeft w, mr_isDone w, mr_keptLeft w, mr_keptDone w, mr_state w, mr_keptState w, mr_newOf w, mr_oldOf w, mr_spare w, mr_spareDone w, mr_out w, mr_metFrom w, mr_metBy w, mr_far w, mr_low w, mr_lows w, mr_lowSize w, mr_triedRow w, mr_triedColumn w, mr_triedValue w, mr_triedRows w, mr_sheet w, ma_tape w, ma_text w, ma_words w, ma_wordSize w, ma_subs w, ma_subSize w, ma_asked w, ma_pile w, ma_pileSize w, ma_opened w, ma_openedAt w, ma_begun w, ma_cells w, ma_keptCells w, ma_name w, ma_isLeft w, ma_isDone w, ma_keptLeft w, ma_keptDone w, ma_state w, ma_keptState w, ma_newOf w, ma_oldOf w, ma_spare w, ma_spareDone w, ma_out w, ma_metFrom w, ma_metBy w, ma_far w, ma_low w, ma_lows w, ma_lowSize w, ma_triedRow w, ma_triedColumn w, ma_triedValue w, ma_triedRows w, ma_sheet w, ml_tape, ml_text, ml_words, ml_wordSize, ml_subs, ml_subSize, ml_asked, ml_pile, ml_pileSize, ml_opened, ml_openedAt, ml_begun, ml_cells, ml_keptCells, ml_name, ml_isLeft, ml_isDone, ml_keptLeft, ml_keptDone, ml_state, ml_keptState, ml_newOf, ml_oldOf, ml_spare, ml_spareDone, ml_out, ml_metFrom, ml_metBy, ml_far, ml_low, ml_lows, ml_lowSize, ml_triedRow, ml_triedColumn, ml_triedValue, ml_triedRows, ml_sheet, mo_O w]
    refine ⟨fun q => ⟨w, L, Q, x1, x2, x3, x4, x5, fun h2 f1 f2 f3 f4 => ?_⟩, fun q => ⟨⟨r, 0, rfl, r0, by omega, by omega, by omega, fun j j0 j1 => hj j j0 (by omega)⟩, ?_⟩⟩
    · have e : emA L (atM h') = 10 * aS (atM h') 0 := by
        rw [em, aS_atM (by decide) (by decide)]
        exact lsF_eq (by omega) (by omega) (fun j j0 j1 => hj j j0 (by omega)) (fun z => by omega)
      have el : lsA L (wM h') (uM h') (atM h') = (clA L (wM h') (uM h') (atM h'), 1) := if_pos e
      have := hp h2 f1 (by rw [el]; exact f2) (TX_Fr hX f1 f3 (f4 x6))
      rw [el] at this
      exact ⟨this, f1.2.2.2.1, f1.2.2.2.2⟩
    · rw [hmu, muT_14, muT_2]
      simp only [locI, nth]
      omega
  · rintro ls h' ⟨rfl, r, c, rfl, r0, r1, c0, c1, hj⟩
    simp (decide := true) only [B_Mo_lookStep_0, B_Mo_lookStep_2, B_Mo_lookStep_14, B_Mo_lookStep_52, B_Mo_lookStep_61, B_Mo_lookStep_73, B_Mo_lookStep_79, B_Mo_lookStep_85, Ct_Mo_hasPlace, Ct_Mo_newAt, Ct_Mo_close, tt_ci, tt_cl, tt_nul, tt_il, tt_al, tt_ll, tt_is, tt_as, tt_ls, tt_inc, tt_add, tt_sub, tt_mul, tt_div, tt_rem, tt_ladd, tt_lmul, tt_ldiv, tt_lrem, tt_zeq, tt_zne, tt_zlt, tt_zge, tt_zgt, tt_zle, tt_ceq, tt_cne, tt_clt, tt_cge, tt_cgt, tt_cle, tt_nn, tt_cut, tt_pop, tt_dup, tt_dup2, tt_gI, tt_gR, tt_pI, tt_pZ, tt_pR, tt_ia, tt_ba, tt_za, tt_iS, tt_bS, tt_zS, tt_aa, tt_aS, tt_len, tt_and, tt_xor, tt_shr, tt_ushr, tt_lcmp, tt_i2b, tt_i2l, tt_l2i, tt_sw, swG, tt_ir, tt_zr, tt_br, tt_lr, tt_ar, tt_vr, tt_cV, tt_cS, tt_min, tt_max, tt_acp, pI, pII, pO, pA, pIA, pIIA, pOA, pOIA, pL, pLL, pLIA, pV, pCP, lI, lO, lL, nth, stL, clL, entA, fitL, rcv, List.take_succ_cons, List.take_zero, List.drop_succ_cons, List.drop_zero, List.reverse_cons, List.reverse_nil, List.nil_append, List.cons_append, List.length_cons, List.length_nil, Option.toList_some, Option.toList_none, gI_sI, gI_sA, gR_sI, gR_sA, gI_sR, gR_sR, hN_sI, hN_sA, hN_sR, isO_sI, isO_sA, isO_sR, isAr_sI, isAr_sA, isAr_sR, hC_sI, hC_sA, hC_sR, hZ_sI, hZ_sA, hZ_sR, MW_sI, MW_sA, true_and, and_true, true_or, or_true, and_self, forall_const, imp_self, implies_true, if_true, if_false, false_and, and_false, false_or, or_false, not_false_eq_true, not_true_eq_false, sI_sI, mr_tape w, mr_text w, mr_words w, mr_wordSize w, mr_subs w, mr_subSize w, mr_asked w, mr_pile w, mr_pileSize w, mr_opened w, mr_openedAt w, mr_begun w, mr_cells w, mr_keptCells w, mr_name w, mr_isLeft w, mr_isDone w, mr_keptLeft w, mr_keptDone w, mr_state w, mr_keptState w, mr_newOf w, mr_oldOf w, mr_spare w, mr_spareDone w, mr_out w, mr_metFrom w, mr_metBy w, mr_far w, mr_low w, mr_lows w, mr_lowSize w, mr_triedRow w, mr_triedColumn w, mr_triedValue w, mr_triedRows w, mr_sheet w, ma_tape w, ma_text w, ma_words w, ma_wordSize w, ma_subs w, ma_subSize w, ma_asked w, ma_pile w, ma_pileSize w, ma_opened w, ma_openedAt w, ma_begun w, ma_cells w, ma_keptCells w, ma_name w, ma_isLeft w, ma_isDone w, ma_keptLeft w, ma_keptDone w, ma_state w, ma_keptState w, ma_newOf w, ma_oldOf w, ma_spare w, ma_spareDone w, ma_out w, ma_metFrom w, ma_metBy w, ma_far w, ma_low w, ma_lows w, ma_lowSize w, ma_triedRow w, ma_triedColumn w, ma_triedValue w, ma_triedRows w, ma_sheet w, ml_tape, ml_text, ml_words, ml_wordSize, ml_subs, ml_subSize, ml_asked, ml_pile, ml_pileSize, ml_opened, ml_openedAt, ml_begun, ml_cells, ml_keptCells, ml_name, ml_isLeft, ml_isDone, ml_keptLeft, ml_keptDone, ml_state, ml_keptState, ml_newOf, ml_oldOf, ml_spare, ml_spareDone, ml_out, ml_metFrom, ml_metBy, ml_far, ml_low, ml_lows, ml_lowSize, ml_triedRow, ml_triedColumn, ml_triedValue, ml_triedRows, ml_sheet, mo_O w]
    have next : ∀ d, d = c → isE L (atM h') (10 * r + d) = 0 → ∀ j, 0 ≤ j → j < 10 * r + (c + 1) → isE L (atM h') j = 0 := by
      intro d hd hz j j0 j1
      by_cases e : j = 10 * r + c
      · rw [e, ← hd]; exact hz
      · exact hj j j0 (by omega)
    refine ⟨⟨by omega, by omega⟩, fun q => ⟨⟨by omega, by omega⟩, ⟨r + 1, _, rfl, by omega, by omega, fun j j0 j1 => ?_⟩, ?_⟩, fun q => ⟨by omega, by omega, fun q2 => ⟨⟨by omega, by omega⟩, ⟨r, c + 1, rfl, r0, r1, by omega, by omega, next c rfl ?_⟩, ?_⟩, fun q2 => ?_⟩⟩
    · by_cases e : j < 10 * r + c
      · exact hj j j0 e
      · exact if_neg (fun z => by have := z.2.1; omega)
    · rw [hmu, muT_2, muT_14]
      simp only [locI, nth]
      omega
    · refine if_neg (fun z => ?_)
      have := z.1
      rw [show (10 * r + c) / 10 = r by omega] at this
      exact (VV_atM.mp this).2.2 q2
    · rw [hmu, muT_14, muT_14]
      simp only [locI, nth]
      omega
    · have hr : VV (atM h') r := VV_atM.mpr ⟨r0, r1, q2⟩
      have d1 : (10 * r + c) / 10 = r := by omega
      have d2 : (10 * r + c) % 10 = c := by omega
      rw [← aE_atM hr c0 (by omega)]
      refine ⟨⟨by omega, by omega⟩, ⟨by omega, by omega⟩, by omega, by omega, fun q3 => ?_, fun q3 => ⟨⟨by omega, by omega⟩, ⟨r, c + 1, rfl, r0, r1, by omega, by omega, next c rfl ?_⟩, ?_⟩⟩
      · have e : emA L (atM h') = 10 * r + c := by
          rw [em]
          refine lsF_eq (by omega) (by omega) (fun j j0 j1 => hj j j0 j1) (fun _ => ?_)
          have : isE L (atM h') (10 * r + c) = 1 := if_pos ⟨by rw [d1]; exact hr, by omega, by rw [d1, d2]; exact q3⟩
          rw [this]
          decide
        have ne : ¬ emA L (atM h') = 10 * aS (atM h') 0 := by rw [aS_atM (by decide) (by decide)]; omega
        refine ⟨w, fun q4 => ?_, fun q4 => ?_⟩
        · have hpl : hasP (atM h') := hp_raw.mpr (by
            apply Classical.byContradiction
            intro t
            exact q4 (if_neg t))
          have hpl' := hp_raw.mp hpl
          have X2 := nwH_TX hX hr c0 (by omega) q3 hpl
          obtain ⟨y1, y2, y3, y4, y5, y6⟩ := id X2
          have el : lsA L (wM h') (uM h') (atM h') = (clA L (wM h') (uM h') (newA (atM h') r c), 1) := by
            unfold lsA
            rw [if_neg ne, if_pos hpl, e, d1, d2]
          obtain ⟨eW, eU, -⟩ := Fr_words (nwH_Fr (h := h') (r := r) (c := c))
          refine ⟨w, by omega, by omega, by omega, by omega, by omega, by omega, r0, by omega, c0, by omega, mo_O (h := adH h') w, w, L, Q, y1, y2, y3, y4, y5, fun h2 f1 f2 f3 f4 => ?_⟩
          have f1' : Fr (nwH h' r c) h2 := f1
          have f2' : atM h2 = clA L (wM (nwH h' r c)) (uM (nwH h' r c)) (atM (nwH h' r c)) := f2
          rw [eW, eU, nwH_at x3 hr c0 (by omega)] at f2'
          have := hp h2 (FrP_trans nwH_Fr f1') (by rw [el]; exact f2') (TX_Fr X2 f1' f3 (f4 y6))
          rw [el] at this
          exact ⟨this, f1'.2.2.2.1, f1'.2.2.2.2⟩
        · have hpl : ¬ hasP (atM h') := fun t => by
            rw [if_pos (hp_raw.mp t)] at q4
            exact absurd q4 (by decide)
          have el : lsA L (wM h') (uM h') (atM h') = (atM h', 0) := by
            unfold lsA
            rw [if_neg ne, if_neg hpl]
          have := hp h' (FrP_refl _ h') (by rw [el]) hX
          rw [el] at this
          exact this
      · exact if_neg (fun z => by have := z.2.2; rw [d1, d2] at this; exact q3 this)
      · rw [hmu, muT_14, muT_14]
        simp only [locI, nth]
        omega
  · simp (decide := true) only [B_Mo_lookStep_0, B_Mo_lookStep_2, B_Mo_lookStep_14, B_Mo_lookStep_52, B_Mo_lookStep_61, B_Mo_lookStep_73, B_Mo_lookStep_79, B_Mo_lookStep_85, Ct_Mo_hasPlace, Ct_Mo_newAt, Ct_Mo_close, tt_ci, tt_cl, tt_nul, tt_il, tt_al, tt_ll, tt_is, tt_as, tt_ls, tt_inc, tt_add, tt_sub, tt_mul, tt_div, tt_rem, tt_ladd, tt_lmul, tt_ldiv, tt_lrem, tt_zeq, tt_zne, tt_zlt, tt_zge, tt_zgt, tt_zle, tt_ceq, tt_cne, tt_clt, tt_cge, tt_cgt, tt_cle, tt_nn, tt_cut, tt_pop, tt_dup, tt_dup2, tt_gI, tt_gR, tt_pI, tt_pZ, tt_pR, tt_ia, tt_ba, tt_za, tt_iS, tt_bS, tt_zS, tt_aa, tt_aS, tt_len, tt_and, tt_xor, tt_shr, tt_ushr, tt_lcmp, tt_i2b, tt_i2l, tt_l2i, tt_sw, swG, tt_ir, tt_zr, tt_br, tt_lr, tt_ar, tt_vr, tt_cV, tt_cS, tt_min, tt_max, tt_acp, pI, pII, pO, pA, pIA, pIIA, pOA, pOIA, pL, pLL, pLIA, pV, pCP, lI, lO, lL, nth, stL, clL, entA, fitL, rcv, List.take_succ_cons, List.take_zero, List.drop_succ_cons, List.drop_zero, List.reverse_cons, List.reverse_nil, List.nil_append, List.cons_append, List.length_cons, List.length_nil, Option.toList_some, Option.toList_none, gI_sI, gI_sA, gR_sI, gR_sA, gI_sR, gR_sR, hN_sI, hN_sA, hN_sR, isO_sI, isO_sA, isO_sR, isAr_sI, isAr_sA, isAr_sR, hC_sI, hC_sA, hC_sR, hZ_sI, hZ_sA, hZ_sR, MW_sI, MW_sA, true_and, and_true, true_or, or_true, and_self, forall_const, imp_self, implies_true, if_true, if_false, false_and, and_false, false_or, or_false, not_false_eq_true, not_true_eq_false, sI_sI, mr_tape w, mr_text w, mr_words w, mr_wordSize w, mr_subs w, mr_subSize w, mr_asked w, mr_pile w, mr_pileSize w, mr_opened w, mr_openedAt w, mr_begun w, mr_cells w, mr_keptCells w, mr_name w, mr_isLeft w, mr_isDone w, mr_keptLeft w, mr_keptDone w, mr_state w, mr_keptState w, mr_newOf w, mr_oldOf w, mr_spare w, mr_spareDone w, mr_out w, mr_metFrom w, mr_metBy w, mr_far w, mr_low w, mr_lows w, mr_lowSize w, mr_triedRow w, mr_triedColumn w, mr_triedValue w, mr_triedRows w, mr_sheet w, ma_tape w, ma_text w, ma_words w, ma_wordSize w, ma_subs w, ma_subSize w, ma_asked w, ma_pile w, ma_pileSize w, ma_opened w, ma_openedAt w, ma_begun w, ma_cells w, ma_keptCells w, ma_name w, ma_isLeft w, ma_isDone w, ma_keptLeft w, ma_keptDone w, ma_state w, ma_keptState w, ma_newOf w, ma_oldOf w, ma_spare w, ma_spareDone w, ma_out w, ma_metFrom w, ma_metBy w, ma_far w, ma_low w, ma_lows w, ma_lowSize w, ma_triedRow w, ma_triedColumn w, ma_triedValue w, ma_triedRows w, ma_sheet w, ml_tape, ml_text, ml_words, ml_wordSize, ml_subs, ml_subSize, ml_asked, ml_pile, ml_pileSize, ml_opened, ml_openedAt, ml_begun, ml_cells, ml_keptCells, ml_name, ml_isLeft, ml_isDone, ml_keptLeft, ml_keptDone, ml_state, ml_keptState, ml_newOf, ml_oldOf, ml_spare, ml_spareDone, ml_out, ml_metFrom, ml_metBy, ml_far, ml_low, ml_lows, ml_lowSize, ml_triedRow, ml_triedColumn, ml_triedValue, ml_triedRows, ml_sheet, mo_O w]
    exact ⟨0, _, rfl, by omega, by omega, fun j j0 j1 => by omega⟩
