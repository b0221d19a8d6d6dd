/-! THE MODEL'S step, run, pack -/
theorem atM_setS {h : PH} {j v : Int} (h0 : 0 < j) (h1 : j < 11) : atM (sI h pMo_state j v) = setS (atM h) j v := by
  have e : ∀ b, b ≠ pMo_state → gI (sI h pMo_state j v) b = gI h b := by
    intro b hb
    funext k
    rw [gI_sI, if_neg (fun z => hb z.1)]
  have e0 : gI (sI h pMo_state j v) pMo_state 0 = gI h pMo_state 0 := by rw [gI_sI, if_neg (fun z => by have := z.2; omega)]
  have es : cS (gI (sI h pMo_state j v) pMo_state) = fun k => if k = j then v else aS (atM h) k := by
    funext k
    show (if 0 ≤ k ∧ k < 11 then gI (sI h pMo_state j v) pMo_state k else 0) = if k = j then v else (if 0 ≤ k ∧ k < 11 then gI h pMo_state k else 0)
    by_cases z : k = j
    · have e1 : gI (sI h pMo_state j v) pMo_state k = v := by rw [gI_sI, if_pos ⟨rfl, z⟩]
      rw [e1, if_pos z, if_pos (by omega)]
    · have e1 : gI (sI h pMo_state j v) pMo_state k = gI h pMo_state k := by rw [gI_sI, if_neg (fun t => z t.2)]
      rw [e1, if_neg z]
  unfold atM
  rw [e pMo_isLeft (by decide), e pMo_isDone (by decide), e pMo_cells (by decide), e pMo (by decide), e0]
  unfold mkA
  rw [es]
  rfl
theorem WT_s5 {L Q : Int} {a : AT} {v : Int} (h : WT L Q a) (hv : 0 ≤ v) : WT L Q (setS a 5 v) := by
  obtain ⟨g1, g2, g3, g4, g5, g6, g7, g8, g9, g10, g11, g12, g13, g14⟩ := h
  refine ⟨g1, g2, g3, g4, g5, g6, g7, g8, g9, g10, hv, g12, fun k hk => ?_, g14⟩
  show (if k = 5 then v else aS a k) = 0
  rw [if_neg (by omega)]
  exact g13 k hk
theorem WT_s6 {L Q : Int} {a : AT} {v : Int} (h : WT L Q a) (hv : 0 ≤ v ∧ v ≤ 2) : WT L Q (setS a 6 v) := by
  obtain ⟨g1, g2, g3, g4, g5, g6, g7, g8, g9, g10, g11, g12, g13, g14⟩ := h
  refine ⟨g1, g2, g3, g4, g5, g6, g7, g8, g9, hv, g11, g12, fun k hk => ?_, g14⟩
  show (if k = 6 then v else aS a k) = 0
  rw [if_neg (by omega)]
  exact g13 k hk
theorem clI_01 {L : Int} {W U : List (List Int)} {a : AT} : clI L W U a = 0 ∨ clI L W U a = 1 := by
  by_cases h : clsd L W U a
  · exact Or.inr (clI_1 h)
  · exact Or.inl (clI_0 h)
theorem state_Fr {h h' : PH} {j v : Int} (f : Fr h h') : Fr h (sI h' pMo_state j v) := FrP_sI (Or.inr (Or.inr (Or.inr (Or.inl rfl)))) f
def Ct_Mo_stepOf : CtT := fun av h post => match av with
  | [.inr (.inl (some t))] => t = pMo ∧ MW h ∧ ∃ (L Q : Int), TX L Q h ∧ gI h pMo_state 5 ≤ 1000000000 ∧ ∀ h', Fr h h' → atM h' = stA L (wM h) (uM h) (atM h) → TX L Q h' → post (some (.inl (aS (stA L (wM h) (uM h) (atM h)) 6))) h'
  | _ => False
def B_Mo_stepOf_137 : TT := (tt_iS (tt_al 0 (tt_gR 9 30 (tt_ci 6 (tt_ia tt_ir)))))
theorem S_Mo_stepOf_137 (lc lz : Nat) : Snd md_Mo_stepOf lc lz 137 (B_Mo_stepOf_137) := (snd_iS (dget dd_Mo_stepOf 79 rfl) (snd_al_n (n := 0) (dget dd_Mo_stepOf 80 rfl) rfl (snd_gR (kn := 30) fd_Mo_76 rfl (dget dd_Mo_stepOf 81 rfl) (snd_bipush (n := 6) (dget dd_Mo_stepOf 82 rfl) (inR_d rfl) (by decide) (snd_ia (dget dd_Mo_stepOf 83 rfl) (snd_ir (dget dd_Mo_stepOf 84 rfl) rfl))))))
def B_Mo_stepOf_136 : TT := (tt_ci 0 (B_Mo_stepOf_137))
theorem S_Mo_stepOf_136 (lc lz : Nat) : Snd md_Mo_stepOf lc lz 136 (B_Mo_stepOf_136) := (snd_iconst (n := 0) (dget dd_Mo_stepOf 78 rfl) (inR_d rfl) rfl (S_Mo_stepOf_137 lc lz))
def B_Mo_stepOf_125 : TT := (tt_al 0 (tt_cV 9 1 Ct_Mo_isClosed (tt_zeq (B_Mo_stepOf_136) (tt_ci 1 (B_Mo_stepOf_137)))))
theorem S_Mo_stepOf_125 (lc lz : Nat) : Snd md_Mo_stepOf lc lz 125 (B_Mo_stepOf_125) := (snd_al_n (n := 0) (dget dd_Mo_stepOf 73 rfl) rfl (snd_cV (n := 0) met_Mo_isClosed mi_Mo_isClosed ki_Mo_isClosed kv_Mo_isClosed ml_Mo_304 rfl (by decide) (dget dd_Mo_stepOf 74 rfl) (snd_zeq (tg := 136) (dget dd_Mo_stepOf 75 rfl) rfl (S_Mo_stepOf_136 lc lz) (snd_iconst (n := 1) (dget dd_Mo_stepOf 76 rfl) (inR_d rfl) rfl (snd_goto (tg := 137) (dget dd_Mo_stepOf 77 rfl) rfl (S_Mo_stepOf_137 lc lz))))))
def B_Mo_stepOf_106 : TT := (tt_al 0 (tt_ci (-1) (tt_pI 9 39 (tt_al 0 (tt_gR 9 30 (tt_ci 6 (tt_il 3 (tt_zne (B_Mo_stepOf_125) (tt_ci 2 (B_Mo_stepOf_137))))))))))
theorem S_Mo_stepOf_106 (lc lz : Nat) : Snd md_Mo_stepOf lc lz 106 (B_Mo_stepOf_106) := (snd_al_n (n := 0) (dget dd_Mo_stepOf 63 rfl) rfl (snd_iconst (n := -1) (dget dd_Mo_stepOf 64 rfl) (inR_d rfl) rfl (snd_pI (kn := 39) fd_Mo_272 rfl (dget dd_Mo_stepOf 65 rfl) (snd_al_n (n := 0) (dget dd_Mo_stepOf 66 rfl) rfl (snd_gR (kn := 30) fd_Mo_76 rfl (dget dd_Mo_stepOf 67 rfl) (snd_bipush (n := 6) (dget dd_Mo_stepOf 68 rfl) (inR_d rfl) (by decide) (snd_il_n (n := 3) (dget dd_Mo_stepOf 69 rfl) rfl (snd_zne (tg := 125) (dget dd_Mo_stepOf 70 rfl) rfl (S_Mo_stepOf_125 lc lz) (snd_iconst (n := 2) (dget dd_Mo_stepOf 71 rfl) (inR_d rfl) rfl (snd_goto (tg := 137) (dget dd_Mo_stepOf 72 rfl) rfl (S_Mo_stepOf_137 lc lz)))))))))))
def B_Mo_stepOf_89 : TT := (tt_il 3 (tt_zeq (B_Mo_stepOf_106) (tt_il 1 (tt_zle (B_Mo_stepOf_106) (tt_il 2 (tt_ci 2 (tt_cne (B_Mo_stepOf_106) (tt_al 0 (tt_cV 9 1 Ct_Mo_close (B_Mo_stepOf_106))))))))))
theorem S_Mo_stepOf_89 (lc lz : Nat) : Snd md_Mo_stepOf lc lz 89 (B_Mo_stepOf_89) := (snd_il_n (n := 3) (dget dd_Mo_stepOf 54 rfl) rfl (snd_zeq (tg := 106) (dget dd_Mo_stepOf 55 rfl) rfl (S_Mo_stepOf_106 lc lz) (snd_il_n (n := 1) (dget dd_Mo_stepOf 56 rfl) rfl (snd_zle (tg := 106) (dget dd_Mo_stepOf 57 rfl) rfl (S_Mo_stepOf_106 lc lz) (snd_il_n (n := 2) (dget dd_Mo_stepOf 58 rfl) rfl (snd_iconst (n := 2) (dget dd_Mo_stepOf 59 rfl) (inR_d rfl) rfl (snd_cne (tg := 106) (dget dd_Mo_stepOf 60 rfl) rfl (S_Mo_stepOf_106 lc lz) (snd_al_n (n := 0) (dget dd_Mo_stepOf 61 rfl) rfl (snd_cV (n := 0) met_Mo_close mi_Mo_close ki_Mo_close kv_Mo_close ml_Mo_266 rfl (by decide) (dget dd_Mo_stepOf 62 rfl) (S_Mo_stepOf_106 lc lz))))))))))
def B_Mo_stepOf_84 : TT := (tt_al 0 (tt_cV 9 1 Ct_Mo_fillRow (tt_is 3 (B_Mo_stepOf_89))))
theorem S_Mo_stepOf_84 (lc lz : Nat) : Snd md_Mo_stepOf lc lz 84 (B_Mo_stepOf_84) := (snd_al_n (n := 0) (dget dd_Mo_stepOf 51 rfl) rfl (snd_cV (n := 0) met_Mo_fillRow mi_Mo_fillRow ki_Mo_fillRow kv_Mo_fillRow ml_Mo_301 rfl (by decide) (dget dd_Mo_stepOf 52 rfl) (snd_is_n (n := 3) (dget dd_Mo_stepOf 53 rfl) rfl (S_Mo_stepOf_89 lc lz))))
def B_Mo_stepOf_76 : TT := (tt_al 0 (tt_cV 9 1 Ct_Mo_lookStep (tt_is 3 (B_Mo_stepOf_89))))
theorem S_Mo_stepOf_76 (lc lz : Nat) : Snd md_Mo_stepOf lc lz 76 (B_Mo_stepOf_76) := (snd_al_n (n := 0) (dget dd_Mo_stepOf 47 rfl) rfl (snd_cV (n := 0) met_Mo_lookStep mi_Mo_lookStep ki_Mo_lookStep kv_Mo_lookStep ml_Mo_298 rfl (by decide) (dget dd_Mo_stepOf 48 rfl) (snd_is_n (n := 3) (dget dd_Mo_stepOf 49 rfl) rfl (snd_goto (tg := 89) (dget dd_Mo_stepOf 50 rfl) rfl (S_Mo_stepOf_89 lc lz)))))
def B_Mo_stepOf_60 : TT := (tt_il 2 (tt_ci 1 (tt_ceq (B_Mo_stepOf_76) (tt_il 2 (tt_ci 3 (tt_cne (B_Mo_stepOf_84) (tt_il 1 (tt_ci 2 (tt_rem (tt_zne (B_Mo_stepOf_84) (B_Mo_stepOf_76)))))))))))
theorem S_Mo_stepOf_60 (lc lz : Nat) : Snd md_Mo_stepOf lc lz 60 (B_Mo_stepOf_60) := (snd_il_n (n := 2) (dget dd_Mo_stepOf 37 rfl) rfl (snd_iconst (n := 1) (dget dd_Mo_stepOf 38 rfl) (inR_d rfl) rfl (snd_ceq (tg := 76) (dget dd_Mo_stepOf 39 rfl) rfl (S_Mo_stepOf_76 lc lz) (snd_il_n (n := 2) (dget dd_Mo_stepOf 40 rfl) rfl (snd_iconst (n := 3) (dget dd_Mo_stepOf 41 rfl) (inR_d rfl) rfl (snd_cne (tg := 84) (dget dd_Mo_stepOf 42 rfl) rfl (S_Mo_stepOf_84 lc lz) (snd_il_n (n := 1) (dget dd_Mo_stepOf 43 rfl) rfl (snd_iconst (n := 2) (dget dd_Mo_stepOf 44 rfl) (inR_d rfl) rfl (snd_rem (dget dd_Mo_stepOf 45 rfl) (snd_zne (tg := 84) (dget dd_Mo_stepOf 46 rfl) rfl (S_Mo_stepOf_84 lc lz) (S_Mo_stepOf_76 lc lz)))))))))))
def B_Mo_stepOf_18 : TT := (tt_al 0 (tt_gR 9 30 (tt_ci 5 (tt_ia (tt_is 1 (tt_al 0 (tt_gR 9 30 (tt_ci 5 (tt_dup2 (tt_ia (tt_ci 1 (tt_add (tt_iS (tt_al 0 (tt_gR 9 30 (tt_ci 8 (tt_ia (tt_is 2 (tt_al 0 (tt_ci (-1) (tt_pI 9 39 (tt_il 1 (tt_zne (B_Mo_stepOf_60) (tt_al 0 (tt_cV 9 1 Ct_Mo_fillSubs (tt_is 3 (B_Mo_stepOf_89)))))))))))))))))))))))))))
theorem S_Mo_stepOf_18 (lc lz : Nat) : Snd md_Mo_stepOf lc lz 18 (B_Mo_stepOf_18) := (snd_al_n (n := 0) (dget dd_Mo_stepOf 10 rfl) rfl (snd_gR (kn := 30) fd_Mo_76 rfl (dget dd_Mo_stepOf 11 rfl) (snd_iconst (n := 5) (dget dd_Mo_stepOf 12 rfl) (inR_d rfl) rfl (snd_ia (dget dd_Mo_stepOf 13 rfl) (snd_is_n (n := 1) (dget dd_Mo_stepOf 14 rfl) rfl (snd_al_n (n := 0) (dget dd_Mo_stepOf 15 rfl) rfl (snd_gR (kn := 30) fd_Mo_76 rfl (dget dd_Mo_stepOf 16 rfl) (snd_iconst (n := 5) (dget dd_Mo_stepOf 17 rfl) (inR_d rfl) rfl (snd_dup2 (dget dd_Mo_stepOf 18 rfl) (snd_ia (dget dd_Mo_stepOf 19 rfl) (snd_iconst (n := 1) (dget dd_Mo_stepOf 20 rfl) (inR_d rfl) rfl (snd_add (dget dd_Mo_stepOf 21 rfl) (snd_iS (dget dd_Mo_stepOf 22 rfl) (snd_al_n (n := 0) (dget dd_Mo_stepOf 23 rfl) rfl (snd_gR (kn := 30) fd_Mo_76 rfl (dget dd_Mo_stepOf 24 rfl) (snd_bipush (n := 8) (dget dd_Mo_stepOf 25 rfl) (inR_d rfl) (by decide) (snd_ia (dget dd_Mo_stepOf 26 rfl) (snd_is_n (n := 2) (dget dd_Mo_stepOf 27 rfl) rfl (snd_al_n (n := 0) (dget dd_Mo_stepOf 28 rfl) rfl (snd_iconst (n := -1) (dget dd_Mo_stepOf 29 rfl) (inR_d rfl) rfl (snd_pI (kn := 39) fd_Mo_272 rfl (dget dd_Mo_stepOf 30 rfl) (snd_il_n (n := 1) (dget dd_Mo_stepOf 31 rfl) rfl (snd_zne (tg := 60) (dget dd_Mo_stepOf 32 rfl) rfl (S_Mo_stepOf_60 lc lz) (snd_al_n (n := 0) (dget dd_Mo_stepOf 33 rfl) rfl (snd_cV (n := 0) met_Mo_fillSubs mi_Mo_fillSubs ki_Mo_fillSubs kv_Mo_fillSubs ml_Mo_295 rfl (by decide) (dget dd_Mo_stepOf 34 rfl) (snd_is_n (n := 3) (dget dd_Mo_stepOf 35 rfl) rfl (snd_goto (tg := 89) (dget dd_Mo_stepOf 36 rfl) rfl (S_Mo_stepOf_89 lc lz))))))))))))))))))))))))))))
def B_Mo_stepOf_0 : TT := (tt_al 0 (tt_gR 9 30 (tt_ci 6 (tt_ia (tt_zle (B_Mo_stepOf_18) (tt_al 0 (tt_gR 9 30 (tt_ci 6 (tt_ia tt_ir)))))))))
theorem S_Mo_stepOf_0 (lc lz : Nat) : Snd md_Mo_stepOf lc lz 0 (B_Mo_stepOf_0) := (snd_al_n (n := 0) (dget dd_Mo_stepOf 0 rfl) rfl (snd_gR (kn := 30) fd_Mo_76 rfl (dget dd_Mo_stepOf 1 rfl) (snd_bipush (n := 6) (dget dd_Mo_stepOf 2 rfl) (inR_d rfl) (by decide) (snd_ia (dget dd_Mo_stepOf 3 rfl) (snd_zle (tg := 18) (dget dd_Mo_stepOf 4 rfl) rfl (S_Mo_stepOf_18 lc lz) (snd_al_n (n := 0) (dget dd_Mo_stepOf 5 rfl) rfl (snd_gR (kn := 30) fd_Mo_76 rfl (dget dd_Mo_stepOf 6 rfl) (snd_bipush (n := 6) (dget dd_Mo_stepOf 7 rfl) (inR_d rfl) (by decide) (snd_ia (dget dd_Mo_stepOf 8 rfl) (snd_ir (dget dd_Mo_stepOf 9 rfl) rfl))))))))))
def soS (a b : Int) (c : Option PV) : LSt := [some (.inr (.inl (some pMo))), some (.inl a), some (.inl b), c]
theorem step_106 {P : TR} {I : Nat → LSt → PH → Prop} {h h1 : PH} {L Q st s f : Int} (w : MW h) (hF : Fr h h1) (hX : TX L Q h1)
    (hP : ∀ h2, Fr h h2 → TX L Q h2 → atM h2 = setS (setM (atM h1) (-1)) 6 (if f = 0 then 2 else clI L (wM h) (uM h) (atM h1)) → P (some (.inl (if f = 0 then 2 else clI L (wM h) (uM h) (atM h1)))) h2) : B_Mo_stepOf_106 I P (soS st s (some (.inl f))) [] h1 := by
  have w1 := FrP_MW hF w
  have w2 : MW (sI h1 pMo 39 (-1)) := w1
  obtain ⟨eW, eU, -⟩ := Fr_words hF
  obtain ⟨eW2, eU2, -⟩ := Fr_words (mine_Fr (h := h1) (m := -1) (FrP_refl _ h1))
  obtain ⟨x1, x2, x3, x4, x5, x6⟩ := id hX
  have sr := st_raw x3
  have X2 : TX L Q (sI h1 pMo 39 (-1)) := mine_TX hX (by omega) (by omega)
  have ec : clI L (wM (sI h1 pMo 39 (-1))) (uM (sI h1 pMo 39 (-1))) (atM (sI h1 pMo 39 (-1))) = clI L (wM h) (uM h) (atM h1) := by
    rw [eW2, eU2, eW, eU, atM_mine]
    rfl
  have fin : ∀ v, 0 ≤ v → v ≤ 2 → v = (if f = 0 then 2 else clI L (wM h) (uM h) (atM h1)) → P (some (.inl v)) (sI (sI h1 pMo 39 (-1)) pMo_state 6 v) := by
    intro v v0 v1 e
    rw [e]
    rw [e] at v0 v1
    refine hP _ (state_Fr (mine_Fr hF)) (TX_Fr X2 (state_Fr (FrP_refl _ _)) ?_ (BB_sI (by decide) (by decide) X2.2.2.2.2.2)) ?_
    · rw [atM_setS (by decide) (by decide)]
      exact WT_s6 X2.2.2.1 ⟨v0, v1⟩
    · rw [atM_setS (by decide) (by decide), atM_mine]
  unfold soS
  simp (decide := true) only [B_Mo_stepOf_0, B_Mo_stepOf_18, B_Mo_stepOf_60, B_Mo_stepOf_76, B_Mo_stepOf_84, B_Mo_stepOf_89, B_Mo_stepOf_106, B_Mo_stepOf_125, B_Mo_stepOf_136, B_Mo_stepOf_137, Ct_Mo_fillSubs, Ct_Mo_lookStep, Ct_Mo_fillRow, Ct_Mo_close, Ct_Mo_isClosed, tt_ci, tt_cl, tt_nul, tt_il, tt_al, tt_ll, tt_is, tt_as, tt_ls, tt_inc, tt_add, tt_sub, tt_mul, tt_div, tt_rem, tt_ladd, tt_lmul, tt_ldiv, tt_lrem, tt_zeq, tt_zne, tt_zlt, tt_zge, tt_zgt, tt_zle, tt_ceq, tt_cne, tt_clt, tt_cge, tt_cgt, tt_cle, tt_nn, tt_cut, tt_pop, tt_dup, tt_dup2, tt_gI, tt_gR, tt_pI, tt_pZ, tt_pR, tt_ia, tt_ba, tt_za, tt_iS, tt_bS, tt_zS, tt_aa, tt_aS, tt_len, tt_and, tt_xor, tt_shr, tt_ushr, tt_lcmp, tt_i2b, tt_i2l, tt_l2i, tt_sw, swG, tt_ir, tt_zr, tt_br, tt_lr, tt_ar, tt_vr, tt_cV, tt_cS, tt_min, tt_max, tt_acp, pI, pII, pO, pA, pIA, pIIA, pOA, pOIA, pL, pLL, pLIA, pV, pCP, lI, lO, lL, nth, stL, clL, entA, fitL, rcv, List.take_succ_cons, List.take_zero, List.drop_succ_cons, List.drop_zero, List.reverse_cons, List.reverse_nil, List.nil_append, List.cons_append, List.length_cons, List.length_nil, Option.toList_some, Option.toList_none, gI_sI, gI_sA, gR_sI, gR_sA, gI_sR, gR_sR, hN_sI, hN_sA, hN_sR, isO_sI, isO_sA, isO_sR, isAr_sI, isAr_sA, isAr_sR, hC_sI, hC_sA, hC_sR, hZ_sI, hZ_sA, hZ_sR, MW_sI, MW_sA, true_and, and_true, true_or, or_true, and_self, forall_const, imp_self, implies_true, if_true, if_false, false_and, and_false, false_or, or_false, not_false_eq_true, not_true_eq_false, sI_sI, mr_tape w1, mr_text w1, mr_words w1, mr_wordSize w1, mr_subs w1, mr_subSize w1, mr_asked w1, mr_pile w1, mr_pileSize w1, mr_opened w1, mr_openedAt w1, mr_begun w1, mr_cells w1, mr_keptCells w1, mr_name w1, mr_isLeft w1, mr_isDone w1, mr_keptLeft w1, mr_keptDone w1, mr_state w1, mr_keptState w1, mr_newOf w1, mr_oldOf w1, mr_spare w1, mr_spareDone w1, mr_out w1, mr_metFrom w1, mr_metBy w1, mr_far w1, mr_low w1, mr_lows w1, mr_lowSize w1, mr_triedRow w1, mr_triedColumn w1, mr_triedValue w1, mr_triedRows w1, mr_sheet w1, ma_tape w1, ma_text w1, ma_words w1, ma_wordSize w1, ma_subs w1, ma_subSize w1, ma_asked w1, ma_pile w1, ma_pileSize w1, ma_opened w1, ma_openedAt w1, ma_begun w1, ma_cells w1, ma_keptCells w1, ma_name w1, ma_isLeft w1, ma_isDone w1, ma_keptLeft w1, ma_keptDone w1, ma_state w1, ma_keptState w1, ma_newOf w1, ma_oldOf w1, ma_spare w1, ma_spareDone w1, ma_out w1, ma_metFrom w1, ma_metBy w1, ma_far w1, ma_low w1, ma_lows w1, ma_lowSize w1, ma_triedRow w1, ma_triedColumn w1, ma_triedValue w1, ma_triedRows w1, ma_sheet w1, ml_tape, ml_text, ml_words, ml_wordSize, ml_subs, ml_subSize, ml_asked, ml_pile, ml_pileSize, ml_opened, ml_openedAt, ml_begun, ml_cells, ml_keptCells, ml_name, ml_isLeft, ml_isDone, ml_keptLeft, ml_keptDone, ml_state, ml_keptState, ml_newOf, ml_oldOf, ml_spare, ml_spareDone, ml_out, ml_metFrom, ml_metBy, ml_far, ml_low, ml_lows, ml_lowSize, ml_triedRow, ml_triedColumn, ml_triedValue, ml_triedRows, ml_sheet, mo_O w1]
  refine ⟨fun q => ⟨w1, L, Q, X2, fun z => fin 0 (by omega) (by omega) ?_, fun z => fin 1 (by omega) (by omega) ?_⟩, fun q => fin 2 (by omega) (by omega) (by rw [if_pos q])⟩
  · rw [if_neg q, ← ec, z]
  · rw [if_neg q, ← ec]
    rcases clI_01 (L := L) (W := wM (sI h1 pMo 39 (-1))) (U := uM (sI h1 pMo 39 (-1))) (a := atM (sI h1 pMo 39 (-1))) with t | t
    · exact absurd t z
    · exact t.symm
theorem step_89 {P : TR} {I : Nat → LSt → PH → Prop} {h h1 : PH} {L Q st s f : Int} (w : MW h) (hF : Fr h h1) (hX : TX L Q h1)
    (hP : ∀ h2 b v, Fr h h2 → TX L Q h2 → b = (if f ≠ 0 ∧ 0 < st ∧ s = 2 then clA L (wM h) (uM h) (atM h1) else atM h1) → v = (if f = 0 then 2 else clI L (wM h) (uM h) b) → atM h2 = setS (setM b (-1)) 6 v → P (some (.inl v)) h2) : B_Mo_stepOf_89 I P (soS st s (some (.inl f))) [] h1 := by
  have w1 := FrP_MW hF w
  obtain ⟨eW, eU, -⟩ := Fr_words hF
  obtain ⟨x1, x2, x3, x4, x5, x6⟩ := id hX
  have no : ¬ (f ≠ 0 ∧ 0 < st ∧ s = 2) → B_Mo_stepOf_106 I P (soS st s (some (.inl f))) [] h1 := fun z => step_106 w hF hX (fun h2 g1 g2 g3 => hP h2 _ _ g1 g2 (by rw [if_neg z]) rfl g3)
  unfold soS at no ⊢
  simp (decide := true) only [B_Mo_stepOf_0, B_Mo_stepOf_18, B_Mo_stepOf_60, B_Mo_stepOf_76, B_Mo_stepOf_84, B_Mo_stepOf_89, B_Mo_stepOf_125, B_Mo_stepOf_136, B_Mo_stepOf_137, Ct_Mo_fillSubs, Ct_Mo_lookStep, Ct_Mo_fillRow, Ct_Mo_close, Ct_Mo_isClosed, tt_ci, tt_cl, tt_nul, tt_il, tt_al, tt_ll, tt_is, tt_as, tt_ls, tt_inc, tt_add, tt_sub, tt_mul, tt_div, tt_rem, tt_ladd, tt_lmul, tt_ldiv, tt_lrem, tt_zeq, tt_zne, tt_zlt, tt_zge, tt_zgt, tt_zle, tt_ceq, tt_cne, tt_clt, tt_cge, tt_cgt, tt_cle, tt_nn, tt_cut, tt_pop, tt_dup, tt_dup2, tt_gI, tt_gR, tt_pI, tt_pZ, tt_pR, tt_ia, tt_ba, tt_za, tt_iS, tt_bS, tt_zS, tt_aa, tt_aS, tt_len, tt_and, tt_xor, tt_shr, tt_ushr, tt_lcmp, tt_i2b, tt_i2l, tt_l2i, tt_sw, swG, tt_ir, tt_zr, tt_br, tt_lr, tt_ar, tt_vr, tt_cV, tt_cS, tt_min, tt_max, tt_acp, pI, pII, pO, pA, pIA, pIIA, pOA, pOIA, pL, pLL, pLIA, pV, pCP, lI, lO, lL, nth, stL, clL, entA, fitL, rcv, List.take_succ_cons, List.take_zero, List.drop_succ_cons, List.drop_zero, List.reverse_cons, List.reverse_nil, List.nil_append, List.cons_append, List.length_cons, List.length_nil, Option.toList_some, Option.toList_none, gI_sI, gI_sA, gR_sI, gR_sA, gI_sR, gR_sR, hN_sI, hN_sA, hN_sR, isO_sI, isO_sA, isO_sR, isAr_sI, isAr_sA, isAr_sR, hC_sI, hC_sA, hC_sR, hZ_sI, hZ_sA, hZ_sR, MW_sI, MW_sA, true_and, and_true, true_or, or_true, and_self, forall_const, imp_self, implies_true, if_true, if_false, false_and, and_false, false_or, or_false, not_false_eq_true, not_true_eq_false, sI_sI, mr_tape w1, mr_text w1, mr_words w1, mr_wordSize w1, mr_subs w1, mr_subSize w1, mr_asked w1, mr_pile w1, mr_pileSize w1, mr_opened w1, mr_openedAt w1, mr_begun w1, mr_cells w1, mr_keptCells w1, mr_name w1, mr_isLeft w1, mr_isDone w1, mr_keptLeft w1, mr_keptDone w1, mr_state w1, mr_keptState w1, mr_newOf w1, mr_oldOf w1, mr_spare w1, mr_spareDone w1, mr_out w1, mr_metFrom w1, mr_metBy w1, mr_far w1, mr_low w1, mr_lows w1, mr_lowSize w1, mr_triedRow w1, mr_triedColumn w1, mr_triedValue w1, mr_triedRows w1, mr_sheet w1, ma_tape w1, ma_text w1, ma_words w1, ma_wordSize w1, ma_subs w1, ma_subSize w1, ma_asked w1, ma_pile w1, ma_pileSize w1, ma_opened w1, ma_openedAt w1, ma_begun w1, ma_cells w1, ma_keptCells w1, ma_name w1, ma_isLeft w1, ma_isDone w1, ma_keptLeft w1, ma_keptDone w1, ma_state w1, ma_keptState w1, ma_newOf w1, ma_oldOf w1, ma_spare w1, ma_spareDone w1, ma_out w1, ma_metFrom w1, ma_metBy w1, ma_far w1, ma_low w1, ma_lows w1, ma_lowSize w1, ma_triedRow w1, ma_triedColumn w1, ma_triedValue w1, ma_triedRows w1, ma_sheet w1, ml_tape, ml_text, ml_words, ml_wordSize, ml_subs, ml_subSize, ml_asked, ml_pile, ml_pileSize, ml_opened, ml_openedAt, ml_begun, ml_cells, ml_keptCells, ml_name, ml_isLeft, ml_isDone, ml_keptLeft, ml_keptDone, ml_state, ml_keptState, ml_newOf, ml_oldOf, ml_spare, ml_spareDone, ml_out, ml_metFrom, ml_metBy, ml_far, ml_low, ml_lows, ml_lowSize, ml_triedRow, ml_triedColumn, ml_triedValue, ml_triedRows, ml_sheet, mo_O w1]
  refine ⟨fun q => no (fun z => z.1 q), fun q => ⟨fun q2 => no (fun z => by omega), fun q2 => ⟨fun q3 => no (fun z => q3 z.2.2), fun q3 => ⟨w1, L, Q, x1, x2, x3, x4, x5, fun h2 f1 f2 f3 f4 => ?_⟩⟩⟩⟩
  have X2 := TX_Fr hX f1 f3 (f4 x6)
  rw [eW, eU] at f2
  have := step_106 (P := P) (I := I) (st := st) (s := s) (f := f) w (FrP_trans hF f1) X2 (fun h3 g1 g2 g3 => hP h3 (atM h2) _ g1 g2 (by rw [if_pos ⟨q, by omega, q3⟩, f2]) rfl g3)
  exact this
theorem met_Mo_stepOf : MetP y_Mo_stepOf md_Mo_stepOf (fun _ => 0) (fun _ => 0) Ct_Mo_stepOf := by
  refine met0 (body := B_Mo_stepOf_0) (by decide) rfl rfl (fun lc lz => S_Mo_stepOf_0 lc lz) ?_
  intro av h post hc hH hav
  unfold Ct_Mo_stepOf at hc
  split at hc
  rotate_left
  · exact hc.elim
  rename_i t
  obtain ⟨rfl, w, L, Q, hX, h5, hp⟩ := hc
  refine ⟨Nat.le_of_ble_eq_true rfl, ?_⟩
  obtain ⟨x1, x2, x3, x4, x5, x6⟩ := id hX
  have sr := st_raw x3
  obtain ⟨h1, hh1⟩ : ∃ h1, h1 = sI (sI h pMo_state 5 (gI h pMo_state 5 + 1)) pMo 39 (-1) := ⟨_, rfl⟩
  have F1 : Fr h h1 := by rw [hh1]; exact mine_Fr (state_Fr (FrP_refl _ h))
  obtain ⟨eW, eU, -⟩ := Fr_words F1
  have A1 : atM h1 = setM (setS (atM h) 5 (aS (atM h) 5 + 1)) (-1) := by rw [hh1, atM_mine, atM_setS (by decide) (by decide), aS_atM (by decide) (by decide)]
  have X1 : TX L Q h1 := by
    refine TX_Fr hX F1 ?_ (by rw [hh1]; exact BB_sI (by decide) (by decide) (BB_sI (by decide) (by decide) x6))
    rw [A1]
    refine WT_setM (WT_s5 x3 ?_) (by omega) ?_
    · rw [aS_atM (by decide) (by decide)]; omega
    · show (-1 : Int) < aS (atM h) 0
      rw [aS_atM (by decide) (by decide)]; omega
  have w1 : MW h1 := FrP_MW F1 w
  have s5 : aS (atM h1) 5 = gI h pMo_state 5 + 1 := by rw [A1, ← aS_atM (h := h) (by decide) (by decide)]; rfl
  have s8 : aS (atM h1) 8 = gI h pMo_state 8 := by rw [A1, ← aS_atM (h := h) (by decide) (by decide)]; rfl
  have go : gI h pMo_state 6 ≤ 0 → ∀ (h2 : PH) (f : Int), Fr h h2 → TX L Q h2 → (atM h2, f) = stF L (wM h) (uM h) (atM h1) → ∀ I, B_Mo_stepOf_89 I (fun r h'' => post r h'' ∧ hC h'' = hC h ∧ hZ h'' = hZ h) (soS (gI h pMo_state 5) (gI h pMo_state 8) (some (.inl f))) [] h2 := by
    intro h6 h2 f g1 g2 g3 I
    refine step_89 w g1 g2 (fun h3 b v e1 e2 e3 e4 e5 => ?_)
    have c1 : (stF L (wM h) (uM h) (atM h1)).2 = f := by rw [← g3]
    have c2 : (stF L (wM h) (uM h) (atM h1)).1 = atM h2 := by rw [← g3]
    have eb : b = stG L (wM h) (uM h) (atM h1) := by
      rw [e3]
      unfold stG
      rw [c1, c2, s5, s8]
      by_cases z : f ≠ 0 ∧ 0 < gI h pMo_state 5 ∧ gI h pMo_state 8 = 2
      · rw [if_pos z, if_pos ⟨z.1, by omega, z.2.2⟩]
      · rw [if_neg z, if_neg (fun t => z ⟨t.1, by omega, t.2.2⟩)]
    have ev : v = stE L (wM h) (uM h) (atM h1) := by
      rw [e4, eb]
      unfold stE
      rw [c1]
    have es : stA L (wM h) (uM h) (atM h) = atM h3 := by
      unfold stA
      rw [if_neg (by rw [aS_atM (by decide) (by decide)]; omega), ← A1, e5, eb, ev]
    have := hp h3 e1 es.symm e2
    rw [es] at this
    have e6 : aS (atM h3) 6 = v := by rw [e5]; rfl
    rw [e6] at this
    exact ⟨this, e1.2.2.2.1, e1.2.2.2.2⟩
  simp (decide := true) only [B_Mo_stepOf_0, B_Mo_stepOf_18, B_Mo_stepOf_60, B_Mo_stepOf_76, B_Mo_stepOf_84, B_Mo_stepOf_106, B_Mo_stepOf_125, B_Mo_stepOf_136, B_Mo_stepOf_137, Ct_Mo_fillSubs, Ct_Mo_lookStep, Ct_Mo_fillRow, Ct_Mo_close, Ct_Mo_isClosed, tt_ci, tt_cl, tt_nul, tt_il, tt_al, tt_ll, tt_is, tt_as, tt_ls, tt_inc, tt_add, tt_sub, tt_mul, tt_div, tt_rem, tt_ladd, tt_lmul, tt_ldiv, tt_lrem, tt_zeq, tt_zne, tt_zlt, tt_zge, tt_zgt, tt_zle, tt_ceq, tt_cne, tt_clt, tt_cge, tt_cgt, tt_cle, tt_nn, tt_cut, tt_pop, tt_dup, tt_dup2, tt_gI, tt_gR, tt_pI, tt_pZ, tt_pR, tt_ia, tt_ba, tt_za, tt_iS, tt_bS, tt_zS, tt_aa, tt_aS, tt_len, tt_and, tt_xor, tt_shr, tt_ushr, tt_lcmp, tt_i2b, tt_i2l, tt_l2i, tt_sw, swG, tt_ir, tt_zr, tt_br, tt_lr, tt_ar, tt_vr, tt_cV, tt_cS, tt_min, tt_max, tt_acp, pI, pII, pO, pA, pIA, pIIA, pOA, pOIA, pL, pLL, pLIA, pV, pCP, lI, lO, lL, nth, stL, clL, entA, fitL, rcv, List.take_succ_cons, List.take_zero, List.drop_succ_cons, List.drop_zero, List.reverse_cons, List.reverse_nil, List.nil_append, List.cons_append, List.length_cons, List.length_nil, Option.toList_some, Option.toList_none, gI_sI, gI_sA, gR_sI, gR_sA, gI_sR, gR_sR, hN_sI, hN_sA, hN_sR, isO_sI, isO_sA, isO_sR, isAr_sI, isAr_sA, isAr_sR, hC_sI, hC_sA, hC_sR, hZ_sI, hZ_sA, hZ_sR, MW_sI, MW_sA, true_and, and_true, true_or, or_true, and_self, forall_const, imp_self, implies_true, if_true, if_false, false_and, and_false, false_or, or_false, not_false_eq_true, not_true_eq_false, sI_sI, mr_tape w, mr_text w, mr_words w, mr_wordSize w, mr_subs w, mr_subSize w, mr_asked w, mr_pile w, mr_pileSize w, mr_opened w, mr_openedAt w, mr_begun w, mr_cells w, mr_keptCells w, mr_name w, mr_isLeft w, mr_isDone w, mr_keptLeft w, mr_keptDone w, mr_state w, mr_keptState w, mr_newOf w, mr_oldOf w, mr_spare w, mr_spareDone w, mr_out w, mr_metFrom w, mr_metBy w, mr_far w, mr_low w, mr_lows w, mr_lowSize w, mr_triedRow w, mr_triedColumn w, mr_triedValue w, mr_triedRows w, mr_sheet w, ma_tape w, ma_text w, ma_words w, ma_wordSize w, ma_subs w, ma_subSize w, ma_asked w, ma_pile w, ma_pileSize w, ma_opened w, ma_openedAt w, ma_begun w, ma_cells w, ma_keptCells w, ma_name w, ma_isLeft w, ma_isDone w, ma_keptLeft w, ma_keptDone w, ma_state w, ma_keptState w, ma_newOf w, ma_oldOf w, ma_spare w, ma_spareDone w, ma_out w, ma_metFrom w, ma_metBy w, ma_far w, ma_low w, ma_lows w, ma_lowSize w, ma_triedRow w, ma_triedColumn w, ma_triedValue w, ma_triedRows w, ma_sheet w, ml_tape, ml_text, ml_words, ml_wordSize, ml_subs, ml_subSize, ml_asked, ml_pile, ml_pileSize, ml_opened, ml_openedAt, ml_begun, ml_cells, ml_keptCells, ml_name, ml_isLeft, ml_isDone, ml_keptLeft, ml_keptDone, ml_state, ml_keptState, ml_newOf, ml_oldOf, ml_spare, ml_spareDone, ml_out, ml_metFrom, ml_metBy, ml_far, ml_low, ml_lows, ml_lowSize, ml_triedRow, ml_triedColumn, ml_triedValue, ml_triedRows, ml_sheet, mo_O w]
  rw [← hh1]
  rw [eW, eU]
  have e5 : aS (atM h1) 5 - 1 = gI h pMo_state 5 := by omega
  have lk : gI h pMo_state 6 ≤ 0 → ¬ gI h pMo_state 5 = 0 → (gI h pMo_state 8 = 1 ∨ (gI h pMo_state 8 = 3 ∧ gI h pMo_state 5 % 2 = 0)) → ∀ (h' : PH), Fr h1 h' → atM h' = (lsA L (wM h) (uM h) (atM h1)).1 → TX L Q h' → B_Mo_stepOf_89 (fun _ _ _ => False) (fun r h'' => post r h'' ∧ hC h'' = hC h ∧ hZ h'' = hZ h) [some (.inr (.inl (some pMo))), some (.inl (gI h pMo_state 5)), some (.inl (gI h pMo_state 8)), some (.inl (lsA L (wM h) (uM h) (atM h1)).2)] [] h' := by
    intro h6 n5 z h2 g1 g2 g3
    refine go h6 h2 _ (FrP_trans F1 g1) g3 ?_ _
    unfold stF
    rw [if_neg (by omega), if_pos (by rw [s8, e5]; exact z), g2]
  have fr : gI h pMo_state 6 ≤ 0 → ¬ gI h pMo_state 5 = 0 → ¬ (gI h pMo_state 8 = 1 ∨ (gI h pMo_state 8 = 3 ∧ gI h pMo_state 5 % 2 = 0)) → ∀ (h' : PH), Fr h1 h' → atM h' = (frA L (wM h) (uM h) (atM h1)).1 → TX L Q h' → B_Mo_stepOf_89 (fun _ _ _ => False) (fun r h'' => post r h'' ∧ hC h'' = hC h ∧ hZ h'' = hZ h) [some (.inr (.inl (some pMo))), some (.inl (gI h pMo_state 5)), some (.inl (gI h pMo_state 8)), some (.inl (frA L (wM h) (uM h) (atM h1)).2)] [] h' := by
    intro h6 n5 z h2 g1 g2 g3
    refine go h6 h2 _ (FrP_trans F1 g1) g3 ?_ _
    unfold stF
    rw [if_neg (by omega), if_neg (by rw [s8, e5]; exact z), g2]
  refine ⟨fun h6 => ⟨⟨by omega, by omega⟩, fun n5 => ⟨fun q => ⟨w, L, Q, X1, lk h6 n5 (Or.inl q)⟩, fun q => ⟨fun q2 => ⟨w, L, Q, X1, fr h6 n5 (by omega)⟩, fun q2 => ⟨by omega, fun q3 => ⟨w, L, Q, X1, fr h6 n5 (by omega)⟩, fun q3 => ⟨w, L, Q, X1, lk h6 n5 (Or.inr ⟨q2, q3⟩)⟩⟩⟩⟩, fun z5 => ⟨w, L, Q, X1, fun h2 g1 g2 g3 => ?_⟩⟩, fun h6 => ?_⟩
  · refine go h6 h2 _ (FrP_trans F1 g1) g3 ?_ _
    unfold stF
    rw [if_pos (by omega), g2]
  · have es : stA L (wM h) (uM h) (atM h) = atM h := by
      unfold stA
      rw [if_pos (by rw [aS_atM (by decide) (by decide)]; omega)]
    have := hp h (FrP_refl _ h) es.symm hX
    rw [es, aS_atM (by decide) (by decide)] at this
    exact this
/-- numbers that a STEP's filling leaves -/
def nJ (j : Int) : Prop := j ≠ 0 ∧ j ≠ 1 ∧ j ≠ 2 ∧ j ≠ 3 ∧ j ≠ 4 ∧ j ≠ 7 ∧ j ≠ 10
theorem kp_look {L : Int} {a : AT} {u : List Int} {r j : Int} (h : nJ j) : aS (lookA L a u r) j = aS a j := by
  unfold lookA
  split
  · split
    · rfl
    · unfold quA
      split
      · exact aS_mel h.2.1 h.2.2.2.1 h.2.2.2.2.2.2
      · rfl
  · split <;> rfl
theorem kp_seek {L : Int} {W U : List (List Int)} {a : AT} {j : Int} (h : nJ j) : aS (seekA L W U a) j = aS a j := aS_seekA h.1 h.2.1 h.2.2.2.1 h.2.2.2.2.2.1 h.2.2.2.2.2.2
theorem kp_new {a : AT} {r c j : Int} (h : nJ j) : aS (newA a r c) j = aS a j := by
  show adS (aS a) j = aS a j
  unfold adS
  rw [if_neg h.1, if_neg h.2.1, if_neg h.2.2.1, if_neg h.2.2.2.2.1]
theorem kp_cl {L : Int} {W U : List (List Int)} {a : AT} {j : Int} (h : nJ j) : aS (clA L W U a) j = aS a j := aS_clA h.2.1 h.2.2.2.1 h.2.2.2.2.2.2
theorem kp_fill {L : Int} {W U : List (List Int)} {u : List Int} {j : Int} (h : nJ j) : ∀ (k : Nat) (a : AT), aS (fillA L W U u k a).1 j = aS a j
  | 0, a => rfl
  | k + 1, a => by
    unfold fillA
    split
    · split
      · split
        · rw [kp_fill h k]; exact kp_new h
        · split
          · rfl
          · split
            · split
              · split
                · rw [kp_fill h k]
                  exact (kp_new h).trans (kp_seek h)
                · exact kp_seek h
              · exact (kp_look h).trans (kp_seek h)
            · exact kp_seek h
      · exact kp_look h
    · rfl
theorem kp_fil {L : Int} {W U : List (List Int)} {u : List Int} {a : AT} {j : Int} (h : nJ j) : aS (filA L W U u a).1 j = aS a j := kp_fill h _ a
theorem kp_fs {L : Int} {W U : List (List Int)} {j : Int} (h : nJ j) : ∀ (l : List (List Int)) (a : AT), aS (fsA L W U l a).1 j = aS a j
  | [], a => rfl
  | u :: t, a => by
    unfold fsA
    split
    · rw [kp_fs h t, kp_fil h]; rfl
    · exact kp_fil h
theorem kp_fw {L : Int} {W U : List (List Int)} {j : Int} (h : nJ j) : ∀ (l : List (List Int)) (a : AT), aS (fwA L W U l a).1 j = aS a j
  | [], a => rfl
  | u :: t, a => by
    unfold fwA
    split
    · rw [kp_fw h t, kp_fil h]
    · exact kp_fil h
theorem kp_fc {L : Int} {W U : List (List Int)} {j : Int} (h : nJ j) : ∀ (n : Nat) (c : Int) (a : AT), aS (fcA L W U n c a).1 j = aS a j
  | 0, c, a => rfl
  | n + 1, c, a => by
    unfold fcA
    split
    · split
      · rw [kp_fc h n]; exact kp_new h
      · split
        · rfl
        · split
          · split
            · rw [kp_fc h n]
              exact (kp_new h).trans (kp_seek h)
            · exact kp_seek h
          · rw [kp_fc h n]; exact kp_seek h
    · exact kp_fc h n (c + 1) a
theorem kp_mkD {a : AT} {j : Int} : aS (mkD a) j = aS a j := by
  unfold mkD
  split <;> rfl
theorem kp_fr {L : Int} {W U : List (List Int)} {a : AT} {j : Int} (h : nJ j) : aS (frA L W U a).1 j = aS a j := by
  unfold frA
  split
  · rfl
  · split
    · rw [kp_fw h]; rfl
    · split
      · rw [kp_fc h, kp_fw h]; rfl
      · show aS (mkD _) j = _
        rw [kp_mkD, kp_fc h, kp_fw h]; rfl
theorem kp_ls {L : Int} {W U : List (List Int)} {a : AT} {j : Int} (h : nJ j) : aS (lsA L W U a).1 j = aS a j := by
  unfold lsA
  split
  · exact kp_cl h
  · split
    · exact (kp_cl h).trans (kp_new h)
    · rfl
theorem kp_stF {L : Int} {W U : List (List Int)} {a : AT} {j : Int} (h : nJ j) : aS (stF L W U a).1 j = aS a j := by
  unfold stF
  split
  · exact kp_fs h _ a
  · split
    · exact kp_ls h
    · exact kp_fr h
theorem kp_stG {L : Int} {W U : List (List Int)} {a : AT} {j : Int} (h : nJ j) : aS (stG L W U a) j = aS a j := by
  unfold stG
  split
  · exact (kp_cl h).trans (kp_stF h)
  · exact kp_stF h
theorem stA_5 {L : Int} {W U : List (List Int)} {a : AT} : aS (stA L W U a) 5 ≤ aS a 5 + 1 := by
  unfold stA
  split
  · omega
  · show aS (stG L W U (setM (setS a 5 (aS a 5 + 1)) (-1))) 5 ≤ _
    rw [kp_stG ⟨by decide, by decide, by decide, by decide, by decide, by decide, by decide⟩]
    exact Int.le_refl _
def goodH (h : PH) : PH := sI (sI (sI h pMo 4 0) pMo 1 0) pMo 2 (-1)
def noH (h : PH) (c : Int) : PH := sI (sI (sI h pMo 4 0) pMo 1 c) pMo 2 (-1)
/-- calls that leave the table -/
def Po (b : Nat) (j : Int) : Prop := b = pMo ∧ 1 ≤ j ∧ (j ≤ 4 ∧ j ≠ 3)
theorem goodH_Po {h : PH} : FrP Po h (goodH h) := FrP_sI ⟨rfl, by omega, by omega⟩ (FrP_sI ⟨rfl, by omega, by omega⟩ (FrP_sI ⟨rfl, by omega, by omega⟩ (FrP_refl _ h)))
theorem noH_Po {h : PH} {c : Int} : FrP Po h (noH h c) := FrP_sI ⟨rfl, by omega, by omega⟩ (FrP_sI ⟨rfl, by omega, by omega⟩ (FrP_sI ⟨rfl, by omega, by omega⟩ (FrP_refl _ h)))
theorem Po_at {h h' : PH} (f : FrP Po h h') : atM h' = atM h ∧ wM h' = wM h ∧ uM h' = uM h ∧ ∀ L Q, TX L Q h' ↔ TX L Q h := by
  have e : ∀ b, b ≠ pMo → gI h' b = gI h b := fun b hb => FrP_arr f (fun j z => hb z.1)
  have e0 : ∀ j, j < 1 ∨ 4 < j → gI h' pMo j = gI h pMo j := fun j hj => f.1 pMo j (fun z => by have := z.2; omega)
  have a : atM h' = atM h := by
    unfold atM
    rw [e pMo_state (by decide), e pMo_isLeft (by decide), e pMo_isDone (by decide), e pMo_cells (by decide), e0 39 (by omega)]
  refine ⟨a, ?_, ?_, fun L Q => ?_⟩
  · unfold wM
    rw [e pMo_words (by decide), e pMo_wordSize (by decide), e0 14 (by omega)]
  · unfold uM
    rw [e pMo_subs (by decide), e pMo_subSize (by decide), e0 15 (by omega)]
  · unfold TX MWd BB
    rw [a, e pMo_words (by decide), e pMo_wordSize (by decide), e0 14 (by omega), e pMo_subs (by decide), e pMo_subSize (by decide), e0 15 (by omega), e0 0 (by omega), e pMo_isLeft (by decide), e pMo_isDone (by decide)]
def Ct_Mo_step : CtT := fun av h post => match av with
  | [.inr (.inl (some t))] => t = pMo ∧ MW h ∧ (gI h pMo 32 = 0 → post (some (.inl (-1))) (noH h 5)) ∧ (gI h pMo 32 ≠ 0 → ∃ (L Q : Int), TX L Q h ∧ gI h pMo_state 5 ≤ 1000000000 ∧ ∀ h', Fr (goodH h) h' → atM h' = stA L (wM h) (uM h) (atM h) → TX L Q h' → post (some (.inl (aS (stA L (wM h) (uM h) (atM h)) 6))) h')
  | _ => False
def B_Mo_step_18 : TT := (tt_al 0 (tt_cV 9 1 Ct_Mo_good (tt_al 0 (tt_cV 9 1 Ct_Mo_stepOf tt_ir))))
theorem S_Mo_step_18 (lc lz : Nat) : Snd md_Mo_step lc lz 18 (B_Mo_step_18) := (snd_al_n (n := 0) (dget dd_Mo_step 10 rfl) rfl (snd_cV (n := 0) met_Mo_good mi_Mo_good ki_Mo_good kv_Mo_good ml_Mo_159 rfl (by decide) (dget dd_Mo_step 11 rfl) (snd_al_n (n := 0) (dget dd_Mo_step 12 rfl) rfl (snd_cV (n := 0) met_Mo_stepOf mi_Mo_stepOf ki_Mo_stepOf kv_Mo_stepOf ml_Mo_307 rfl (by decide) (dget dd_Mo_step 13 rfl) (snd_ir (dget dd_Mo_step 14 rfl) rfl)))))
def B_Mo_step_0 : TT := (tt_al 0 (tt_ci 0 (tt_pI 9 4 (tt_al 0 (tt_gI 9 32 (tt_zne (B_Mo_step_18) (tt_al 0 (tt_ci 5 (tt_cV 9 2 Ct_Mo_no tt_ir)))))))))
theorem S_Mo_step_0 (lc lz : Nat) : Snd md_Mo_step lc lz 0 (B_Mo_step_0) := (snd_al_n (n := 0) (dget dd_Mo_step 0 rfl) rfl (snd_iconst (n := 0) (dget dd_Mo_step 1 rfl) (inR_d rfl) rfl (snd_pI (kn := 4) fd_Mo_130 rfl (dget dd_Mo_step 2 rfl) (snd_al_n (n := 0) (dget dd_Mo_step 3 rfl) rfl (snd_gI (kn := 32) fd_Mo_152 rfl (dget dd_Mo_step 4 rfl) (snd_zne (tg := 18) (dget dd_Mo_step 5 rfl) rfl (S_Mo_step_18 lc lz) (snd_al_n (n := 0) (dget dd_Mo_step 6 rfl) rfl (snd_iconst (n := 5) (dget dd_Mo_step 7 rfl) (inR_d rfl) rfl (snd_cV (n := 1) met_Mo_no mi_Mo_no ki_Mo_no kv_Mo_no ml_Mo_221 rfl (by decide) (dget dd_Mo_step 8 rfl) (snd_ir (dget dd_Mo_step 9 rfl) rfl))))))))))
theorem met_Mo_step : MetP y_Mo_step md_Mo_step (fun _ => 0) (fun _ => 0) Ct_Mo_step := by
  refine met0 (body := B_Mo_step_0) (by decide) rfl rfl (fun lc lz => S_Mo_step_0 lc lz) ?_
  intro av h post hc hH hav
  unfold Ct_Mo_step at hc
  split at hc
  rotate_left
  · exact hc.elim
  rename_i t
  obtain ⟨rfl, w, hp0, hp⟩ := hc
  refine ⟨Nat.le_of_ble_eq_true rfl, ?_⟩
  simp (decide := true) only [B_Mo_step_0, B_Mo_step_18, Ct_Mo_no, Ct_Mo_good, Ct_Mo_stepOf, tt_ci, tt_cl, tt_nul, tt_il, tt_al, tt_ll, tt_is, tt_as, tt_ls, tt_inc, tt_add, tt_sub, tt_mul, tt_div, tt_rem, tt_ladd, tt_lmul, tt_ldiv, tt_lrem, tt_zeq, tt_zne, tt_zlt, tt_zge, tt_zgt, tt_zle, tt_ceq, tt_cne, tt_clt, tt_cge, tt_cgt, tt_cle, tt_nn, tt_cut, tt_pop, tt_dup, tt_dup2, tt_gI, tt_gR, tt_pI, tt_pZ, tt_pR, tt_ia, tt_ba, tt_za, tt_iS, tt_bS, tt_zS, tt_aa, tt_aS, tt_len, tt_and, tt_xor, tt_shr, tt_ushr, tt_lcmp, tt_i2b, tt_i2l, tt_l2i, tt_sw, swG, tt_ir, tt_zr, tt_br, tt_lr, tt_ar, tt_vr, tt_cV, tt_cS, tt_min, tt_max, tt_acp, pI, pII, pO, pA, pIA, pIIA, pOA, pOIA, pL, pLL, pLIA, pV, pCP, lI, lO, lL, nth, stL, clL, entA, fitL, rcv, List.take_succ_cons, List.take_zero, List.drop_succ_cons, List.drop_zero, List.reverse_cons, List.reverse_nil, List.nil_append, List.cons_append, List.length_cons, List.length_nil, Option.toList_some, Option.toList_none, gI_sI, gI_sA, gR_sI, gR_sA, gI_sR, gR_sR, hN_sI, hN_sA, hN_sR, isO_sI, isO_sA, isO_sR, isAr_sI, isAr_sA, isAr_sR, hC_sI, hC_sA, hC_sR, hZ_sI, hZ_sA, hZ_sR, MW_sI, MW_sA, true_and, and_true, true_or, or_true, and_self, forall_const, imp_self, implies_true, if_true, if_false, false_and, and_false, false_or, or_false, not_false_eq_true, not_true_eq_false, sI_sI, mr_tape w, mr_text w, mr_words w, mr_wordSize w, mr_subs w, mr_subSize w, mr_asked w, mr_pile w, mr_pileSize w, mr_opened w, mr_openedAt w, mr_begun w, mr_cells w, mr_keptCells w, mr_name w, mr_isLeft w, mr_isDone w, mr_keptLeft w, mr_keptDone w, mr_state w, mr_keptState w, mr_newOf w, mr_oldOf w, mr_spare w, mr_spareDone w, mr_out w, mr_metFrom w, mr_metBy w, mr_far w, mr_low w, mr_lows w, mr_lowSize w, mr_triedRow w, mr_triedColumn w, mr_triedValue w, mr_triedRows w, mr_sheet w, ma_tape w, ma_text w, ma_words w, ma_wordSize w, ma_subs w, ma_subSize w, ma_asked w, ma_pile w, ma_pileSize w, ma_opened w, ma_openedAt w, ma_begun w, ma_cells w, ma_keptCells w, ma_name w, ma_isLeft w, ma_isDone w, ma_keptLeft w, ma_keptDone w, ma_state w, ma_keptState w, ma_newOf w, ma_oldOf w, ma_spare w, ma_spareDone w, ma_out w, ma_metFrom w, ma_metBy w, ma_far w, ma_low w, ma_lows w, ma_lowSize w, ma_triedRow w, ma_triedColumn w, ma_triedValue w, ma_triedRows w, ma_sheet w, ml_tape, ml_text, ml_words, ml_wordSize, ml_subs, ml_subSize, ml_asked, ml_pile, ml_pileSize, ml_opened, ml_openedAt, ml_begun, ml_cells, ml_keptCells, ml_name, ml_isLeft, ml_isDone, ml_keptLeft, ml_keptDone, ml_state, ml_keptState, ml_newOf, ml_oldOf, ml_spare, ml_spareDone, ml_out, ml_metFrom, ml_metBy, ml_far, ml_low, ml_lows, ml_lowSize, ml_triedRow, ml_triedColumn, ml_triedValue, ml_triedRows, ml_sheet, mo_O w]
  refine ⟨fun q => ?_, fun q => ⟨w, hp0 q⟩⟩
  obtain ⟨L, Q, hX, h5, hp⟩ := hp q
  obtain ⟨a1, a2, a3, a4⟩ := Po_at (goodH_Po (h := h))
  refine ⟨w, w, L, Q, (a4 L Q).mpr hX, h5, fun h1 f1 f2 f3 => ?_⟩
  have f2' : atM h1 = stA L (wM (goodH h)) (uM (goodH h)) (atM (goodH h)) := f2
  rw [a1, a2, a3] at f2'
  have := hp h1 f1 f2' f3
  show post (some (.inl (aS (stA L (wM (goodH h)) (uM (goodH h)) (atM (goodH h))) 6))) h1 ∧ _
  rw [a1, a2, a3]
  exact ⟨this, f1.2.2.2.1, f1.2.2.2.2⟩
def PT (b : Nat) (j : Int) : Prop := Tb b j ∨ Po b j
def gdH (h : PH) : Prop := gI h pMo 1 = 0 ∧ gI h pMo 2 = -1 ∧ gI h pMo 4 = 0
def Ct_Mo_pack : CtT := fun av h post => match av with
  | [.inr (.inl (some t))] => t = pMo ∧ MW h ∧ (gI h pMo 32 = 0 → post (some (.inl (-1))) (noH h 5)) ∧ (gI h pMo 32 ≠ 0 → ∃ (L Q : Int), TX L Q h ∧ ∀ h', FrP PT h h' → gdH h' → atM h' = pkA (setM (atM h) (-1)) → BB h' → post (some (.inl (aS (atM h) 1))) h')
  | _ => False
def B_Mo_pack_18 : TT := (tt_al 0 (tt_ci (-1) (tt_pI 9 39 (tt_al 0 (tt_cV 9 1 Ct_Mo_packRows (tt_al 0 (tt_cV 9 1 Ct_Mo_good (tt_al 0 (tt_gR 9 30 (tt_ci 1 (tt_ia tt_ir)))))))))))
theorem S_Mo_pack_18 (lc lz : Nat) : Snd md_Mo_pack lc lz 18 (B_Mo_pack_18) := (snd_al_n (n := 0) (dget dd_Mo_pack 10 rfl) rfl (snd_iconst (n := -1) (dget dd_Mo_pack 11 rfl) (inR_d rfl) rfl (snd_pI (kn := 39) fd_Mo_272 rfl (dget dd_Mo_pack 12 rfl) (snd_al_n (n := 0) (dget dd_Mo_pack 13 rfl) rfl (snd_cV (n := 0) met_Mo_packRows mi_Mo_packRows ki_Mo_packRows kv_Mo_packRows ml_Mo_269 rfl (by decide) (dget dd_Mo_pack 14 rfl) (snd_al_n (n := 0) (dget dd_Mo_pack 15 rfl) rfl (snd_cV (n := 0) met_Mo_good mi_Mo_good ki_Mo_good kv_Mo_good ml_Mo_159 rfl (by decide) (dget dd_Mo_pack 16 rfl) (snd_al_n (n := 0) (dget dd_Mo_pack 17 rfl) rfl (snd_gR (kn := 30) fd_Mo_76 rfl (dget dd_Mo_pack 18 rfl) (snd_iconst (n := 1) (dget dd_Mo_pack 19 rfl) (inR_d rfl) rfl (snd_ia (dget dd_Mo_pack 20 rfl) (snd_ir (dget dd_Mo_pack 21 rfl) rfl))))))))))))
def B_Mo_pack_0 : TT := (tt_al 0 (tt_ci 0 (tt_pI 9 4 (tt_al 0 (tt_gI 9 32 (tt_zne (B_Mo_pack_18) (tt_al 0 (tt_ci 5 (tt_cV 9 2 Ct_Mo_no tt_ir)))))))))
theorem S_Mo_pack_0 (lc lz : Nat) : Snd md_Mo_pack lc lz 0 (B_Mo_pack_0) := (snd_al_n (n := 0) (dget dd_Mo_pack 0 rfl) rfl (snd_iconst (n := 0) (dget dd_Mo_pack 1 rfl) (inR_d rfl) rfl (snd_pI (kn := 4) fd_Mo_130 rfl (dget dd_Mo_pack 2 rfl) (snd_al_n (n := 0) (dget dd_Mo_pack 3 rfl) rfl (snd_gI (kn := 32) fd_Mo_152 rfl (dget dd_Mo_pack 4 rfl) (snd_zne (tg := 18) (dget dd_Mo_pack 5 rfl) rfl (S_Mo_pack_18 lc lz) (snd_al_n (n := 0) (dget dd_Mo_pack 6 rfl) rfl (snd_iconst (n := 5) (dget dd_Mo_pack 7 rfl) (inR_d rfl) rfl (snd_cV (n := 1) met_Mo_no mi_Mo_no ki_Mo_no kv_Mo_no ml_Mo_221 rfl (by decide) (dget dd_Mo_pack 8 rfl) (snd_ir (dget dd_Mo_pack 9 rfl) rfl))))))))))
theorem met_Mo_pack : MetP y_Mo_pack md_Mo_pack (fun _ => 0) (fun _ => 0) Ct_Mo_pack := by
  refine met0 (body := B_Mo_pack_0) (by decide) rfl rfl (fun lc lz => S_Mo_pack_0 lc lz) ?_
  intro av h post hc hH hav
  unfold Ct_Mo_pack at hc
  split at hc
  rotate_left
  · exact hc.elim
  rename_i t
  obtain ⟨rfl, w, hp0, hp⟩ := hc
  refine ⟨Nat.le_of_ble_eq_true rfl, ?_⟩
  simp (decide := true) only [B_Mo_pack_0, B_Mo_pack_18, Ct_Mo_no, Ct_Mo_packRows, Ct_Mo_good, tt_ci, tt_cl, tt_nul, tt_il, tt_al, tt_ll, tt_is, tt_as, tt_ls, tt_inc, tt_add, tt_sub, tt_mul, tt_div, tt_rem, tt_ladd, tt_lmul, tt_ldiv, tt_lrem, tt_zeq, tt_zne, tt_zlt, tt_zge, tt_zgt, tt_zle, tt_ceq, tt_cne, tt_clt, tt_cge, tt_cgt, tt_cle, tt_nn, tt_cut, tt_pop, tt_dup, tt_dup2, tt_gI, tt_gR, tt_pI, tt_pZ, tt_pR, tt_ia, tt_ba, tt_za, tt_iS, tt_bS, tt_zS, tt_aa, tt_aS, tt_len, tt_and, tt_xor, tt_shr, tt_ushr, tt_lcmp, tt_i2b, tt_i2l, tt_l2i, tt_sw, swG, tt_ir, tt_zr, tt_br, tt_lr, tt_ar, tt_vr, tt_cV, tt_cS, tt_min, tt_max, tt_acp, pI, pII, pO, pA, pIA, pIIA, pOA, pOIA, pL, pLL, pLIA, pV, pCP, lI, lO, lL, nth, stL, clL, entA, fitL, rcv, List.take_succ_cons, List.take_zero, List.drop_succ_cons, List.drop_zero, List.reverse_cons, List.reverse_nil, List.nil_append, List.cons_append, List.length_cons, List.length_nil, Option.toList_some, Option.toList_none, gI_sI, gI_sA, gR_sI, gR_sA, gI_sR, gR_sR, hN_sI, hN_sA, hN_sR, isO_sI, isO_sA, isO_sR, isAr_sI, isAr_sA, isAr_sR, hC_sI, hC_sA, hC_sR, hZ_sI, hZ_sA, hZ_sR, MW_sI, MW_sA, true_and, and_true, true_or, or_true, and_self, forall_const, imp_self, implies_true, if_true, if_false, false_and, and_false, false_or, or_false, not_false_eq_true, not_true_eq_false, sI_sI, mr_tape w, mr_text w, mr_words w, mr_wordSize w, mr_subs w, mr_subSize w, mr_asked w, mr_pile w, mr_pileSize w, mr_opened w, mr_openedAt w, mr_begun w, mr_cells w, mr_keptCells w, mr_name w, mr_isLeft w, mr_isDone w, mr_keptLeft w, mr_keptDone w, mr_state w, mr_keptState w, mr_newOf w, mr_oldOf w, mr_spare w, mr_spareDone w, mr_out w, mr_metFrom w, mr_metBy w, mr_far w, mr_low w, mr_lows w, mr_lowSize w, mr_triedRow w, mr_triedColumn w, mr_triedValue w, mr_triedRows w, mr_sheet w, ma_tape w, ma_text w, ma_words w, ma_wordSize w, ma_subs w, ma_subSize w, ma_asked w, ma_pile w, ma_pileSize w, ma_opened w, ma_openedAt w, ma_begun w, ma_cells w, ma_keptCells w, ma_name w, ma_isLeft w, ma_isDone w, ma_keptLeft w, ma_keptDone w, ma_state w, ma_keptState w, ma_newOf w, ma_oldOf w, ma_spare w, ma_spareDone w, ma_out w, ma_metFrom w, ma_metBy w, ma_far w, ma_low w, ma_lows w, ma_lowSize w, ma_triedRow w, ma_triedColumn w, ma_triedValue w, ma_triedRows w, ma_sheet w, ml_tape, ml_text, ml_words, ml_wordSize, ml_subs, ml_subSize, ml_asked, ml_pile, ml_pileSize, ml_opened, ml_openedAt, ml_begun, ml_cells, ml_keptCells, ml_name, ml_isLeft, ml_isDone, ml_keptLeft, ml_keptDone, ml_state, ml_keptState, ml_newOf, ml_oldOf, ml_spare, ml_spareDone, ml_out, ml_metFrom, ml_metBy, ml_far, ml_low, ml_lows, ml_lowSize, ml_triedRow, ml_triedColumn, ml_triedValue, ml_triedRows, ml_sheet, mo_O w]
  refine ⟨fun q => ?_, fun q => ⟨w, hp0 q⟩⟩
  obtain ⟨L, Q, hX, hp⟩ := hp q
  obtain ⟨x1, x2, x3, x4, x5, x6⟩ := id hX
  have sr := st_raw x3
  have a1 : atM (sI (sI h pMo 4 0) pMo 39 (-1)) = setM (atM h) (-1) := by rw [atM_mine, atM_sI (by decide)]
  have f0 : FrP PT h (sI (sI h pMo 4 0) pMo 39 (-1)) := FrP_sI (Or.inl (Or.inr (Or.inr (Or.inr (Or.inr (Or.inr ⟨rfl, by omega, by omega⟩)))))) (FrP_sI (Or.inr ⟨rfl, by omega, by omega⟩) (FrP_refl _ h))
  refine ⟨w, L, Q, x2, by omega, ?_, x4, BB_sI (by decide) (by decide) (BB_sI (by decide) (by decide) x6), fun h1 f1 f2 f3 => ?_⟩
  · rw [a1]
    exact WT_setM x3 (by omega) (by rw [aS_atM (by decide) (by decide)]; omega)
  · have w0 : MW (sI (sI h pMo 4 0) pMo 39 (-1)) := w
    have w1 : MW h1 := FrP_MW f1 w0
    have o1 : isO h1 pMo 9 := mo_O w1
    have e4 : gI h1 pMo 4 = 0 := by rw [Fr_fld f1 (by omega)]; simp (decide := true) only [gI_sI, if_true, if_false]
    rw [a1] at f2
    have e1 : gI h1 pMo_state 1 = aS (atM h) 1 := by rw [← aS_atM (h := h1) (by decide) (by decide), f2]; rfl
    simp (decide := true) only [B_Mo_pack_0, B_Mo_pack_18, Ct_Mo_no, Ct_Mo_packRows, Ct_Mo_good, tt_ci, tt_cl, tt_nul, tt_il, tt_al, tt_ll, tt_is, tt_as, tt_ls, tt_inc, tt_add, tt_sub, tt_mul, tt_div, tt_rem, tt_ladd, tt_lmul, tt_ldiv, tt_lrem, tt_zeq, tt_zne, tt_zlt, tt_zge, tt_zgt, tt_zle, tt_ceq, tt_cne, tt_clt, tt_cge, tt_cgt, tt_cle, tt_nn, tt_cut, tt_pop, tt_dup, tt_dup2, tt_gI, tt_gR, tt_pI, tt_pZ, tt_pR, tt_ia, tt_ba, tt_za, tt_iS, tt_bS, tt_zS, tt_aa, tt_aS, tt_len, tt_and, tt_xor, tt_shr, tt_ushr, tt_lcmp, tt_i2b, tt_i2l, tt_l2i, tt_sw, swG, tt_ir, tt_zr, tt_br, tt_lr, tt_ar, tt_vr, tt_cV, tt_cS, tt_min, tt_max, tt_acp, pI, pII, pO, pA, pIA, pIIA, pOA, pOIA, pL, pLL, pLIA, pV, pCP, lI, lO, lL, nth, stL, clL, entA, fitL, rcv, List.take_succ_cons, List.take_zero, List.drop_succ_cons, List.drop_zero, List.reverse_cons, List.reverse_nil, List.nil_append, List.cons_append, List.length_cons, List.length_nil, Option.toList_some, Option.toList_none, gI_sI, gI_sA, gR_sI, gR_sA, gI_sR, gR_sR, hN_sI, hN_sA, hN_sR, isO_sI, isO_sA, isO_sR, isAr_sI, isAr_sA, isAr_sR, hC_sI, hC_sA, hC_sR, hZ_sI, hZ_sA, hZ_sR, MW_sI, MW_sA, true_and, and_true, true_or, or_true, and_self, forall_const, imp_self, implies_true, if_true, if_false, false_and, and_false, false_or, or_false, not_false_eq_true, not_true_eq_false, sI_sI, mr_tape w1, mr_text w1, mr_words w1, mr_wordSize w1, mr_subs w1, mr_subSize w1, mr_asked w1, mr_pile w1, mr_pileSize w1, mr_opened w1, mr_openedAt w1, mr_begun w1, mr_cells w1, mr_keptCells w1, mr_name w1, mr_isLeft w1, mr_isDone w1, mr_keptLeft w1, mr_keptDone w1, mr_state w1, mr_keptState w1, mr_newOf w1, mr_oldOf w1, mr_spare w1, mr_spareDone w1, mr_out w1, mr_metFrom w1, mr_metBy w1, mr_far w1, mr_low w1, mr_lows w1, mr_lowSize w1, mr_triedRow w1, mr_triedColumn w1, mr_triedValue w1, mr_triedRows w1, mr_sheet w1, ma_tape w1, ma_text w1, ma_words w1, ma_wordSize w1, ma_subs w1, ma_subSize w1, ma_asked w1, ma_pile w1, ma_pileSize w1, ma_opened w1, ma_openedAt w1, ma_begun w1, ma_cells w1, ma_keptCells w1, ma_name w1, ma_isLeft w1, ma_isDone w1, ma_keptLeft w1, ma_keptDone w1, ma_state w1, ma_keptState w1, ma_newOf w1, ma_oldOf w1, ma_spare w1, ma_spareDone w1, ma_out w1, ma_metFrom w1, ma_metBy w1, ma_far w1, ma_low w1, ma_lows w1, ma_lowSize w1, ma_triedRow w1, ma_triedColumn w1, ma_triedValue w1, ma_triedRows w1, ma_sheet w1, ml_tape, ml_text, ml_words, ml_wordSize, ml_subs, ml_subSize, ml_asked, ml_pile, ml_pileSize, ml_opened, ml_openedAt, ml_begun, ml_cells, ml_keptCells, ml_name, ml_isLeft, ml_isDone, ml_keptLeft, ml_keptDone, ml_state, ml_keptState, ml_newOf, ml_oldOf, ml_spare, ml_spareDone, ml_out, ml_metFrom, ml_metBy, ml_far, ml_low, ml_lows, ml_lowSize, ml_triedRow, ml_triedColumn, ml_triedValue, ml_triedRows, ml_sheet, mo_O w1, o1, e1]
    refine ⟨w1, hp _ ?_ ?_ ?_ (BB_sI (by decide) (by decide) (BB_sI (by decide) (by decide) f3)), f1.2.2.2.1, f1.2.2.2.2⟩
    · exact FrP_sI (Or.inr ⟨rfl, by omega, by omega⟩) (FrP_sI (Or.inr ⟨rfl, by omega, by omega⟩) (FrP_trans f0 (FrP_mono (fun b j z => Or.inl z) f1)))
    · unfold gdH
      simp (decide := true) only [gI_sI, if_true, if_false, e4, and_self]
    · rw [atM_sI (by decide), atM_sI (by decide), f2]
def Ct_Mo_run : CtT := fun av h post => match av with
  | [.inr (.inl (some t)), .inl n] => t = pMo ∧ MW h ∧ (gI h pMo 32 = 0 → post (some (.inl (-1))) (noH h 5)) ∧ (gI h pMo 32 ≠ 0 → n < 1 ∨ 2000 < n → post (some (.inl (-1))) (noH h 1)) ∧ (gI h pMo 32 ≠ 0 → 1 ≤ n → n ≤ 2000 → ∃ (L Q : Int), TX L Q h ∧ gI h pMo_state 5 ≤ 900000000 ∧ ∀ h', Fr (goodH h) h' → atM h' = runA L (wM h) (uM h) n.toNat (atM h) → TX L Q h' → post (some (.inl (aS (runA L (wM h) (uM h) n.toNat (atM h)) 6))) h')
  | _ => False
def B_Mo_run_70 : TT := (tt_il 2 tt_ir)
theorem S_Mo_run_70 (lc lz : Nat) : Snd md_Mo_run lc lz 70 (B_Mo_run_70) := (snd_il_n (n := 2) (dget dd_Mo_run 39 rfl) rfl (snd_ir (dget dd_Mo_run 40 rfl) rfl))
def B_Mo_run_50 : TT := (tt_il 3 (tt_il 1 (tt_cge (B_Mo_run_70) (tt_il 2 (tt_zne (B_Mo_run_70) (tt_al 0 (tt_cV 9 1 Ct_Mo_stepOf (tt_is 2 (tt_inc 3 1 (tt_cut 50))))))))))
theorem S_Mo_run_50 (lc lz : Nat) : Snd md_Mo_run lc lz 50 (B_Mo_run_50) := (snd_il_n (n := 3) (dget dd_Mo_run 29 rfl) rfl (snd_il_n (n := 1) (dget dd_Mo_run 30 rfl) rfl (snd_cge (tg := 70) (dget dd_Mo_run 31 rfl) rfl (S_Mo_run_70 lc lz) (snd_il_n (n := 2) (dget dd_Mo_run 32 rfl) rfl (snd_zne (tg := 70) (dget dd_Mo_run 33 rfl) rfl (S_Mo_run_70 lc lz) (snd_al_n (n := 0) (dget dd_Mo_run 34 rfl) rfl (snd_cV (n := 0) met_Mo_stepOf mi_Mo_stepOf ki_Mo_stepOf kv_Mo_stepOf ml_Mo_307 rfl (by decide) (dget dd_Mo_run 35 rfl) (snd_is_n (n := 2) (dget dd_Mo_run 36 rfl) rfl (snd_inc (dget dd_Mo_run 37 rfl) (snd_goto (tg := 50) (dget dd_Mo_run 38 rfl) rfl snd_cut))))))))))
def B_Mo_run_36 : TT := (tt_al 0 (tt_cV 9 1 Ct_Mo_good (tt_al 0 (tt_gR 9 30 (tt_ci 6 (tt_ia (tt_is 2 (tt_ci 0 (tt_is 3 (tt_cut 50))))))))))
theorem S_Mo_run_36 (lc lz : Nat) : Snd md_Mo_run lc lz 36 (B_Mo_run_36) := (snd_al_n (n := 0) (dget dd_Mo_run 20 rfl) rfl (snd_cV (n := 0) met_Mo_good mi_Mo_good ki_Mo_good kv_Mo_good ml_Mo_159 rfl (by decide) (dget dd_Mo_run 21 rfl) (snd_al_n (n := 0) (dget dd_Mo_run 22 rfl) rfl (snd_gR (kn := 30) fd_Mo_76 rfl (dget dd_Mo_run 23 rfl) (snd_bipush (n := 6) (dget dd_Mo_run 24 rfl) (inR_d rfl) (by decide) (snd_ia (dget dd_Mo_run 25 rfl) (snd_is_n (n := 2) (dget dd_Mo_run 26 rfl) rfl (snd_iconst (n := 0) (dget dd_Mo_run 27 rfl) (inR_d rfl) rfl (snd_is_n (n := 3) (dget dd_Mo_run 28 rfl) rfl snd_cut)))))))))
def B_Mo_run_30 : TT := (tt_al 0 (tt_ci 1 (tt_cV 9 2 Ct_Mo_no tt_ir)))
theorem S_Mo_run_30 (lc lz : Nat) : Snd md_Mo_run lc lz 30 (B_Mo_run_30) := (snd_al_n (n := 0) (dget dd_Mo_run 16 rfl) rfl (snd_iconst (n := 1) (dget dd_Mo_run 17 rfl) (inR_d rfl) rfl (snd_cV (n := 1) met_Mo_no mi_Mo_no ki_Mo_no kv_Mo_no ml_Mo_221 rfl (by decide) (dget dd_Mo_run 18 rfl) (snd_ir (dget dd_Mo_run 19 rfl) rfl))))
def B_Mo_run_18 : TT := (tt_il 1 (tt_ci 1 (tt_clt (B_Mo_run_30) (tt_il 1 (tt_ci 2000 (tt_cle (B_Mo_run_36) (B_Mo_run_30)))))))
theorem S_Mo_run_18 (lc lz : Nat) : Snd md_Mo_run lc lz 18 (B_Mo_run_18) := (snd_il_n (n := 1) (dget dd_Mo_run 10 rfl) rfl (snd_iconst (n := 1) (dget dd_Mo_run 11 rfl) (inR_d rfl) rfl (snd_clt (tg := 30) (dget dd_Mo_run 12 rfl) rfl (S_Mo_run_30 lc lz) (snd_il_n (n := 1) (dget dd_Mo_run 13 rfl) rfl (snd_sipush (n := 2000) (dget dd_Mo_run 14 rfl) (inR_d rfl) (by decide) (snd_cle (tg := 36) (dget dd_Mo_run 15 rfl) rfl (S_Mo_run_36 lc lz) (S_Mo_run_30 lc lz)))))))
def B_Mo_run_0 : TT := (tt_al 0 (tt_ci 0 (tt_pI 9 4 (tt_al 0 (tt_gI 9 32 (tt_zne (B_Mo_run_18) (tt_al 0 (tt_ci 5 (tt_cV 9 2 Ct_Mo_no tt_ir)))))))))
theorem S_Mo_run_0 (lc lz : Nat) : Snd md_Mo_run lc lz 0 (B_Mo_run_0) := (snd_al_n (n := 0) (dget dd_Mo_run 0 rfl) rfl (snd_iconst (n := 0) (dget dd_Mo_run 1 rfl) (inR_d rfl) rfl (snd_pI (kn := 4) fd_Mo_130 rfl (dget dd_Mo_run 2 rfl) (snd_al_n (n := 0) (dget dd_Mo_run 3 rfl) rfl (snd_gI (kn := 32) fd_Mo_152 rfl (dget dd_Mo_run 4 rfl) (snd_zne (tg := 18) (dget dd_Mo_run 5 rfl) rfl (S_Mo_run_18 lc lz) (snd_al_n (n := 0) (dget dd_Mo_run 6 rfl) rfl (snd_iconst (n := 5) (dget dd_Mo_run 7 rfl) (inR_d rfl) rfl (snd_cV (n := 1) met_Mo_no mi_Mo_no ki_Mo_no kv_Mo_no ml_Mo_221 rfl (by decide) (dget dd_Mo_run 8 rfl) (snd_ir (dget dd_Mo_run 9 rfl) rfl))))))))))
theorem met_Mo_run : MetP y_Mo_run md_Mo_run (fun _ => 0) (fun _ => 0) Ct_Mo_run := by
  refine metL1 (body := B_Mo_run_0) (B1 := B_Mo_run_50) (by decide) rfl rfl (fun lc lz => S_Mo_run_0 lc lz) (fun lc lz => S_Mo_run_50 lc lz) ?_
  intro av h post hc hH hav
  unfold Ct_Mo_run at hc
  split at hc
  rotate_left
  · exact hc.elim
  rename_i t n
  obtain ⟨rfl, w, hp0, hp1, hp⟩ := hc
  refine ⟨Nat.le_of_ble_eq_true rfl, ?_⟩
  refine ⟨fun ls h' => gI h pMo 32 ≠ 0 ∧ 1 ≤ n ∧ n ≤ 2000 ∧ ∃ (L Q k : Int), TX L Q h ∧ ls = [some (.inr (.inl (some pMo))), some (.inl n), some (.inl (gI h' pMo_state 6)), some (.inl k)] ∧ 0 ≤ k ∧ k ≤ n ∧ Fr (goodH h) h' ∧ TX L Q h' ∧ gI h' pMo_state 5 ≤ 900000000 + k ∧ runA L (wM h) (uM h) (n - k).toNat (atM h') = runA L (wM h) (uM h) n.toNat (atM h) ∧ (∀ h', Fr (goodH h) h' → atM h' = runA L (wM h) (uM h) n.toNat (atM h) → TX L Q h' → post (some (.inl (aS (runA L (wM h) (uM h) n.toNat (atM h)) 6))) h'), fun _ ls _ => (2000 - locI ls 3).toNat, ?_, ?_⟩
  · rintro ls h1 ⟨q32, n0, n1, L, Q, k, hX, rfl, k0, k1, hF, hX1, s5, he, hp⟩
    have w1 : MW h1 := FrP_MW hF w
    simp (decide := true) only [B_Mo_run_0, B_Mo_run_18, B_Mo_run_30, B_Mo_run_36, B_Mo_run_50, B_Mo_run_70, Ct_Mo_no, Ct_Mo_good, Ct_Mo_stepOf, tt_ci, tt_cl, tt_nul, tt_il, tt_al, tt_ll, tt_is, tt_as, tt_ls, tt_inc, tt_add, tt_sub, tt_mul, tt_div, tt_rem, tt_ladd, tt_lmul, tt_ldiv, tt_lrem, tt_zeq, tt_zne, tt_zlt, tt_zge, tt_zgt, tt_zle, tt_ceq, tt_cne, tt_clt, tt_cge, tt_cgt, tt_cle, tt_nn, tt_cut, tt_pop, tt_dup, tt_dup2, tt_gI, tt_gR, tt_pI, tt_pZ, tt_pR, tt_ia, tt_ba, tt_za, tt_iS, tt_bS, tt_zS, tt_aa, tt_aS, tt_len, tt_and, tt_xor, tt_shr, tt_ushr, tt_lcmp, tt_i2b, tt_i2l, tt_l2i, tt_sw, swG, tt_ir, tt_zr, tt_br, tt_lr, tt_ar, tt_vr, tt_cV, tt_cS, tt_min, tt_max, tt_acp, pI, pII, pO, pA, pIA, pIIA, pOA, pOIA, pL, pLL, pLIA, pV, pCP, lI, lO, lL, nth, stL, clL, entA, fitL, rcv, List.take_succ_cons, List.take_zero, List.drop_succ_cons, List.drop_zero, List.reverse_cons, List.reverse_nil, List.nil_append, List.cons_append, List.length_cons, List.length_nil, Option.toList_some, Option.toList_none, gI_sI, gI_sA, gR_sI, gR_sA, gI_sR, gR_sR, hN_sI, hN_sA, hN_sR, isO_sI, isO_sA, isO_sR, isAr_sI, isAr_sA, isAr_sR, hC_sI, hC_sA, hC_sR, hZ_sI, hZ_sA, hZ_sR, MW_sI, MW_sA, true_and, and_true, true_or, or_true, and_self, forall_const, imp_self, implies_true, if_true, if_false, false_and, and_false, false_or, or_false, not_false_eq_true, not_true_eq_false, sI_sI, mr_tape w1, mr_text w1, mr_words w1, mr_wordSize w1, mr_subs w1, mr_subSize w1, mr_asked w1, mr_pile w1, mr_pileSize w1, mr_opened w1, mr_openedAt w1, mr_begun w1, mr_cells w1, mr_keptCells w1, mr_name w1, mr_isLeft w1, mr_isDone w1, mr_keptLeft w1, mr_keptDone w1, mr_state w1, mr_keptState w1, mr_newOf w1, mr_oldOf w1, mr_spare w1, mr_spareDone w1, mr_out w1, mr_metFrom w1, mr_metBy w1, mr_far w1, mr_low w1, mr_lows w1, mr_lowSize w1, mr_triedRow w1, mr_triedColumn w1, mr_triedValue w1, mr_triedRows w1, mr_sheet w1, ma_tape w1, ma_text w1, ma_words w1, ma_wordSize w1, ma_subs w1, ma_subSize w1, ma_asked w1, ma_pile w1, ma_pileSize w1, ma_opened w1, ma_openedAt w1, ma_begun w1, ma_cells w1, ma_keptCells w1, ma_name w1, ma_isLeft w1, ma_isDone w1, ma_keptLeft w1, ma_keptDone w1, ma_state w1, ma_keptState w1, ma_newOf w1, ma_oldOf w1, ma_spare w1, ma_spareDone w1, ma_out w1, ma_metFrom w1, ma_metBy w1, ma_far w1, ma_low w1, ma_lows w1, ma_lowSize w1, ma_triedRow w1, ma_triedColumn w1, ma_triedValue w1, ma_triedRows w1, ma_sheet w1, ml_tape, ml_text, ml_words, ml_wordSize, ml_subs, ml_subSize, ml_asked, ml_pile, ml_pileSize, ml_opened, ml_openedAt, ml_begun, ml_cells, ml_keptCells, ml_name, ml_isLeft, ml_isDone, ml_keptLeft, ml_keptDone, ml_state, ml_keptState, ml_newOf, ml_oldOf, ml_spare, ml_spareDone, ml_out, ml_metFrom, ml_metBy, ml_far, ml_low, ml_lows, ml_lowSize, ml_triedRow, ml_triedColumn, ml_triedValue, ml_triedRows, ml_sheet, mo_O w1, locI, nth]
    obtain ⟨a1, a2, a3, a4⟩ := Po_at (goodH_Po (h := h))
    obtain ⟨eW, eU, -⟩ := Fr_words hF
    have out : runA L (wM h) (uM h) n.toNat (atM h) = atM h1 → post (some (.inl (gI h1 pMo_state 6))) h1 ∧ hC h1 = hC h ∧ hZ h1 = hZ h := by
      intro e
      have := hp h1 hF e.symm hX1
      rw [e, aS_atM (by decide) (by decide)] at this
      exact ⟨this, hF.2.2.2.1, hF.2.2.2.2⟩
    refine ⟨fun q => out ?_, fun q => ⟨fun q2 => out ?_, fun q2 => ⟨w1, L, Q, hX1, by omega, fun h2 f1 f2 f3 => ⟨⟨by omega, by omega⟩, ⟨q32, n0, n1, L, Q, k + 1, hX, ?_, by omega, by omega, FrP_trans hF f1, f3, ?_, ?_, hp⟩, by omega⟩⟩⟩⟩
    · rw [← he, show (n - k).toNat = 0 by omega]; rfl
    · rw [← he, show (n - k).toNat = (n - k - 1).toNat + 1 by omega]
      show (if aS (atM h1) 6 = 0 then _ else _) = _
      rw [if_neg (by rw [aS_atM (by decide) (by decide)]; exact q2)]
    · rw [← f2, aS_atM (by decide) (by decide)]
    · have := stA_5 (L := L) (W := wM h1) (U := uM h1) (a := atM h1)
      rw [← f2, aS_atM (by decide) (by decide), aS_atM (by decide) (by decide)] at this
      omega
    · rw [← he, show (n - k).toNat = (n - (k + 1)).toNat + 1 by omega, f2, eW, eU, a2, a3]
      show _ = if aS (atM h1) 6 = 0 then _ else _
      rw [if_pos (by rw [aS_atM (by decide) (by decide)]; exact q2)]
  · simp (decide := true) only [B_Mo_run_0, B_Mo_run_18, B_Mo_run_30, B_Mo_run_36, B_Mo_run_50, B_Mo_run_70, Ct_Mo_no, Ct_Mo_good, Ct_Mo_stepOf, tt_ci, tt_cl, tt_nul, tt_il, tt_al, tt_ll, tt_is, tt_as, tt_ls, tt_inc, tt_add, tt_sub, tt_mul, tt_div, tt_rem, tt_ladd, tt_lmul, tt_ldiv, tt_lrem, tt_zeq, tt_zne, tt_zlt, tt_zge, tt_zgt, tt_zle, tt_ceq, tt_cne, tt_clt, tt_cge, tt_cgt, tt_cle, tt_nn, tt_cut, tt_pop, tt_dup, tt_dup2, tt_gI, tt_gR, tt_pI, tt_pZ, tt_pR, tt_ia, tt_ba, tt_za, tt_iS, tt_bS, tt_zS, tt_aa, tt_aS, tt_len, tt_and, tt_xor, tt_shr, tt_ushr, tt_lcmp, tt_i2b, tt_i2l, tt_l2i, tt_sw, swG, tt_ir, tt_zr, tt_br, tt_lr, tt_ar, tt_vr, tt_cV, tt_cS, tt_min, tt_max, tt_acp, pI, pII, pO, pA, pIA, pIIA, pOA, pOIA, pL, pLL, pLIA, pV, pCP, lI, lO, lL, nth, stL, clL, entA, fitL, rcv, List.take_succ_cons, List.take_zero, List.drop_succ_cons, List.drop_zero, List.reverse_cons, List.reverse_nil, List.nil_append, List.cons_append, List.length_cons, List.length_nil, Option.toList_some, Option.toList_none, gI_sI, gI_sA, gR_sI, gR_sA, gI_sR, gR_sR, hN_sI, hN_sA, hN_sR, isO_sI, isO_sA, isO_sR, isAr_sI, isAr_sA, isAr_sR, hC_sI, hC_sA, hC_sR, hZ_sI, hZ_sA, hZ_sR, MW_sI, MW_sA, true_and, and_true, true_or, or_true, and_self, forall_const, imp_self, implies_true, if_true, if_false, false_and, and_false, false_or, or_false, not_false_eq_true, not_true_eq_false, sI_sI, mr_tape w, mr_text w, mr_words w, mr_wordSize w, mr_subs w, mr_subSize w, mr_asked w, mr_pile w, mr_pileSize w, mr_opened w, mr_openedAt w, mr_begun w, mr_cells w, mr_keptCells w, mr_name w, mr_isLeft w, mr_isDone w, mr_keptLeft w, mr_keptDone w, mr_state w, mr_keptState w, mr_newOf w, mr_oldOf w, mr_spare w, mr_spareDone w, mr_out w, mr_metFrom w, mr_metBy w, mr_far w, mr_low w, mr_lows w, mr_lowSize w, mr_triedRow w, mr_triedColumn w, mr_triedValue w, mr_triedRows w, mr_sheet w, ma_tape w, ma_text w, ma_words w, ma_wordSize w, ma_subs w, ma_subSize w, ma_asked w, ma_pile w, ma_pileSize w, ma_opened w, ma_openedAt w, ma_begun w, ma_cells w, ma_keptCells w, ma_name w, ma_isLeft w, ma_isDone w, ma_keptLeft w, ma_keptDone w, ma_state w, ma_keptState w, ma_newOf w, ma_oldOf w, ma_spare w, ma_spareDone w, ma_out w, ma_metFrom w, ma_metBy w, ma_far w, ma_low w, ma_lows w, ma_lowSize w, ma_triedRow w, ma_triedColumn w, ma_triedValue w, ma_triedRows w, ma_sheet w, ml_tape, ml_text, ml_words, ml_wordSize, ml_subs, ml_subSize, ml_asked, ml_pile, ml_pileSize, ml_opened, ml_openedAt, ml_begun, ml_cells, ml_keptCells, ml_name, ml_isLeft, ml_isDone, ml_keptLeft, ml_keptDone, ml_state, ml_keptState, ml_newOf, ml_oldOf, ml_spare, ml_spareDone, ml_out, ml_metFrom, ml_metBy, ml_far, ml_low, ml_lows, ml_lowSize, ml_triedRow, ml_triedColumn, ml_triedValue, ml_triedRows, ml_sheet, mo_O w]
    obtain ⟨a1, a2, a3, a4⟩ := Po_at (goodH_Po (h := h))
    refine ⟨fun q => ⟨fun q1 => ⟨w, hp1 q (by omega)⟩, fun q1 => ⟨fun q2 => ?_, fun q2 => ⟨w, hp1 q (by omega)⟩⟩⟩, fun q => ⟨w, hp0 q⟩⟩
    obtain ⟨L, Q, hX, h5, hp⟩ := hp q (by omega) q2
    refine ⟨w, q, by omega, q2, L, Q, 0, hX, rfl, by omega, by omega, FrP_refl _ _, (a4 L Q).mpr hX, by omega, ?_, hp⟩
    have e : atM (sI (sI (sI h pMo 4 0) pMo 1 0) pMo 2 (-1)) = atM h := a1
    rw [e, show n - 0 = n by omega]
