/-! THE MODEL: what is asked of the table -/
def Ct_Mo_lead : CtT := fun av h post => match av with
  | [.inr (.inl (some a)), .inl r] => a = pMo ∧ MW h ∧ gI h pMo_state 0 ≤ 2000 ∧
      (¬ (gI h pMo 32 ≠ 0 ∧ 0 ≤ r ∧ r < gI h pMo_state 0 ∧ gI h pMo_isLeft r ≠ 0) → post (some (.inl (-1))) (sI h pMo 4 0)) ∧
      (gI h pMo 32 ≠ 0 ∧ 0 ≤ r ∧ r < gI h pMo_state 0 ∧ gI h pMo_isLeft r ≠ 0 → ∃ (P : Int → Prop) (L : Int) (n : Nat), P r ∧ clo h P L ∧ L ≤ 10 ∧ gI h pMo 16 = n ∧ n ≤ 40 ∧ (∀ k, 0 ≤ k → k < (n : Int) → 0 ≤ gI h pMo_asked k ∧ gI h pMo_asked k < L) ∧ post (some (.inl (fwd (gI h pMo_cells) (gI h pMo_asked) 0 n r))) (sI h pMo 4 0))
  | _ => False
theorem sI_cells {h : PH} {k v : Int} : gI (sI h pMo k v) pMo_cells = gI h pMo_cells := by funext j; simp (decide := true) only [gI_sI, false_and, if_false]
theorem sI_asked {h : PH} {k v : Int} : gI (sI h pMo k v) pMo_asked = gI h pMo_asked := by funext j; simp (decide := true) only [gI_sI, false_and, if_false]
theorem clo_sI {h : PH} {k v : Int} {P : Int → Prop} {L : Int} : clo (sI h pMo k v) P L ↔ clo h P L := by unfold clo; rw [sI_cells]
def B_Mo_lead_22 : TT := tt_ir
theorem S_Mo_lead_22 (lc lz : Nat) : Snd md_Mo_lead lc lz 22 (B_Mo_lead_22) := (snd_ir (dget dd_Mo_lead 12 rfl) rfl)
def B_Mo_lead_21 : TT := (tt_ci (-1) (B_Mo_lead_22))
theorem S_Mo_lead_21 (lc lz : Nat) : Snd md_Mo_lead lc lz 21 (B_Mo_lead_21) := (snd_iconst (n := -1) (dget dd_Mo_lead 11 rfl) (inR_d rfl) rfl (S_Mo_lead_22 lc lz))
def B_Mo_lead_0 : TT := (tt_al 0 (tt_ci 0 (tt_pI 9 4 (tt_al 0 (tt_il 1 (tt_cV 9 2 Ct_Mo_isRow (tt_zeq (B_Mo_lead_21) (tt_al 0 (tt_il 1 (tt_cV 9 2 Ct_Mo_leadFrom (B_Mo_lead_22)))))))))))
theorem S_Mo_lead_0 (lc lz : Nat) : Snd md_Mo_lead lc lz 0 (B_Mo_lead_0) := (snd_al_n (n := 0) (dget dd_Mo_lead 0 rfl) rfl (snd_iconst (n := 0) (dget dd_Mo_lead 1 rfl) (inR_d rfl) rfl (snd_pI (kn := 4) fd_Mo_130 rfl (dget dd_Mo_lead 2 rfl) (snd_al_n (n := 0) (dget dd_Mo_lead 3 rfl) rfl (snd_il_n (n := 1) (dget dd_Mo_lead 4 rfl) rfl (snd_cV (n := 1) met_Mo_isRow mi_Mo_isRow ki_Mo_isRow kv_Mo_isRow ml_Mo_320 rfl (by decide) (dget dd_Mo_lead 5 rfl) (snd_zeq (tg := 21) (dget dd_Mo_lead 6 rfl) rfl (S_Mo_lead_21 lc lz) (snd_al_n (n := 0) (dget dd_Mo_lead 7 rfl) rfl (snd_il_n (n := 1) (dget dd_Mo_lead 8 rfl) rfl (snd_cV (n := 1) met_Mo_leadFrom mi_Mo_leadFrom ki_Mo_leadFrom kv_Mo_leadFrom ml_Mo_323 rfl (by decide) (dget dd_Mo_lead 9 rfl) (snd_goto (tg := 22) (dget dd_Mo_lead 10 rfl) rfl (S_Mo_lead_22 lc lz))))))))))))
theorem met_Mo_lead : MetP y_Mo_lead md_Mo_lead (fun _ => 0) (fun _ => 0) Ct_Mo_lead := by
  refine met0 (body := B_Mo_lead_0) (by decide) rfl rfl (fun lc lz => S_Mo_lead_0 lc lz) ?_
  intro av h post hc hH hav
  unfold Ct_Mo_lead at hc
  split at hc
  rotate_left
  · exact hc.elim
  rename_i a r
  obtain ⟨rfl, w, h0, hp, hq⟩ := hc
  refine ⟨Nat.le_of_ble_eq_true rfl, ?_⟩
  simp (decide := true) only [B_Mo_lead_0, B_Mo_lead_21, B_Mo_lead_22, Ct_Mo_isRow, Ct_Mo_leadFrom, tt_ci, tt_cl, tt_nul, tt_il, tt_al, tt_ll, tt_is, tt_as, tt_ls, tt_inc, tt_add, tt_sub, tt_mul, tt_div, tt_rem, tt_ladd, tt_lmul, tt_ldiv, tt_lrem, tt_zeq, tt_zne, tt_zlt, tt_zge, tt_zgt, tt_zle, tt_ceq, tt_cne, tt_clt, tt_cge, tt_cgt, tt_cle, tt_nn, tt_cut, tt_pop, tt_dup, tt_dup2, tt_gI, tt_gR, tt_pI, tt_pZ, tt_pR, tt_ia, tt_ba, tt_za, tt_iS, tt_bS, tt_zS, tt_aa, tt_aS, tt_len, tt_and, tt_xor, tt_shr, tt_ushr, tt_lcmp, tt_i2b, tt_i2l, tt_l2i, tt_sw, swG, tt_ir, tt_zr, tt_br, tt_lr, tt_ar, tt_vr, tt_cV, tt_cS, tt_min, tt_max, tt_acp, pI, pII, pO, pA, pIA, pIIA, pOA, pOIA, pL, pLL, pLIA, pV, pCP, lI, lO, lL, nth, stL, clL, entA, fitL, rcv, List.take_succ_cons, List.take_zero, List.drop_succ_cons, List.drop_zero, List.reverse_cons, List.reverse_nil, List.nil_append, List.cons_append, List.length_cons, List.length_nil, Option.toList_some, Option.toList_none, gI_sI, gI_sA, gR_sI, gR_sA, gI_sR, gR_sR, hN_sI, hN_sA, hN_sR, isO_sI, isO_sA, isO_sR, isAr_sI, isAr_sA, isAr_sR, hC_sI, hC_sA, hC_sR, hZ_sI, hZ_sA, hZ_sR, MW_sI, MW_sA, true_and, and_true, true_or, or_true, and_self, forall_const, imp_self, implies_true, if_true, if_false, false_and, and_false, false_or, or_false, not_false_eq_true, not_true_eq_false, sI_sI, mr_tape w, mr_text w, mr_words w, mr_wordSize w, mr_subs w, mr_subSize w, mr_asked w, mr_pile w, mr_pileSize w, mr_opened w, mr_openedAt w, mr_begun w, mr_cells w, mr_keptCells w, mr_name w, mr_isLeft w, mr_isDone w, mr_keptLeft w, mr_keptDone w, mr_state w, mr_keptState w, mr_newOf w, mr_oldOf w, mr_spare w, mr_spareDone w, mr_out w, mr_metFrom w, mr_metBy w, mr_far w, mr_low w, mr_lows w, mr_lowSize w, mr_triedRow w, mr_triedColumn w, mr_triedValue w, mr_triedRows w, mr_sheet w, ma_tape w, ma_text w, ma_words w, ma_wordSize w, ma_subs w, ma_subSize w, ma_asked w, ma_pile w, ma_pileSize w, ma_opened w, ma_openedAt w, ma_begun w, ma_cells w, ma_keptCells w, ma_name w, ma_isLeft w, ma_isDone w, ma_keptLeft w, ma_keptDone w, ma_state w, ma_keptState w, ma_newOf w, ma_oldOf w, ma_spare w, ma_spareDone w, ma_out w, ma_metFrom w, ma_metBy w, ma_far w, ma_low w, ma_lows w, ma_lowSize w, ma_triedRow w, ma_triedColumn w, ma_triedValue w, ma_triedRows w, ma_sheet w, ml_tape, ml_text, ml_words, ml_wordSize, ml_subs, ml_subSize, ml_asked, ml_pile, ml_pileSize, ml_opened, ml_openedAt, ml_begun, ml_cells, ml_keptCells, ml_name, ml_isLeft, ml_isDone, ml_keptLeft, ml_keptDone, ml_state, ml_keptState, ml_newOf, ml_oldOf, ml_spare, ml_spareDone, ml_out, ml_metFrom, ml_metBy, ml_far, ml_low, ml_lows, ml_lowSize, ml_triedRow, ml_triedColumn, ml_triedValue, ml_triedRows, ml_sheet, mo_O w]
  by_cases q : gI h pMo 32 ≠ 0 ∧ 0 ≤ r ∧ r < gI h pMo_state 0 ∧ gI h pMo_isLeft r ≠ 0
  · obtain ⟨P, L, n, a1, a2, a3, a4, a5, a6, a7⟩ := hq q
    simp only [if_pos q]
    refine ⟨w, h0, fun z => by omega, fun _ => ⟨w, P, L, n, a1, clo_sI.mpr a2, a3, a4, a5, a6, ?_⟩⟩
    rw [sI_cells, sI_asked]
    exact a7
  · simp only [if_neg q]
    exact ⟨w, h0, fun _ => hp q, fun z => absurd trivial z⟩
def Ct_Mo_within : CtT := fun av h post => match av with
  | [.inr (.inl (some a))] => a = pMo ∧ MW h ∧ (gI h pMo 32 = 0 → post (some (.inl (-1))) (sI h pMo 4 0)) ∧
      (gI h pMo 32 ≠ 0 → ∃ (P : Int → Prop) (L : Int) (n : Nat), P 0 ∧ clo h P L ∧ L ≤ 10 ∧ gI h pMo 16 = n ∧ n ≤ 40 ∧ (∀ k, 0 ≤ k → k < (n : Int) → 0 ≤ gI h pMo_asked k ∧ gI h pMo_asked k < L) ∧ post (some (.inl (if fwd (gI h pMo_cells) (gI h pMo_asked) 0 n 0 = 0 then 1 else if gI h pMo_state 6 = 1 then 0 else -2))) (sI h pMo 4 0))
  | _ => False
def B_Mo_within_39 : TT := tt_ir
theorem S_Mo_within_39 (lc lz : Nat) : Snd md_Mo_within lc lz 39 (B_Mo_within_39) := (snd_ir (dget dd_Mo_within 20 rfl) rfl)
def B_Mo_within_37 : TT := (tt_ci (-2) (B_Mo_within_39))
theorem S_Mo_within_37 (lc lz : Nat) : Snd md_Mo_within lc lz 37 (B_Mo_within_37) := (snd_bipush (n := -2) (dget dd_Mo_within 19 rfl) (inR_d rfl) (by decide) (S_Mo_within_39 lc lz))
def B_Mo_within_26 : TT := (tt_al 0 (tt_cV 9 1 Ct_Mo_isWhole (tt_zeq (B_Mo_within_37) (tt_ci 0 (B_Mo_within_39)))))
theorem S_Mo_within_26 (lc lz : Nat) : Snd md_Mo_within lc lz 26 (B_Mo_within_26) := (snd_al_n (n := 0) (dget dd_Mo_within 14 rfl) rfl (snd_cV (n := 0) met_Mo_isWhole mi_Mo_isWhole ki_Mo_isWhole kv_Mo_isWhole ml_Mo_310 rfl (by decide) (dget dd_Mo_within 15 rfl) (snd_zeq (tg := 37) (dget dd_Mo_within 16 rfl) rfl (S_Mo_within_37 lc lz) (snd_iconst (n := 0) (dget dd_Mo_within 17 rfl) (inR_d rfl) rfl (snd_goto (tg := 39) (dget dd_Mo_within 18 rfl) rfl (S_Mo_within_39 lc lz))))))
def B_Mo_within_14 : TT := (tt_al 0 (tt_ci 0 (tt_cV 9 2 Ct_Mo_leadFrom (tt_zne (B_Mo_within_26) (tt_ci 1 (B_Mo_within_39))))))
theorem S_Mo_within_14 (lc lz : Nat) : Snd md_Mo_within lc lz 14 (B_Mo_within_14) := (snd_al_n (n := 0) (dget dd_Mo_within 8 rfl) rfl (snd_iconst (n := 0) (dget dd_Mo_within 9 rfl) (inR_d rfl) rfl (snd_cV (n := 1) met_Mo_leadFrom mi_Mo_leadFrom ki_Mo_leadFrom kv_Mo_leadFrom ml_Mo_323 rfl (by decide) (dget dd_Mo_within 10 rfl) (snd_zne (tg := 26) (dget dd_Mo_within 11 rfl) rfl (S_Mo_within_26 lc lz) (snd_iconst (n := 1) (dget dd_Mo_within 12 rfl) (inR_d rfl) rfl (snd_goto (tg := 39) (dget dd_Mo_within 13 rfl) rfl (S_Mo_within_39 lc lz)))))))
def B_Mo_within_0 : TT := (tt_al 0 (tt_ci 0 (tt_pI 9 4 (tt_al 0 (tt_gI 9 32 (tt_zne (B_Mo_within_14) (tt_ci (-1) tt_ir)))))))
theorem S_Mo_within_0 (lc lz : Nat) : Snd md_Mo_within lc lz 0 (B_Mo_within_0) := (snd_al_n (n := 0) (dget dd_Mo_within 0 rfl) rfl (snd_iconst (n := 0) (dget dd_Mo_within 1 rfl) (inR_d rfl) rfl (snd_pI (kn := 4) fd_Mo_130 rfl (dget dd_Mo_within 2 rfl) (snd_al_n (n := 0) (dget dd_Mo_within 3 rfl) rfl (snd_gI (kn := 32) fd_Mo_152 rfl (dget dd_Mo_within 4 rfl) (snd_zne (tg := 14) (dget dd_Mo_within 5 rfl) rfl (S_Mo_within_14 lc lz) (snd_iconst (n := -1) (dget dd_Mo_within 6 rfl) (inR_d rfl) rfl (snd_ir (dget dd_Mo_within 7 rfl) rfl))))))))
theorem met_Mo_within : MetP y_Mo_within md_Mo_within (fun _ => 0) (fun _ => 0) Ct_Mo_within := by
  refine met0 (body := B_Mo_within_0) (by decide) rfl rfl (fun lc lz => S_Mo_within_0 lc lz) ?_
  intro av h post hc hH hav
  unfold Ct_Mo_within at hc
  split at hc
  rotate_left
  · exact hc.elim
  rename_i a
  obtain ⟨rfl, w, hp, hq⟩ := hc
  refine ⟨Nat.le_of_ble_eq_true rfl, ?_⟩
  simp (decide := true) only [B_Mo_within_0, B_Mo_within_14, B_Mo_within_26, B_Mo_within_37, B_Mo_within_39, Ct_Mo_leadFrom, Ct_Mo_isWhole, tt_ci, tt_cl, tt_nul, tt_il, tt_al, tt_ll, tt_is, tt_as, tt_ls, tt_inc, tt_add, tt_sub, tt_mul, tt_div, tt_rem, tt_ladd, tt_lmul, tt_ldiv, tt_lrem, tt_zeq, tt_zne, tt_zlt, tt_zge, tt_zgt, tt_zle, tt_ceq, tt_cne, tt_clt, tt_cge, tt_cgt, tt_cle, tt_nn, tt_cut, tt_pop, tt_dup, tt_dup2, tt_gI, tt_gR, tt_pI, tt_pZ, tt_pR, tt_ia, tt_ba, tt_za, tt_iS, tt_bS, tt_zS, tt_aa, tt_aS, tt_len, tt_and, tt_xor, tt_shr, tt_ushr, tt_lcmp, tt_i2b, tt_i2l, tt_l2i, tt_sw, swG, tt_ir, tt_zr, tt_br, tt_lr, tt_ar, tt_vr, tt_cV, tt_cS, tt_min, tt_max, tt_acp, pI, pII, pO, pA, pIA, pIIA, pOA, pOIA, pL, pLL, pLIA, pV, pCP, lI, lO, lL, nth, stL, clL, entA, fitL, rcv, List.take_succ_cons, List.take_zero, List.drop_succ_cons, List.drop_zero, List.reverse_cons, List.reverse_nil, List.nil_append, List.cons_append, List.length_cons, List.length_nil, Option.toList_some, Option.toList_none, gI_sI, gI_sA, gR_sI, gR_sA, gI_sR, gR_sR, hN_sI, hN_sA, hN_sR, isO_sI, isO_sA, isO_sR, isAr_sI, isAr_sA, isAr_sR, hC_sI, hC_sA, hC_sR, hZ_sI, hZ_sA, hZ_sR, MW_sI, MW_sA, true_and, and_true, true_or, or_true, and_self, forall_const, imp_self, implies_true, if_true, if_false, false_and, and_false, false_or, or_false, not_false_eq_true, not_true_eq_false, sI_sI, mr_tape w, mr_text w, mr_words w, mr_wordSize w, mr_subs w, mr_subSize w, mr_asked w, mr_pile w, mr_pileSize w, mr_opened w, mr_openedAt w, mr_begun w, mr_cells w, mr_keptCells w, mr_name w, mr_isLeft w, mr_isDone w, mr_keptLeft w, mr_keptDone w, mr_state w, mr_keptState w, mr_newOf w, mr_oldOf w, mr_spare w, mr_spareDone w, mr_out w, mr_metFrom w, mr_metBy w, mr_far w, mr_low w, mr_lows w, mr_lowSize w, mr_triedRow w, mr_triedColumn w, mr_triedValue w, mr_triedRows w, mr_sheet w, ma_tape w, ma_text w, ma_words w, ma_wordSize w, ma_subs w, ma_subSize w, ma_asked w, ma_pile w, ma_pileSize w, ma_opened w, ma_openedAt w, ma_begun w, ma_cells w, ma_keptCells w, ma_name w, ma_isLeft w, ma_isDone w, ma_keptLeft w, ma_keptDone w, ma_state w, ma_keptState w, ma_newOf w, ma_oldOf w, ma_spare w, ma_spareDone w, ma_out w, ma_metFrom w, ma_metBy w, ma_far w, ma_low w, ma_lows w, ma_lowSize w, ma_triedRow w, ma_triedColumn w, ma_triedValue w, ma_triedRows w, ma_sheet w, ml_tape, ml_text, ml_words, ml_wordSize, ml_subs, ml_subSize, ml_asked, ml_pile, ml_pileSize, ml_opened, ml_openedAt, ml_begun, ml_cells, ml_keptCells, ml_name, ml_isLeft, ml_isDone, ml_keptLeft, ml_keptDone, ml_state, ml_keptState, ml_newOf, ml_oldOf, ml_spare, ml_spareDone, ml_out, ml_metFrom, ml_metBy, ml_far, ml_low, ml_lows, ml_lowSize, ml_triedRow, ml_triedColumn, ml_triedValue, ml_triedRows, ml_sheet, mo_O w]
  refine ⟨fun q => ?_, fun q => hp q⟩
  obtain ⟨P, L, n, a1, a2, a3, a4, a5, a6, a7⟩ := hq q
  refine ⟨w, P, L, n, a1, clo_sI.mpr a2, a3, a4, a5, a6, ?_⟩
  rw [sI_cells, sI_asked]
  grind
/-- how many of the first n are not 0 -/
def cnN (f : Int → Int) : Nat → Nat
  | 0 => 0
  | n + 1 => cnN f n + (if f n ≠ 0 then 1 else 0)
theorem cnN_le {f : Int → Int} {m n : Nat} (h : m ≤ n) : cnN f m ≤ cnN f n := by
  induction n with
  | zero => rw [Nat.le_zero.mp h]; exact Nat.le_refl _
  | succ n ih =>
    by_cases e : m = n + 1
    · rw [e]; exact Nat.le_refl _
    · have := ih (by omega)
      show cnN f m ≤ cnN f n + _
      omega
def rowAt (f : Int → Int) (N : Nat) (i v : Int) : Prop := (∃ r : Nat, r < N ∧ f r ≠ 0 ∧ (cnN f r : Int) = i ∧ v = r) ∨ ((i < 0 ∨ (cnN f N : Int) ≤ i) ∧ v = -1)
def Ct_Mo_row : CtT := fun av h post => match av with
  | [.inr (.inl (some a)), .inl i] => a = pMo ∧ MW h ∧ (gI h pMo 32 = 0 → post (some (.inl (-1))) (sI h pMo 4 0)) ∧ (gI h pMo 32 ≠ 0 → ∃ N : Nat, gI h pMo_state 0 = N ∧ N ≤ 2000 ∧ ∀ v, rowAt (gI h pMo_isLeft) N i v → post (some (.inl v)) (sI h pMo 4 0))
  | _ => False
def B_Mo_row_59 : TT := (tt_ci (-1) tt_ir)
theorem S_Mo_row_59 (lc lz : Nat) : Snd md_Mo_row lc lz 59 (B_Mo_row_59) := (snd_iconst (n := -1) (dget dd_Mo_row 33 rfl) (inR_d rfl) rfl (snd_ir (dget dd_Mo_row 34 rfl) rfl))
def B_Mo_row_53 : TT := (tt_inc 3 1 (tt_cut 18))
theorem S_Mo_row_53 (lc lz : Nat) : Snd md_Mo_row lc lz 53 (B_Mo_row_53) := (snd_inc (dget dd_Mo_row 31 rfl) (snd_goto (tg := 18) (dget dd_Mo_row 32 rfl) rfl snd_cut))
def B_Mo_row_50 : TT := (tt_inc 2 (-1) (B_Mo_row_53))
theorem S_Mo_row_50 (lc lz : Nat) : Snd md_Mo_row lc lz 50 (B_Mo_row_50) := (snd_inc (dget dd_Mo_row 30 rfl) (S_Mo_row_53 lc lz))
def B_Mo_row_44 : TT := (tt_il 2 (tt_zne (B_Mo_row_50) (tt_il 3 tt_ir)))
theorem S_Mo_row_44 (lc lz : Nat) : Snd md_Mo_row lc lz 44 (B_Mo_row_44) := (snd_il_n (n := 2) (dget dd_Mo_row 26 rfl) rfl (snd_zne (tg := 50) (dget dd_Mo_row 27 rfl) rfl (S_Mo_row_50 lc lz) (snd_il_n (n := 3) (dget dd_Mo_row 28 rfl) rfl (snd_ir (dget dd_Mo_row 29 rfl) rfl))))
def B_Mo_row_18 : TT := (tt_il 3 (tt_al 0 (tt_gR 9 30 (tt_ci 0 (tt_ia (tt_cge (B_Mo_row_59) (tt_il 2 (tt_zlt (B_Mo_row_59) (tt_al 0 (tt_gR 9 26 (tt_il 3 (tt_za (tt_zne (B_Mo_row_44) (B_Mo_row_53))))))))))))))
theorem S_Mo_row_18 (lc lz : Nat) : Snd md_Mo_row lc lz 18 (B_Mo_row_18) := (snd_il_n (n := 3) (dget dd_Mo_row 12 rfl) rfl (snd_al_n (n := 0) (dget dd_Mo_row 13 rfl) rfl (snd_gR (kn := 30) fd_Mo_76 rfl (dget dd_Mo_row 14 rfl) (snd_iconst (n := 0) (dget dd_Mo_row 15 rfl) (inR_d rfl) rfl (snd_ia (dget dd_Mo_row 16 rfl) (snd_cge (tg := 59) (dget dd_Mo_row 17 rfl) rfl (S_Mo_row_59 lc lz) (snd_il_n (n := 2) (dget dd_Mo_row 18 rfl) rfl (snd_zlt (tg := 59) (dget dd_Mo_row 19 rfl) rfl (S_Mo_row_59 lc lz) (snd_al_n (n := 0) (dget dd_Mo_row 20 rfl) rfl (snd_gR (kn := 26) fd_Mo_63 rfl (dget dd_Mo_row 21 rfl) (snd_il_n (n := 3) (dget dd_Mo_row 22 rfl) rfl (snd_za (dget dd_Mo_row 23 rfl) (snd_zne (tg := 44) (dget dd_Mo_row 24 rfl) rfl (S_Mo_row_44 lc lz) (snd_goto (tg := 53) (dget dd_Mo_row 25 rfl) rfl (S_Mo_row_53 lc lz)))))))))))))))
def B_Mo_row_14 : TT := (tt_il 1 (tt_is 2 (tt_ci 0 (tt_is 3 (tt_cut 18)))))
theorem S_Mo_row_14 (lc lz : Nat) : Snd md_Mo_row lc lz 14 (B_Mo_row_14) := (snd_il_n (n := 1) (dget dd_Mo_row 8 rfl) rfl (snd_is_n (n := 2) (dget dd_Mo_row 9 rfl) rfl (snd_iconst (n := 0) (dget dd_Mo_row 10 rfl) (inR_d rfl) rfl (snd_is_n (n := 3) (dget dd_Mo_row 11 rfl) rfl snd_cut))))
def B_Mo_row_0 : TT := (tt_al 0 (tt_ci 0 (tt_pI 9 4 (tt_al 0 (tt_gI 9 32 (tt_zne (B_Mo_row_14) (tt_ci (-1) tt_ir)))))))
theorem S_Mo_row_0 (lc lz : Nat) : Snd md_Mo_row lc lz 0 (B_Mo_row_0) := (snd_al_n (n := 0) (dget dd_Mo_row 0 rfl) rfl (snd_iconst (n := 0) (dget dd_Mo_row 1 rfl) (inR_d rfl) rfl (snd_pI (kn := 4) fd_Mo_130 rfl (dget dd_Mo_row 2 rfl) (snd_al_n (n := 0) (dget dd_Mo_row 3 rfl) rfl (snd_gI (kn := 32) fd_Mo_152 rfl (dget dd_Mo_row 4 rfl) (snd_zne (tg := 14) (dget dd_Mo_row 5 rfl) rfl (S_Mo_row_14 lc lz) (snd_iconst (n := -1) (dget dd_Mo_row 6 rfl) (inR_d rfl) rfl (snd_ir (dget dd_Mo_row 7 rfl) rfl))))))))
theorem met_Mo_row : MetP y_Mo_row md_Mo_row (fun _ => 0) (fun _ => 0) Ct_Mo_row := by
  refine metL1 (body := B_Mo_row_0) (B1 := B_Mo_row_18) (by decide) rfl rfl (fun lc lz => S_Mo_row_0 lc lz) (fun lc lz => S_Mo_row_18 lc lz) ?_
  intro av h post hc hH hav
  unfold Ct_Mo_row at hc
  split at hc
  rotate_left
  · exact hc.elim
  rename_i a i
  obtain ⟨rfl, w, hp, hq⟩ := hc
  refine ⟨Nat.le_of_ble_eq_true rfl, ?_⟩
  have hir : inR i := hav (.inl i) (by simp)
  refine ⟨fun ls h' => h' = sI h pMo 4 0 ∧ gI h pMo 32 ≠ 0 ∧ ∃ (N k : Nat) (n : Int), ls = [some (.inr (.inl (some pMo))), some (.inl i), some (.inl n), some (.inl k)] ∧ gI h pMo_state 0 = N ∧ N ≤ 2000 ∧ k ≤ N ∧ n = i - cnN (gI h pMo_isLeft) k ∧ -1 ≤ n + (if i < 0 then -i else 0) ∧ (0 ≤ i → 0 ≤ n) ∧ ∀ v, rowAt (gI h pMo_isLeft) N i v → post (some (.inl v)) (sI h pMo 4 0), fun _ ls _ => (2000 - locI ls 3).toNat, ?_, ?_⟩
  · rintro ls h' ⟨rfl, h32, N, k, n, rfl, hN, hN2, hk, hn, hn1, hn2, hv⟩
    simp (decide := true) only [B_Mo_row_0, B_Mo_row_14, B_Mo_row_18, B_Mo_row_44, B_Mo_row_50, B_Mo_row_53, B_Mo_row_59, tt_ci, tt_cl, tt_nul, tt_il, tt_al, tt_ll, tt_is, tt_as, tt_ls, tt_inc, tt_add, tt_sub, tt_mul, tt_div, tt_rem, tt_ladd, tt_lmul, tt_ldiv, tt_lrem, tt_zeq, tt_zne, tt_zlt, tt_zge, tt_zgt, tt_zle, tt_ceq, tt_cne, tt_clt, tt_cge, tt_cgt, tt_cle, tt_nn, tt_cut, tt_pop, tt_dup, tt_dup2, tt_gI, tt_gR, tt_pI, tt_pZ, tt_pR, tt_ia, tt_ba, tt_za, tt_iS, tt_bS, tt_zS, tt_aa, tt_aS, tt_len, tt_and, tt_xor, tt_shr, tt_ushr, tt_lcmp, tt_i2b, tt_i2l, tt_l2i, tt_sw, swG, tt_ir, tt_zr, tt_br, tt_lr, tt_ar, tt_vr, tt_cV, tt_cS, tt_min, tt_max, tt_acp, pI, pII, pO, pA, pIA, pIIA, pOA, pOIA, pL, pLL, pLIA, pV, pCP, lI, lO, lL, nth, stL, clL, entA, fitL, rcv, List.take_succ_cons, List.take_zero, List.drop_succ_cons, List.drop_zero, List.reverse_cons, List.reverse_nil, List.nil_append, List.cons_append, List.length_cons, List.length_nil, Option.toList_some, Option.toList_none, gI_sI, gI_sA, gR_sI, gR_sA, gI_sR, gR_sR, hN_sI, hN_sA, hN_sR, isO_sI, isO_sA, isO_sR, isAr_sI, isAr_sA, isAr_sR, hC_sI, hC_sA, hC_sR, hZ_sI, hZ_sA, hZ_sR, MW_sI, MW_sA, true_and, and_true, true_or, or_true, and_self, forall_const, imp_self, implies_true, if_true, if_false, false_and, and_false, false_or, or_false, not_false_eq_true, not_true_eq_false, sI_sI, mr_tape w, mr_text w, mr_words w, mr_wordSize w, mr_subs w, mr_subSize w, mr_asked w, mr_pile w, mr_pileSize w, mr_opened w, mr_openedAt w, mr_begun w, mr_cells w, mr_keptCells w, mr_name w, mr_isLeft w, mr_isDone w, mr_keptLeft w, mr_keptDone w, mr_state w, mr_keptState w, mr_newOf w, mr_oldOf w, mr_spare w, mr_spareDone w, mr_out w, mr_metFrom w, mr_metBy w, mr_far w, mr_low w, mr_lows w, mr_lowSize w, mr_triedRow w, mr_triedColumn w, mr_triedValue w, mr_triedRows w, mr_sheet w, ma_tape w, ma_text w, ma_words w, ma_wordSize w, ma_subs w, ma_subSize w, ma_asked w, ma_pile w, ma_pileSize w, ma_opened w, ma_openedAt w, ma_begun w, ma_cells w, ma_keptCells w, ma_name w, ma_isLeft w, ma_isDone w, ma_keptLeft w, ma_keptDone w, ma_state w, ma_keptState w, ma_newOf w, ma_oldOf w, ma_spare w, ma_spareDone w, ma_out w, ma_metFrom w, ma_metBy w, ma_far w, ma_low w, ma_lows w, ma_lowSize w, ma_triedRow w, ma_triedColumn w, ma_triedValue w, ma_triedRows w, ma_sheet w, ml_tape, ml_text, ml_words, ml_wordSize, ml_subs, ml_subSize, ml_asked, ml_pile, ml_pileSize, ml_opened, ml_openedAt, ml_begun, ml_cells, ml_keptCells, ml_name, ml_isLeft, ml_isDone, ml_keptLeft, ml_keptDone, ml_state, ml_keptState, ml_newOf, ml_oldOf, ml_spare, ml_spareDone, ml_out, ml_metFrom, ml_metBy, ml_far, ml_low, ml_lows, ml_lowSize, ml_triedRow, ml_triedColumn, ml_triedValue, ml_triedRows, ml_sheet, mo_O w, locI, nth, hN]
    have r1 : inR ((k : Int) + 1) := ⟨by omega, by omega⟩
    refine ⟨fun q => ?_, fun q => ⟨fun q2 => ?_, fun q2 => ⟨by omega, by omega, fun q3 => ⟨fun q4 => ?_, fun q4 => ?_⟩, fun q3 => ⟨r1, ?_, by omega⟩⟩⟩⟩
    · refine hv _ (Or.inr ⟨?_, rfl⟩)
      have e : k = N := by omega
      rw [e] at hn
      by_cases z : i < 0
      · exact Or.inl z
      · right
        have := hn2 (by omega)
        omega
    · refine hv _ (Or.inr ⟨?_, rfl⟩)
      by_cases z : i < 0
      · exact Or.inl z
      · exact absurd (hn2 (by omega)) (by omega)
    · have hcn : cnN (gI h pMo_isLeft) (k + 1) = cnN (gI h pMo_isLeft) k + 1 := by
        show cnN _ k + (if _ then 1 else 0) = _
        rw [if_pos q3]
      refine ⟨⟨by have := hir.1; omega, by have := hir.2; omega⟩, r1, ⟨h32, N, k + 1, _, rfl, rfl, hN2, by omega, by rw [hcn]; push_cast; omega, by split <;> omega, by omega, hv⟩, by omega⟩
    · exact hv _ (Or.inl ⟨k, by omega, q3, by omega, rfl⟩)
    · have hcn : cnN (gI h pMo_isLeft) (k + 1) = cnN (gI h pMo_isLeft) k := by
        show cnN _ k + (if _ then 1 else 0) = _
        rw [if_neg (by simpa using q3)]
        rfl
      exact ⟨h32, N, k + 1, _, rfl, rfl, hN2, by omega, by rw [hcn]; exact hn, hn1, hn2, hv⟩
  · simp (decide := true) only [B_Mo_row_0, B_Mo_row_14, B_Mo_row_18, B_Mo_row_44, B_Mo_row_50, B_Mo_row_53, B_Mo_row_59, tt_ci, tt_cl, tt_nul, tt_il, tt_al, tt_ll, tt_is, tt_as, tt_ls, tt_inc, tt_add, tt_sub, tt_mul, tt_div, tt_rem, tt_ladd, tt_lmul, tt_ldiv, tt_lrem, tt_zeq, tt_zne, tt_zlt, tt_zge, tt_zgt, tt_zle, tt_ceq, tt_cne, tt_clt, tt_cge, tt_cgt, tt_cle, tt_nn, tt_cut, tt_pop, tt_dup, tt_dup2, tt_gI, tt_gR, tt_pI, tt_pZ, tt_pR, tt_ia, tt_ba, tt_za, tt_iS, tt_bS, tt_zS, tt_aa, tt_aS, tt_len, tt_and, tt_xor, tt_shr, tt_ushr, tt_lcmp, tt_i2b, tt_i2l, tt_l2i, tt_sw, swG, tt_ir, tt_zr, tt_br, tt_lr, tt_ar, tt_vr, tt_cV, tt_cS, tt_min, tt_max, tt_acp, pI, pII, pO, pA, pIA, pIIA, pOA, pOIA, pL, pLL, pLIA, pV, pCP, lI, lO, lL, nth, stL, clL, entA, fitL, rcv, List.take_succ_cons, List.take_zero, List.drop_succ_cons, List.drop_zero, List.reverse_cons, List.reverse_nil, List.nil_append, List.cons_append, List.length_cons, List.length_nil, Option.toList_some, Option.toList_none, gI_sI, gI_sA, gR_sI, gR_sA, gI_sR, gR_sR, hN_sI, hN_sA, hN_sR, isO_sI, isO_sA, isO_sR, isAr_sI, isAr_sA, isAr_sR, hC_sI, hC_sA, hC_sR, hZ_sI, hZ_sA, hZ_sR, MW_sI, MW_sA, true_and, and_true, true_or, or_true, and_self, forall_const, imp_self, implies_true, if_true, if_false, false_and, and_false, false_or, or_false, not_false_eq_true, not_true_eq_false, sI_sI, mr_tape w, mr_text w, mr_words w, mr_wordSize w, mr_subs w, mr_subSize w, mr_asked w, mr_pile w, mr_pileSize w, mr_opened w, mr_openedAt w, mr_begun w, mr_cells w, mr_keptCells w, mr_name w, mr_isLeft w, mr_isDone w, mr_keptLeft w, mr_keptDone w, mr_state w, mr_keptState w, mr_newOf w, mr_oldOf w, mr_spare w, mr_spareDone w, mr_out w, mr_metFrom w, mr_metBy w, mr_far w, mr_low w, mr_lows w, mr_lowSize w, mr_triedRow w, mr_triedColumn w, mr_triedValue w, mr_triedRows w, mr_sheet w, ma_tape w, ma_text w, ma_words w, ma_wordSize w, ma_subs w, ma_subSize w, ma_asked w, ma_pile w, ma_pileSize w, ma_opened w, ma_openedAt w, ma_begun w, ma_cells w, ma_keptCells w, ma_name w, ma_isLeft w, ma_isDone w, ma_keptLeft w, ma_keptDone w, ma_state w, ma_keptState w, ma_newOf w, ma_oldOf w, ma_spare w, ma_spareDone w, ma_out w, ma_metFrom w, ma_metBy w, ma_far w, ma_low w, ma_lows w, ma_lowSize w, ma_triedRow w, ma_triedColumn w, ma_triedValue w, ma_triedRows w, ma_sheet w, ml_tape, ml_text, ml_words, ml_wordSize, ml_subs, ml_subSize, ml_asked, ml_pile, ml_pileSize, ml_opened, ml_openedAt, ml_begun, ml_cells, ml_keptCells, ml_name, ml_isLeft, ml_isDone, ml_keptLeft, ml_keptDone, ml_state, ml_keptState, ml_newOf, ml_oldOf, ml_spare, ml_spareDone, ml_out, ml_metFrom, ml_metBy, ml_far, ml_low, ml_lows, ml_lowSize, ml_triedRow, ml_triedColumn, ml_triedValue, ml_triedRows, ml_sheet, mo_O w]
    refine ⟨fun q => ?_, fun q => hp q⟩
    obtain ⟨N, a1, a2, a3⟩ := hq q
    exact ⟨q, N, 0, i, rfl, a1, a2, by omega, by show i = i - ((0 : Nat) : Int); omega, by split <;> omega, by omega, a3⟩
