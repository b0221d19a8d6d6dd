/-! THE MODEL: cycles, power -/
def Ct_Mo_cycles : CtT := fun av h post => match av with
  | [.inr (.inl (some t)), .inl e, .inl l] => t = pMo ∧ MW h ∧ (¬ (gI h pMo 32 ≠ 0 ∧ gI h pMo_state 6 = 1) ∨ e < 0 ∨ gI h pMo 0 ≤ e → post (some (.inl (-1))) (noH h 6)) ∧ (gI h pMo 32 ≠ 0 ∧ gI h pMo_state 6 = 1 → 0 ≤ e → e < gI h pMo 0 → ∃ (L Q : Int), TX L Q h ∧ FU L (atM h) ∧ post (some (.inl (ccV (aV (atM h)) (fun r => aE (atM h) r (2 * e)) (aN (atM h)) l))) (goodH h))
  | _ => False
def B_Mo_cycles_139 : TT := (tt_il 3 (tt_il 2 (tt_div tt_ir)))
theorem S_Mo_cycles_139 (lc lz : Nat) : Snd md_Mo_cycles lc lz 139 (B_Mo_cycles_139) := (snd_il_n (n := 3) (dget dd_Mo_cycles 79 rfl) rfl (snd_il_n (n := 2) (dget dd_Mo_cycles 80 rfl) rfl (snd_div (dget dd_Mo_cycles 81 rfl) (snd_ir (dget dd_Mo_cycles 82 rfl) rfl))))
def B_Mo_cycles_133 : TT := (tt_inc 4 1 (tt_cut 47))
theorem S_Mo_cycles_133 (lc lz : Nat) : Snd md_Mo_cycles lc lz 133 (B_Mo_cycles_133) := (snd_inc (dget dd_Mo_cycles 77 rfl) (snd_goto (tg := 47) (dget dd_Mo_cycles 78 rfl) rfl snd_cut))
def B_Mo_cycles_131 : TT := (tt_add (tt_is 3 (B_Mo_cycles_133)))
theorem S_Mo_cycles_131 (lc lz : Nat) : Snd md_Mo_cycles lc lz 131 (B_Mo_cycles_131) := (snd_add (dget dd_Mo_cycles 75 rfl) (snd_is_n (n := 3) (dget dd_Mo_cycles 76 rfl) rfl (S_Mo_cycles_133 lc lz)))
def B_Mo_cycles_130 : TT := (tt_ci 0 (B_Mo_cycles_131))
theorem S_Mo_cycles_130 (lc lz : Nat) : Snd md_Mo_cycles lc lz 130 (B_Mo_cycles_130) := (snd_iconst (n := 0) (dget dd_Mo_cycles 74 rfl) (inR_d rfl) rfl (S_Mo_cycles_131 lc lz))
def B_Mo_cycles_119 : TT := (tt_il 3 (tt_il 5 (tt_il 2 (tt_cne (B_Mo_cycles_130) (tt_ci 1 (B_Mo_cycles_131))))))
theorem S_Mo_cycles_119 (lc lz : Nat) : Snd md_Mo_cycles lc lz 119 (B_Mo_cycles_119) := (snd_il_n (n := 3) (dget dd_Mo_cycles 68 rfl) rfl (snd_il (dget dd_Mo_cycles 69 rfl) (snd_il_n (n := 2) (dget dd_Mo_cycles 70 rfl) rfl (snd_cne (tg := 130) (dget dd_Mo_cycles 71 rfl) rfl (S_Mo_cycles_130 lc lz) (snd_iconst (n := 1) (dget dd_Mo_cycles 72 rfl) (inR_d rfl) rfl (snd_goto (tg := 131) (dget dd_Mo_cycles 73 rfl) rfl (S_Mo_cycles_131 lc lz)))))))
def B_Mo_cycles_90 : TT := (tt_il 6 (tt_il 4 (tt_ceq (B_Mo_cycles_119) (tt_inc 5 1 (tt_al 0 (tt_gR 9 23 (tt_ci 10 (tt_il 6 (tt_mul (tt_ci 2 (tt_il 1 (tt_mul (tt_add (tt_ia (tt_is 6 (tt_cut 90))))))))))))))))
theorem S_Mo_cycles_90 (lc lz : Nat) : Snd md_Mo_cycles lc lz 90 (B_Mo_cycles_90) := (snd_il (dget dd_Mo_cycles 52 rfl) (snd_il (dget dd_Mo_cycles 53 rfl) (snd_ceq (tg := 119) (dget dd_Mo_cycles 54 rfl) rfl (S_Mo_cycles_119 lc lz) (snd_inc (dget dd_Mo_cycles 55 rfl) (snd_al_n (n := 0) (dget dd_Mo_cycles 56 rfl) rfl (snd_gR (kn := 23) fd_Mo_54 rfl (dget dd_Mo_cycles 57 rfl) (snd_bipush (n := 10) (dget dd_Mo_cycles 58 rfl) (inR_d rfl) (by decide) (snd_il (dget dd_Mo_cycles 59 rfl) (snd_mul (dget dd_Mo_cycles 60 rfl) (snd_iconst (n := 2) (dget dd_Mo_cycles 61 rfl) (inR_d rfl) rfl (snd_il_n (n := 1) (dget dd_Mo_cycles 62 rfl) rfl (snd_mul (dget dd_Mo_cycles 63 rfl) (snd_add (dget dd_Mo_cycles 64 rfl) (snd_ia (dget dd_Mo_cycles 65 rfl) (snd_is (dget dd_Mo_cycles 66 rfl) (snd_goto (tg := 90) (dget dd_Mo_cycles 67 rfl) rfl snd_cut))))))))))))))))
def B_Mo_cycles_71 : TT := (tt_ci 1 (tt_is 5 (tt_al 0 (tt_gR 9 23 (tt_ci 10 (tt_il 4 (tt_mul (tt_ci 2 (tt_il 1 (tt_mul (tt_add (tt_ia (tt_is 6 (tt_cut 90))))))))))))))
theorem S_Mo_cycles_71 (lc lz : Nat) : Snd md_Mo_cycles lc lz 71 (B_Mo_cycles_71) := (snd_iconst (n := 1) (dget dd_Mo_cycles 39 rfl) (inR_d rfl) rfl (snd_is (dget dd_Mo_cycles 40 rfl) (snd_al_n (n := 0) (dget dd_Mo_cycles 41 rfl) rfl (snd_gR (kn := 23) fd_Mo_54 rfl (dget dd_Mo_cycles 42 rfl) (snd_bipush (n := 10) (dget dd_Mo_cycles 43 rfl) (inR_d rfl) (by decide) (snd_il (dget dd_Mo_cycles 44 rfl) (snd_mul (dget dd_Mo_cycles 45 rfl) (snd_iconst (n := 2) (dget dd_Mo_cycles 46 rfl) (inR_d rfl) rfl (snd_il_n (n := 1) (dget dd_Mo_cycles 47 rfl) rfl (snd_mul (dget dd_Mo_cycles 48 rfl) (snd_add (dget dd_Mo_cycles 49 rfl) (snd_ia (dget dd_Mo_cycles 50 rfl) (snd_is (dget dd_Mo_cycles 51 rfl) snd_cut)))))))))))))
def B_Mo_cycles_47 : TT := (tt_il 4 (tt_al 0 (tt_gR 9 30 (tt_ci 0 (tt_ia (tt_cge (B_Mo_cycles_139) (tt_al 0 (tt_gR 9 26 (tt_il 4 (tt_za (tt_zne (B_Mo_cycles_71) (B_Mo_cycles_133))))))))))))
theorem S_Mo_cycles_47 (lc lz : Nat) : Snd md_Mo_cycles lc lz 47 (B_Mo_cycles_47) := (snd_il (dget dd_Mo_cycles 27 rfl) (snd_al_n (n := 0) (dget dd_Mo_cycles 28 rfl) rfl (snd_gR (kn := 30) fd_Mo_76 rfl (dget dd_Mo_cycles 29 rfl) (snd_iconst (n := 0) (dget dd_Mo_cycles 30 rfl) (inR_d rfl) rfl (snd_ia (dget dd_Mo_cycles 31 rfl) (snd_cge (tg := 139) (dget dd_Mo_cycles 32 rfl) rfl (S_Mo_cycles_139 lc lz) (snd_al_n (n := 0) (dget dd_Mo_cycles 33 rfl) rfl (snd_gR (kn := 26) fd_Mo_63 rfl (dget dd_Mo_cycles 34 rfl) (snd_il (dget dd_Mo_cycles 35 rfl) (snd_za (dget dd_Mo_cycles 36 rfl) (snd_zne (tg := 71) (dget dd_Mo_cycles 37 rfl) rfl (S_Mo_cycles_71 lc lz) (snd_goto (tg := 133) (dget dd_Mo_cycles 38 rfl) rfl (S_Mo_cycles_133 lc lz)))))))))))))
def B_Mo_cycles_42 : TT := (tt_ci 0 (tt_is 3 (tt_ci 0 (tt_is 4 (tt_cut 47)))))
theorem S_Mo_cycles_42 (lc lz : Nat) : Snd md_Mo_cycles lc lz 42 (B_Mo_cycles_42) := (snd_iconst (n := 0) (dget dd_Mo_cycles 23 rfl) (inR_d rfl) rfl (snd_is_n (n := 3) (dget dd_Mo_cycles 24 rfl) rfl (snd_iconst (n := 0) (dget dd_Mo_cycles 25 rfl) (inR_d rfl) rfl (snd_is (dget dd_Mo_cycles 26 rfl) snd_cut))))
def B_Mo_cycles_31 : TT := (tt_al 0 (tt_cV 9 1 Ct_Mo_good (tt_il 2 (tt_ci 1 (tt_cge (B_Mo_cycles_42) (tt_ci 0 tt_ir))))))
theorem S_Mo_cycles_31 (lc lz : Nat) : Snd md_Mo_cycles lc lz 31 (B_Mo_cycles_31) := (snd_al_n (n := 0) (dget dd_Mo_cycles 16 rfl) rfl (snd_cV (n := 0) met_Mo_good mi_Mo_good ki_Mo_good kv_Mo_good ml_Mo_159 rfl (by decide) (dget dd_Mo_cycles 17 rfl) (snd_il_n (n := 2) (dget dd_Mo_cycles 18 rfl) rfl (snd_iconst (n := 1) (dget dd_Mo_cycles 19 rfl) (inR_d rfl) rfl (snd_cge (tg := 42) (dget dd_Mo_cycles 20 rfl) rfl (S_Mo_cycles_42 lc lz) (snd_iconst (n := 0) (dget dd_Mo_cycles 21 rfl) (inR_d rfl) rfl (snd_ir (dget dd_Mo_cycles 22 rfl) rfl)))))))
def B_Mo_cycles_24 : TT := (tt_al 0 (tt_ci 6 (tt_cV 9 2 Ct_Mo_no tt_ir)))
theorem S_Mo_cycles_24 (lc lz : Nat) : Snd md_Mo_cycles lc lz 24 (B_Mo_cycles_24) := (snd_al_n (n := 0) (dget dd_Mo_cycles 12 rfl) rfl (snd_bipush (n := 6) (dget dd_Mo_cycles 13 rfl) (inR_d rfl) (by decide) (snd_cV (n := 1) met_Mo_no mi_Mo_no ki_Mo_no kv_Mo_no ml_Mo_221 rfl (by decide) (dget dd_Mo_cycles 14 rfl) (snd_ir (dget dd_Mo_cycles 15 rfl) rfl))))
def B_Mo_cycles_0 : TT := (tt_al 0 (tt_ci 0 (tt_pI 9 4 (tt_al 0 (tt_cV 9 1 Ct_Mo_isWhole (tt_zeq (B_Mo_cycles_24) (tt_il 1 (tt_zlt (B_Mo_cycles_24) (tt_il 1 (tt_al 0 (tt_gI 9 0 (tt_clt (B_Mo_cycles_31) (B_Mo_cycles_24)))))))))))))
theorem S_Mo_cycles_0 (lc lz : Nat) : Snd md_Mo_cycles lc lz 0 (B_Mo_cycles_0) := (snd_al_n (n := 0) (dget dd_Mo_cycles 0 rfl) rfl (snd_iconst (n := 0) (dget dd_Mo_cycles 1 rfl) (inR_d rfl) rfl (snd_pI (kn := 4) fd_Mo_130 rfl (dget dd_Mo_cycles 2 rfl) (snd_al_n (n := 0) (dget dd_Mo_cycles 3 rfl) rfl (snd_cV (n := 0) met_Mo_isWhole mi_Mo_isWhole ki_Mo_isWhole kv_Mo_isWhole ml_Mo_310 rfl (by decide) (dget dd_Mo_cycles 4 rfl) (snd_zeq (tg := 24) (dget dd_Mo_cycles 5 rfl) rfl (S_Mo_cycles_24 lc lz) (snd_il_n (n := 1) (dget dd_Mo_cycles 6 rfl) rfl (snd_zlt (tg := 24) (dget dd_Mo_cycles 7 rfl) rfl (S_Mo_cycles_24 lc lz) (snd_il_n (n := 1) (dget dd_Mo_cycles 8 rfl) rfl (snd_al_n (n := 0) (dget dd_Mo_cycles 9 rfl) rfl (snd_gI (kn := 0) fd_Mo_7 rfl (dget dd_Mo_cycles 10 rfl) (snd_clt (tg := 31) (dget dd_Mo_cycles 11 rfl) rfl (S_Mo_cycles_31 lc lz) (S_Mo_cycles_24 lc lz)))))))))))))
def muY (pc : Nat) (ls : LSt) (_ : PH) : Nat := if pc = 47 then (800000 - 400 * locI ls 4).toNat else (800000 - 400 * locI ls 4 - 1 - locI ls 5).toNat
theorem muY_47 {ls : LSt} {h' : PH} : muY 47 ls h' = (800000 - 400 * locI ls 4).toNat := by unfold muY; rw [if_pos rfl]
theorem muY_90 {ls : LSt} {h' : PH} : muY 90 ls h' = (800000 - 400 * locI ls 4 - 1 - locI ls 5).toNat := by unfold muY; rw [if_neg (by decide)]
theorem arY1 {k c : Int} (h0 : 0 ≤ k) (h1 : k < 2000) (h2 : 0 ≤ c) (h3 : c ≤ 300) : (800000 - 400 * (k + 1)).toNat < (800000 - 400 * k - 1 - c).toNat := by omega
theorem arY2 {k c : Int} (h0 : 0 ≤ k) (h1 : k < 2000) (h2 : 0 ≤ c) (h3 : c < 300) : (800000 - 400 * k - 1 - (c + 1)).toNat < (800000 - 400 * k - 1 - c).toNat := by omega
theorem arY3 {k c : Int} (h0 : 0 ≤ k) (h1 : k < 2000) (h2 : 0 ≤ c) (h3 : c ≤ 300) : (800000 - 400 * k - 1 - c).toNat < (800000 - 400 * k).toNat := by omega
theorem arY4 {k : Int} (h0 : 0 ≤ k) (h1 : k < 2000) : (800000 - 400 * (k + 1)).toNat < (800000 - 400 * k).toNat := by omega
theorem met_Mo_cycles : MetP y_Mo_cycles md_Mo_cycles (fun _ => 0) (fun _ => 0) Ct_Mo_cycles := by
  refine metL2 (body := B_Mo_cycles_0) (B1 := B_Mo_cycles_47) (B2 := B_Mo_cycles_90) (by decide) rfl rfl (fun lc lz => S_Mo_cycles_0 lc lz) (fun lc lz => S_Mo_cycles_47 lc lz) (fun lc lz => S_Mo_cycles_90 lc lz) (by decide) ?_
  intro av h post hc hH hav
  unfold Ct_Mo_cycles at hc
  split at hc
  rotate_left
  · exact hc.elim
  rename_i t e l
  obtain ⟨rfl, w, hp0, hp⟩ := hc
  refine ⟨Nat.le_of_ble_eq_true rfl, ?_⟩
  obtain ⟨mu, hmu⟩ : ∃ mu, mu = muY := ⟨_, rfl⟩
  by_cases hwh : (gI h pMo 32 ≠ 0 ∧ gI h pMo_state 6 = 1) ∧ 0 ≤ e ∧ e < gI h pMo 0
  rotate_left
  · refine ⟨fun _ _ => False, fun _ _ => False, mu, fun _ _ z => z.elim, fun _ _ z => z.elim, ?_⟩
    simp (decide := true) only [B_Mo_cycles_0, B_Mo_cycles_24, B_Mo_cycles_31, B_Mo_cycles_42, B_Mo_cycles_47, B_Mo_cycles_71, B_Mo_cycles_90, B_Mo_cycles_119, B_Mo_cycles_130, B_Mo_cycles_131, B_Mo_cycles_133, B_Mo_cycles_139, Ct_Mo_isWhole, Ct_Mo_no, Ct_Mo_good, tt_ci, tt_cl, tt_nul, tt_il, tt_al, tt_ll, tt_is, tt_as, tt_ls, tt_inc, tt_add, tt_sub, tt_mul, tt_div, tt_rem, tt_ladd, tt_lmul, tt_ldiv, tt_lrem, tt_zeq, tt_zne, tt_zlt, tt_zge, tt_zgt, tt_zle, tt_ceq, tt_cne, tt_clt, tt_cge, tt_cgt, tt_cle, tt_nn, tt_cut, tt_pop, tt_dup, tt_dup2, tt_gI, tt_gR, tt_pI, tt_pZ, tt_pR, tt_ia, tt_ba, tt_za, tt_iS, tt_bS, tt_zS, tt_aa, tt_aS, tt_len, tt_and, tt_xor, tt_shr, tt_ushr, tt_lcmp, tt_i2b, tt_i2l, tt_l2i, tt_sw, swG, tt_ir, tt_zr, tt_br, tt_lr, tt_ar, tt_vr, tt_cV, tt_cS, tt_min, tt_max, tt_acp, pI, pII, pO, pA, pIA, pIIA, pOA, pOIA, pL, pLL, pLIA, pV, pCP, lI, lO, lL, nth, stL, clL, entA, fitL, rcv, List.take_succ_cons, List.take_zero, List.drop_succ_cons, List.drop_zero, List.reverse_cons, List.reverse_nil, List.nil_append, List.cons_append, List.length_cons, List.length_nil, Option.toList_some, Option.toList_none, gI_sI, gI_sA, gR_sI, gR_sA, gI_sR, gR_sR, hN_sI, hN_sA, hN_sR, isO_sI, isO_sA, isO_sR, isAr_sI, isAr_sA, isAr_sR, hC_sI, hC_sA, hC_sR, hZ_sI, hZ_sA, hZ_sR, MW_sI, MW_sA, true_and, and_true, true_or, or_true, and_self, forall_const, imp_self, implies_true, if_true, if_false, false_and, and_false, false_or, or_false, not_false_eq_true, not_true_eq_false, sI_sI, mr_tape w, mr_text w, mr_words w, mr_wordSize w, mr_subs w, mr_subSize w, mr_asked w, mr_pile w, mr_pileSize w, mr_opened w, mr_openedAt w, mr_begun w, mr_cells w, mr_keptCells w, mr_name w, mr_isLeft w, mr_isDone w, mr_keptLeft w, mr_keptDone w, mr_state w, mr_keptState w, mr_newOf w, mr_oldOf w, mr_spare w, mr_spareDone w, mr_out w, mr_metFrom w, mr_metBy w, mr_far w, mr_low w, mr_lows w, mr_lowSize w, mr_triedRow w, mr_triedColumn w, mr_triedValue w, mr_triedRows w, mr_sheet w, ma_tape w, ma_text w, ma_words w, ma_wordSize w, ma_subs w, ma_subSize w, ma_asked w, ma_pile w, ma_pileSize w, ma_opened w, ma_openedAt w, ma_begun w, ma_cells w, ma_keptCells w, ma_name w, ma_isLeft w, ma_isDone w, ma_keptLeft w, ma_keptDone w, ma_state w, ma_keptState w, ma_newOf w, ma_oldOf w, ma_spare w, ma_spareDone w, ma_out w, ma_metFrom w, ma_metBy w, ma_far w, ma_low w, ma_lows w, ma_lowSize w, ma_triedRow w, ma_triedColumn w, ma_triedValue w, ma_triedRows w, ma_sheet w, ml_tape, ml_text, ml_words, ml_wordSize, ml_subs, ml_subSize, ml_asked, ml_pile, ml_pileSize, ml_opened, ml_openedAt, ml_begun, ml_cells, ml_keptCells, ml_name, ml_isLeft, ml_isDone, ml_keptLeft, ml_keptDone, ml_state, ml_keptState, ml_newOf, ml_oldOf, ml_spare, ml_spareDone, ml_out, ml_metFrom, ml_metBy, ml_far, ml_low, ml_lows, ml_lowSize, ml_triedRow, ml_triedColumn, ml_triedValue, ml_triedRows, ml_sheet, mo_O w]
    have no : ¬ (gI h pMo 32 ≠ 0 ∧ gI h pMo_state 6 = 1) ∨ e < 0 ∨ gI h pMo 0 ≤ e := by
      by_cases a : gI h pMo 32 ≠ 0 ∧ gI h pMo_state 6 = 1
      · right
        apply Classical.byContradiction
        intro z
        exact hwh ⟨a, by omega, by omega⟩
      · exact Or.inl a
    refine ⟨w, fun _ => ⟨w, hp0 no⟩, fun q => ⟨fun _ => ⟨w, hp0 no⟩, fun q1 => ⟨fun q2 => ?_, fun _ => ⟨w, hp0 no⟩⟩⟩⟩
    exfalso
    refine hwh ⟨?_, by omega, q2⟩
    apply Classical.byContradiction
    intro t
    exact q (if_neg t)
  obtain ⟨hwh, e0, e1⟩ := hwh
  obtain ⟨L, Q, hX, hFU, hp⟩ := hp hwh e0 e1
  obtain ⟨x1, x2, x3, x4, x5, x6⟩ := id hX
  have sr := st_raw x3
  have hf := hFU (by rw [aS_atM (by decide) (by decide)]; exact hwh.2)
  have hPm := cl_Pmt x3 hf (c := 2 * e) (by omega) (by omega)
  have eN := aN_eq x3
  rw [aS_atM (by decide) (by decide)] at eN
  obtain ⟨f, hfd⟩ : ∃ f : Int → Int, f = fun r => aE (atM h) r (2 * e) := ⟨_, rfl⟩
  rw [← hfd] at hPm hp
  obtain ⟨g, hg⟩ : ∃ g : Int → Int, g = fun r => if aV (atM h) r ≠ 0 ∧ (cyN f r : Int) = l then 1 else 0 := ⟨_, rfl⟩
  have cb : ∀ k, cnN g k ≤ k := fun k => cnN_bound g k
  have cn3 : (cnN (aV (atM h)) (aN (atM h)) : Int) ≤ 300 := by have := x3.2.2.2.2.2.1; omega
  refine ⟨fun ls h' => h' = goodH h ∧ 1 ≤ l ∧ ∃ (k : Nat) (y5 y6 : Option PV), ls = [some (.inr (.inl (some pMo))), some (.inl e), some (.inl l), some (.inl (cnN g k)), some (.inl k), y5, y6] ∧ (k : Int) ≤ gI h pMo_state 0,
    fun ls h' => h' = goodH h ∧ 1 ≤ l ∧ ∃ (k m : Nat), ls = [some (.inr (.inl (some pMo))), some (.inl e), some (.inl l), some (.inl (cnN g k)), some (.inl k), some (.inl m), some (.inl (itB f m k))] ∧ VV (atM h) k ∧ 1 ≤ m ∧ m ≤ cyN f k, mu, ?_, ?_, ?_⟩
  · rintro ls h' ⟨rfl, l1, k, y5, y6, rfl, hk⟩
    have w1 : MW (goodH h) := w
    have cbk := cb k
    have fv : ∀ r, VV (atM h) r → f r = gI h pMo_cells (10 * r + 2 * e) := fun r hr => by rw [hfd]; exact aE_atM hr (by omega) (by omega)
    unfold goodH
    simp (decide := true) only [B_Mo_cycles_0, B_Mo_cycles_24, B_Mo_cycles_31, B_Mo_cycles_42, B_Mo_cycles_47, B_Mo_cycles_71, B_Mo_cycles_90, B_Mo_cycles_119, B_Mo_cycles_130, B_Mo_cycles_131, B_Mo_cycles_133, B_Mo_cycles_139, Ct_Mo_isWhole, Ct_Mo_no, Ct_Mo_good, tt_ci, tt_cl, tt_nul, tt_il, tt_al, tt_ll, tt_is, tt_as, tt_ls, tt_inc, tt_add, tt_sub, tt_mul, tt_div, tt_rem, tt_ladd, tt_lmul, tt_ldiv, tt_lrem, tt_zeq, tt_zne, tt_zlt, tt_zge, tt_zgt, tt_zle, tt_ceq, tt_cne, tt_clt, tt_cge, tt_cgt, tt_cle, tt_nn, tt_cut, tt_pop, tt_dup, tt_dup2, tt_gI, tt_gR, tt_pI, tt_pZ, tt_pR, tt_ia, tt_ba, tt_za, tt_iS, tt_bS, tt_zS, tt_aa, tt_aS, tt_len, tt_and, tt_xor, tt_shr, tt_ushr, tt_lcmp, tt_i2b, tt_i2l, tt_l2i, tt_sw, swG, tt_ir, tt_zr, tt_br, tt_lr, tt_ar, tt_vr, tt_cV, tt_cS, tt_min, tt_max, tt_acp, pI, pII, pO, pA, pIA, pIIA, pOA, pOIA, pL, pLL, pLIA, pV, pCP, lI, lO, lL, nth, stL, clL, entA, fitL, rcv, List.take_succ_cons, List.take_zero, List.drop_succ_cons, List.drop_zero, List.reverse_cons, List.reverse_nil, List.nil_append, List.cons_append, List.length_cons, List.length_nil, Option.toList_some, Option.toList_none, gI_sI, gI_sA, gR_sI, gR_sA, gI_sR, gR_sR, hN_sI, hN_sA, hN_sR, isO_sI, isO_sA, isO_sR, isAr_sI, isAr_sA, isAr_sR, hC_sI, hC_sA, hC_sR, hZ_sI, hZ_sA, hZ_sR, MW_sI, MW_sA, true_and, and_true, true_or, or_true, and_self, forall_const, imp_self, implies_true, if_true, if_false, false_and, and_false, false_or, or_false, not_false_eq_true, not_true_eq_false, sI_sI, mr_tape w, mr_text w, mr_words w, mr_wordSize w, mr_subs w, mr_subSize w, mr_asked w, mr_pile w, mr_pileSize w, mr_opened w, mr_openedAt w, mr_begun w, mr_cells w, mr_keptCells w, mr_name w, mr_isLeft w, mr_isDone w, mr_keptLeft w, mr_keptDone w, mr_state w, mr_keptState w, mr_newOf w, mr_oldOf w, mr_spare w, mr_spareDone w, mr_out w, mr_metFrom w, mr_metBy w, mr_far w, mr_low w, mr_lows w, mr_lowSize w, mr_triedRow w, mr_triedColumn w, mr_triedValue w, mr_triedRows w, mr_sheet w, ma_tape w, ma_text w, ma_words w, ma_wordSize w, ma_subs w, ma_subSize w, ma_asked w, ma_pile w, ma_pileSize w, ma_opened w, ma_openedAt w, ma_begun w, ma_cells w, ma_keptCells w, ma_name w, ma_isLeft w, ma_isDone w, ma_keptLeft w, ma_keptDone w, ma_state w, ma_keptState w, ma_newOf w, ma_oldOf w, ma_spare w, ma_spareDone w, ma_out w, ma_metFrom w, ma_metBy w, ma_far w, ma_low w, ma_lows w, ma_lowSize w, ma_triedRow w, ma_triedColumn w, ma_triedValue w, ma_triedRows w, ma_sheet w, ml_tape, ml_text, ml_words, ml_wordSize, ml_subs, ml_subSize, ml_asked, ml_pile, ml_pileSize, ml_opened, ml_openedAt, ml_begun, ml_cells, ml_keptCells, ml_name, ml_isLeft, ml_isDone, ml_keptLeft, ml_keptDone, ml_state, ml_keptState, ml_newOf, ml_oldOf, ml_spare, ml_spareDone, ml_out, ml_metFrom, ml_metBy, ml_far, ml_low, ml_lows, ml_lowSize, ml_triedRow, ml_triedColumn, ml_triedValue, ml_triedRows, ml_sheet, mo_O w]
    refine ⟨fun q => ⟨by omega, by omega, ?_⟩, fun q => ⟨by omega, by omega, fun q2 => ?_, fun q2 => ⟨⟨by omega, by omega⟩, ⟨l1, k + 1, y5, y6, ?_, by omega⟩, ?_⟩⟩⟩
    · have ek : k = aN (atM h) := by omega
      unfold ccV at hp
      rw [if_neg (by omega), ← ek, ← hg] at hp
      exact hp
    · have hv : VV (atM h) k := VV_atM.mpr ⟨by omega, by omega, q2⟩
      have cs := cyN_spec hPm hv
      refine ⟨⟨by omega, by omega⟩, ⟨by omega, by omega⟩, ⟨by omega, by omega⟩, by omega, by omega, ⟨l1, k, 1, ?_, hv, by omega, cs.1.1⟩, ?_⟩
      · rw [← fv _ hv]; rfl
      · rw [hmu, muY_90, muY_47]
        simp only [locI, nth]
        exact arY3 (by omega) (by omega) (by omega) (by omega)
    · have : g k = 0 := by rw [hg]; exact if_neg (fun z => (VV_atM.mp z.1).2.2 q2)
      rw [cnN_skip this]
      push_cast
      rfl
    · rw [hmu, muY_47, muY_47]
      simp only [locI, nth]
      exact arY4 (by omega) (by omega)
  · rintro ls h' ⟨rfl, l1, k, m, rfl, hk, m1, m2⟩
    have cbk := cb k
    have fv : ∀ r, VV (atM h) r → f r = gI h pMo_cells (10 * r + 2 * e) := fun r hr => by rw [hfd]; exact aE_atM hr (by omega) (by omega)
    have hk' := VV_atM.mp hk
    have cs := cyN_spec hPm hk
    have im : VV (atM h) (itB f m k) := itB_v hPm hk m
    have im' := VV_atM.mp im
    unfold goodH
    simp (decide := true) only [B_Mo_cycles_0, B_Mo_cycles_24, B_Mo_cycles_31, B_Mo_cycles_42, B_Mo_cycles_47, B_Mo_cycles_71, B_Mo_cycles_90, B_Mo_cycles_119, B_Mo_cycles_130, B_Mo_cycles_131, B_Mo_cycles_133, B_Mo_cycles_139, Ct_Mo_isWhole, Ct_Mo_no, Ct_Mo_good, tt_ci, tt_cl, tt_nul, tt_il, tt_al, tt_ll, tt_is, tt_as, tt_ls, tt_inc, tt_add, tt_sub, tt_mul, tt_div, tt_rem, tt_ladd, tt_lmul, tt_ldiv, tt_lrem, tt_zeq, tt_zne, tt_zlt, tt_zge, tt_zgt, tt_zle, tt_ceq, tt_cne, tt_clt, tt_cge, tt_cgt, tt_cle, tt_nn, tt_cut, tt_pop, tt_dup, tt_dup2, tt_gI, tt_gR, tt_pI, tt_pZ, tt_pR, tt_ia, tt_ba, tt_za, tt_iS, tt_bS, tt_zS, tt_aa, tt_aS, tt_len, tt_and, tt_xor, tt_shr, tt_ushr, tt_lcmp, tt_i2b, tt_i2l, tt_l2i, tt_sw, swG, tt_ir, tt_zr, tt_br, tt_lr, tt_ar, tt_vr, tt_cV, tt_cS, tt_min, tt_max, tt_acp, pI, pII, pO, pA, pIA, pIIA, pOA, pOIA, pL, pLL, pLIA, pV, pCP, lI, lO, lL, nth, stL, clL, entA, fitL, rcv, List.take_succ_cons, List.take_zero, List.drop_succ_cons, List.drop_zero, List.reverse_cons, List.reverse_nil, List.nil_append, List.cons_append, List.length_cons, List.length_nil, Option.toList_some, Option.toList_none, gI_sI, gI_sA, gR_sI, gR_sA, gI_sR, gR_sR, hN_sI, hN_sA, hN_sR, isO_sI, isO_sA, isO_sR, isAr_sI, isAr_sA, isAr_sR, hC_sI, hC_sA, hC_sR, hZ_sI, hZ_sA, hZ_sR, MW_sI, MW_sA, true_and, and_true, true_or, or_true, and_self, forall_const, imp_self, implies_true, if_true, if_false, false_and, and_false, false_or, or_false, not_false_eq_true, not_true_eq_false, sI_sI, mr_tape w, mr_text w, mr_words w, mr_wordSize w, mr_subs w, mr_subSize w, mr_asked w, mr_pile w, mr_pileSize w, mr_opened w, mr_openedAt w, mr_begun w, mr_cells w, mr_keptCells w, mr_name w, mr_isLeft w, mr_isDone w, mr_keptLeft w, mr_keptDone w, mr_state w, mr_keptState w, mr_newOf w, mr_oldOf w, mr_spare w, mr_spareDone w, mr_out w, mr_metFrom w, mr_metBy w, mr_far w, mr_low w, mr_lows w, mr_lowSize w, mr_triedRow w, mr_triedColumn w, mr_triedValue w, mr_triedRows w, mr_sheet w, ma_tape w, ma_text w, ma_words w, ma_wordSize w, ma_subs w, ma_subSize w, ma_asked w, ma_pile w, ma_pileSize w, ma_opened w, ma_openedAt w, ma_begun w, ma_cells w, ma_keptCells w, ma_name w, ma_isLeft w, ma_isDone w, ma_keptLeft w, ma_keptDone w, ma_state w, ma_keptState w, ma_newOf w, ma_oldOf w, ma_spare w, ma_spareDone w, ma_out w, ma_metFrom w, ma_metBy w, ma_far w, ma_low w, ma_lows w, ma_lowSize w, ma_triedRow w, ma_triedColumn w, ma_triedValue w, ma_triedRows w, ma_sheet w, ml_tape, ml_text, ml_words, ml_wordSize, ml_subs, ml_subSize, ml_asked, ml_pile, ml_pileSize, ml_opened, ml_openedAt, ml_begun, ml_cells, ml_keptCells, ml_name, ml_isLeft, ml_isDone, ml_keptLeft, ml_keptDone, ml_state, ml_keptState, ml_newOf, ml_oldOf, ml_spare, ml_spareDone, ml_out, ml_metFrom, ml_metBy, ml_far, ml_low, ml_lows, ml_lowSize, ml_triedRow, ml_triedColumn, ml_triedValue, ml_triedRows, ml_sheet, mo_O w]
    have out : itB f m k = k → cyN f k = m := fun z => by
      rcases Nat.lt_or_ge m (cyN f k) with y | y
      · exact absurd z (cs.1.2.2 m (by omega) y)
      · omega
    refine ⟨fun q => ⟨fun q2 => ⟨⟨by omega, by omega⟩, ⟨by omega, by omega⟩, ⟨l1, k + 1, some (.inl m), some (.inl (itB f m k)), ?_, by omega⟩, ?_⟩, fun q2 => ⟨⟨by omega, by omega⟩, ⟨by omega, by omega⟩, ⟨l1, k + 1, some (.inl m), some (.inl (itB f m k)), ?_, by omega⟩, ?_⟩⟩, fun q => ⟨⟨by omega, by omega⟩, ⟨by omega, by omega⟩, ⟨by omega, by omega⟩, ⟨by omega, by omega⟩, by omega, by omega, ⟨l1, k, m + 1, ?_, hk, by omega, ?_⟩, ?_⟩⟩
    · have : g k = 0 := by rw [hg]; exact if_neg (fun z => q2 (by rw [← z.2, out q]))
      rw [cnN_skip this, Int.add_zero]
      push_cast
      rfl
    · rw [hmu, muY_47, muY_90]
      simp only [locI, nth]
      exact arY1 (by omega) (by omega) (by omega) (by omega)
    · have : g k = 1 := by rw [hg]; exact if_pos ⟨hk, by rw [out q]; exact q2⟩
      rw [cnN_succ (by rw [this]; decide)]
      push_cast
      rfl
    · rw [hmu, muY_47, muY_90]
      simp only [locI, nth]
      exact arY1 (by omega) (by omega) (by omega) (by omega)
    · rw [← fv _ im]
      push_cast
      rfl
    · have : m ≠ cyN f k := fun z => q (by rw [z]; exact cs.1.2.1)
      omega
    · have : m ≠ cyN f k := fun z => q (by rw [z]; exact cs.1.2.1)
      rw [hmu, muY_90, muY_90]
      simp only [locI, nth]
      exact arY2 (by omega) (by omega) (by omega) (by omega)
  · simp (decide := true) only [B_Mo_cycles_0, B_Mo_cycles_24, B_Mo_cycles_31, B_Mo_cycles_42, B_Mo_cycles_47, B_Mo_cycles_71, B_Mo_cycles_90, B_Mo_cycles_119, B_Mo_cycles_130, B_Mo_cycles_131, B_Mo_cycles_133, B_Mo_cycles_139, Ct_Mo_isWhole, Ct_Mo_no, Ct_Mo_good, tt_ci, tt_cl, tt_nul, tt_il, tt_al, tt_ll, tt_is, tt_as, tt_ls, tt_inc, tt_add, tt_sub, tt_mul, tt_div, tt_rem, tt_ladd, tt_lmul, tt_ldiv, tt_lrem, tt_zeq, tt_zne, tt_zlt, tt_zge, tt_zgt, tt_zle, tt_ceq, tt_cne, tt_clt, tt_cge, tt_cgt, tt_cle, tt_nn, tt_cut, tt_pop, tt_dup, tt_dup2, tt_gI, tt_gR, tt_pI, tt_pZ, tt_pR, tt_ia, tt_ba, tt_za, tt_iS, tt_bS, tt_zS, tt_aa, tt_aS, tt_len, tt_and, tt_xor, tt_shr, tt_ushr, tt_lcmp, tt_i2b, tt_i2l, tt_l2i, tt_sw, swG, tt_ir, tt_zr, tt_br, tt_lr, tt_ar, tt_vr, tt_cV, tt_cS, tt_min, tt_max, tt_acp, pI, pII, pO, pA, pIA, pIIA, pOA, pOIA, pL, pLL, pLIA, pV, pCP, lI, lO, lL, nth, stL, clL, entA, fitL, rcv, List.take_succ_cons, List.take_zero, List.drop_succ_cons, List.drop_zero, List.reverse_cons, List.reverse_nil, List.nil_append, List.cons_append, List.length_cons, List.length_nil, Option.toList_some, Option.toList_none, gI_sI, gI_sA, gR_sI, gR_sA, gI_sR, gR_sR, hN_sI, hN_sA, hN_sR, isO_sI, isO_sA, isO_sR, isAr_sI, isAr_sA, isAr_sR, hC_sI, hC_sA, hC_sR, hZ_sI, hZ_sA, hZ_sR, MW_sI, MW_sA, true_and, and_true, true_or, or_true, and_self, forall_const, imp_self, implies_true, if_true, if_false, false_and, and_false, false_or, or_false, not_false_eq_true, not_true_eq_false, sI_sI, mr_tape w, mr_text w, mr_words w, mr_wordSize w, mr_subs w, mr_subSize w, mr_asked w, mr_pile w, mr_pileSize w, mr_opened w, mr_openedAt w, mr_begun w, mr_cells w, mr_keptCells w, mr_name w, mr_isLeft w, mr_isDone w, mr_keptLeft w, mr_keptDone w, mr_state w, mr_keptState w, mr_newOf w, mr_oldOf w, mr_spare w, mr_spareDone w, mr_out w, mr_metFrom w, mr_metBy w, mr_far w, mr_low w, mr_lows w, mr_lowSize w, mr_triedRow w, mr_triedColumn w, mr_triedValue w, mr_triedRows w, mr_sheet w, ma_tape w, ma_text w, ma_words w, ma_wordSize w, ma_subs w, ma_subSize w, ma_asked w, ma_pile w, ma_pileSize w, ma_opened w, ma_openedAt w, ma_begun w, ma_cells w, ma_keptCells w, ma_name w, ma_isLeft w, ma_isDone w, ma_keptLeft w, ma_keptDone w, ma_state w, ma_keptState w, ma_newOf w, ma_oldOf w, ma_spare w, ma_spareDone w, ma_out w, ma_metFrom w, ma_metBy w, ma_far w, ma_low w, ma_lows w, ma_lowSize w, ma_triedRow w, ma_triedColumn w, ma_triedValue w, ma_triedRows w, ma_sheet w, ml_tape, ml_text, ml_words, ml_wordSize, ml_subs, ml_subSize, ml_asked, ml_pile, ml_pileSize, ml_opened, ml_openedAt, ml_begun, ml_cells, ml_keptCells, ml_name, ml_isLeft, ml_isDone, ml_keptLeft, ml_keptDone, ml_state, ml_keptState, ml_newOf, ml_oldOf, ml_spare, ml_spareDone, ml_out, ml_metFrom, ml_metBy, ml_far, ml_low, ml_lows, ml_lowSize, ml_triedRow, ml_triedColumn, ml_triedValue, ml_triedRows, ml_sheet, mo_O w]
    refine ⟨w, fun q => ?_, fun q => ⟨fun q1 => by omega, fun q1 => ⟨fun q2 => ⟨w, fun q3 => ⟨rfl, q3, 0, none, none, rfl, by omega⟩, fun q3 => ?_⟩, fun q2 => by omega⟩⟩⟩
    · rw [if_pos hwh] at q
      exact absurd q (by decide)
    · unfold ccV at hp
      rw [if_pos (by omega)] at hp
      exact hp
def Ct_Mo_power : CtT := fun av h post => match av with
  | [.inr (.inl (some t))] => t = pMo ∧ MW h ∧ (¬ (gI h pMo 32 ≠ 0 ∧ gI h pMo_state 6 = 1) → post (some (.inl (-1))) (sI h pMo 4 0)) ∧ (gI h pMo 32 ≠ 0 ∧ gI h pMo_state 6 = 1 → ∃ (L Q : Int), TX L Q h ∧ FU L (atM h) ∧ AK L h ∧ post (some (.inl (pwV (aV (atM h)) (ldA (atM h) (akW h)) (aN (atM h))))) (sI h pMo 4 0))
  | _ => False
def B_Mo_power_131 : TT := (tt_ll 1 (tt_l2i tt_ir))
theorem S_Mo_power_131 (lc lz : Nat) : Snd md_Mo_power lc lz 131 (B_Mo_power_131) := (snd_ll_n (n := 1) (dget dd_Mo_power 73 rfl) rfl (snd_l2i (dget dd_Mo_power 74 rfl) (snd_ir (dget dd_Mo_power 75 rfl) rfl)))
def B_Mo_power_125 : TT := (tt_inc 3 1 (tt_cut 18))
theorem S_Mo_power_125 (lc lz : Nat) : Snd md_Mo_power lc lz 125 (B_Mo_power_125) := (snd_inc (dget dd_Mo_power 71 rfl) (snd_goto (tg := 18) (dget dd_Mo_power 72 rfl) rfl snd_cut))
def B_Mo_power_105 : TT := (tt_ll 1 (tt_ll 6 (tt_ldiv (tt_ll 4 (tt_lmul (tt_ls 1 (tt_ll 1 (tt_cl 2147483647 (tt_lcmp (tt_zle (B_Mo_power_125) (tt_ci 2147483647 tt_ir)))))))))))
theorem S_Mo_power_105 (lc lz : Nat) : Snd md_Mo_power lc lz 105 (B_Mo_power_105) := (snd_ll_n (n := 1) (dget dd_Mo_power 59 rfl) rfl (snd_ll (dget dd_Mo_power 60 rfl) (snd_ldiv (dget dd_Mo_power 61 rfl) (snd_ll (dget dd_Mo_power 62 rfl) (snd_lmul (dget dd_Mo_power 63 rfl) (snd_ls_n (n := 1) (dget dd_Mo_power 64 rfl) rfl (snd_ll_n (n := 1) (dget dd_Mo_power 65 rfl) rfl (snd_ldc2 (n := 2147483647) (dget dd_Mo_power 66 rfl) (inL_d rfl) kn_Mo_329 (snd_lcmp (dget dd_Mo_power 67 rfl) (snd_zle (tg := 125) (dget dd_Mo_power 68 rfl) rfl (S_Mo_power_125 lc lz) (snd_ldcw (n := 2147483647) (dget dd_Mo_power 69 rfl) (inR_d rfl) kn_Mo_331 (snd_ir (dget dd_Mo_power 70 rfl) rfl))))))))))))
def B_Mo_power_80 : TT := (tt_ll 8 (tt_cl 0 (tt_lcmp (tt_zeq (B_Mo_power_105) (tt_ll 6 (tt_ll 8 (tt_lrem (tt_ls 10 (tt_ll 8 (tt_ls 6 (tt_ll 10 (tt_ls 8 (tt_cut 80)))))))))))))
theorem S_Mo_power_80 (lc lz : Nat) : Snd md_Mo_power lc lz 80 (B_Mo_power_80) := (snd_ll (dget dd_Mo_power 46 rfl) (snd_lconst (n := 0) (dget dd_Mo_power 47 rfl) (inL_d rfl) rfl (snd_lcmp (dget dd_Mo_power 48 rfl) (snd_zeq (tg := 105) (dget dd_Mo_power 49 rfl) rfl (S_Mo_power_105 lc lz) (snd_ll (dget dd_Mo_power 50 rfl) (snd_ll (dget dd_Mo_power 51 rfl) (snd_lrem (dget dd_Mo_power 52 rfl) (snd_ls (dget dd_Mo_power 53 rfl) (snd_ll (dget dd_Mo_power 54 rfl) (snd_ls (dget dd_Mo_power 55 rfl) (snd_ll (dget dd_Mo_power 56 rfl) (snd_ls (dget dd_Mo_power 57 rfl) (snd_goto (tg := 80) (dget dd_Mo_power 58 rfl) rfl snd_cut)))))))))))))
def B_Mo_power_73 : TT := (tt_ll 1 (tt_ls 6 (tt_ll 4 (tt_ls 8 (tt_cut 80)))))
theorem S_Mo_power_73 (lc lz : Nat) : Snd md_Mo_power lc lz 73 (B_Mo_power_73) := (snd_ll_n (n := 1) (dget dd_Mo_power 42 rfl) rfl (snd_ls (dget dd_Mo_power 43 rfl) (snd_ll (dget dd_Mo_power 44 rfl) (snd_ls (dget dd_Mo_power 45 rfl) snd_cut))))
def B_Mo_power_50 : TT := (tt_il 6 (tt_il 3 (tt_ceq (B_Mo_power_73) (tt_ll 4 (tt_cl 1 (tt_ladd (tt_ls 4 (tt_al 0 (tt_il 6 (tt_cV 9 2 Ct_Mo_leadFrom (tt_is 6 (tt_cut 50))))))))))))
theorem S_Mo_power_50 (lc lz : Nat) : Snd md_Mo_power lc lz 50 (B_Mo_power_50) := (snd_il (dget dd_Mo_power 30 rfl) (snd_il_n (n := 3) (dget dd_Mo_power 31 rfl) rfl (snd_ceq (tg := 73) (dget dd_Mo_power 32 rfl) rfl (S_Mo_power_73 lc lz) (snd_ll (dget dd_Mo_power 33 rfl) (snd_lconst (n := 1) (dget dd_Mo_power 34 rfl) (inL_d rfl) rfl (snd_ladd (dget dd_Mo_power 35 rfl) (snd_ls (dget dd_Mo_power 36 rfl) (snd_al_n (n := 0) (dget dd_Mo_power 37 rfl) rfl (snd_il (dget dd_Mo_power 38 rfl) (snd_cV (n := 1) met_Mo_leadFrom mi_Mo_leadFrom ki_Mo_leadFrom kv_Mo_leadFrom ml_Mo_323 rfl (by decide) (dget dd_Mo_power 39 rfl) (snd_is (dget dd_Mo_power 40 rfl) (snd_goto (tg := 50) (dget dd_Mo_power 41 rfl) rfl snd_cut))))))))))))
def B_Mo_power_40 : TT := (tt_cl 1 (tt_ls 4 (tt_al 0 (tt_il 3 (tt_cV 9 2 Ct_Mo_leadFrom (tt_is 6 (tt_cut 50)))))))
theorem S_Mo_power_40 (lc lz : Nat) : Snd md_Mo_power lc lz 40 (B_Mo_power_40) := (snd_lconst (n := 1) (dget dd_Mo_power 24 rfl) (inL_d rfl) rfl (snd_ls (dget dd_Mo_power 25 rfl) (snd_al_n (n := 0) (dget dd_Mo_power 26 rfl) rfl (snd_il_n (n := 3) (dget dd_Mo_power 27 rfl) rfl (snd_cV (n := 1) met_Mo_leadFrom mi_Mo_leadFrom ki_Mo_leadFrom kv_Mo_leadFrom ml_Mo_323 rfl (by decide) (dget dd_Mo_power 28 rfl) (snd_is (dget dd_Mo_power 29 rfl) snd_cut))))))
def B_Mo_power_18 : TT := (tt_il 3 (tt_al 0 (tt_gR 9 30 (tt_ci 0 (tt_ia (tt_cge (B_Mo_power_131) (tt_al 0 (tt_gR 9 26 (tt_il 3 (tt_za (tt_zne (B_Mo_power_40) (B_Mo_power_125))))))))))))
theorem S_Mo_power_18 (lc lz : Nat) : Snd md_Mo_power lc lz 18 (B_Mo_power_18) := (snd_il_n (n := 3) (dget dd_Mo_power 12 rfl) rfl (snd_al_n (n := 0) (dget dd_Mo_power 13 rfl) rfl (snd_gR (kn := 30) fd_Mo_76 rfl (dget dd_Mo_power 14 rfl) (snd_iconst (n := 0) (dget dd_Mo_power 15 rfl) (inR_d rfl) rfl (snd_ia (dget dd_Mo_power 16 rfl) (snd_cge (tg := 131) (dget dd_Mo_power 17 rfl) rfl (S_Mo_power_131 lc lz) (snd_al_n (n := 0) (dget dd_Mo_power 18 rfl) rfl (snd_gR (kn := 26) fd_Mo_63 rfl (dget dd_Mo_power 19 rfl) (snd_il_n (n := 3) (dget dd_Mo_power 20 rfl) rfl (snd_za (dget dd_Mo_power 21 rfl) (snd_zne (tg := 40) (dget dd_Mo_power 22 rfl) rfl (S_Mo_power_40 lc lz) (snd_goto (tg := 125) (dget dd_Mo_power 23 rfl) rfl (S_Mo_power_125 lc lz)))))))))))))
def B_Mo_power_14 : TT := (tt_cl 1 (tt_ls 1 (tt_ci 0 (tt_is 3 (tt_cut 18)))))
theorem S_Mo_power_14 (lc lz : Nat) : Snd md_Mo_power lc lz 14 (B_Mo_power_14) := (snd_lconst (n := 1) (dget dd_Mo_power 8 rfl) (inL_d rfl) rfl (snd_ls_n (n := 1) (dget dd_Mo_power 9 rfl) rfl (snd_iconst (n := 0) (dget dd_Mo_power 10 rfl) (inR_d rfl) rfl (snd_is_n (n := 3) (dget dd_Mo_power 11 rfl) rfl snd_cut))))
def B_Mo_power_0 : TT := (tt_al 0 (tt_ci 0 (tt_pI 9 4 (tt_al 0 (tt_cV 9 1 Ct_Mo_isWhole (tt_zne (B_Mo_power_14) (tt_ci (-1) tt_ir)))))))
theorem S_Mo_power_0 (lc lz : Nat) : Snd md_Mo_power lc lz 0 (B_Mo_power_0) := (snd_al_n (n := 0) (dget dd_Mo_power 0 rfl) rfl (snd_iconst (n := 0) (dget dd_Mo_power 1 rfl) (inR_d rfl) rfl (snd_pI (kn := 4) fd_Mo_130 rfl (dget dd_Mo_power 2 rfl) (snd_al_n (n := 0) (dget dd_Mo_power 3 rfl) rfl (snd_cV (n := 0) met_Mo_isWhole mi_Mo_isWhole ki_Mo_isWhole kv_Mo_isWhole ml_Mo_310 rfl (by decide) (dget dd_Mo_power 4 rfl) (snd_zne (tg := 14) (dget dd_Mo_power 5 rfl) rfl (S_Mo_power_14 lc lz) (snd_iconst (n := -1) (dget dd_Mo_power 6 rfl) (inR_d rfl) rfl (snd_ir (dget dd_Mo_power 7 rfl) rfl))))))))
def locL (ls : LSt) (n : Nat) : Int := match nth ls n with
  | some (.inr (.inr x)) => x
  | _ => 0
def muW (pc : Nat) (ls : LSt) (_ : PH) : Nat := if pc = 18 then (8000000 - 4000 * locI ls 3).toNat else if pc = 50 then (8000000 - 4000 * locI ls 3 - 1 - locL ls 4).toNat else (8000000 - 4000 * locI ls 3 - 3000 + locL ls 8).toNat
theorem muW_18 {ls : LSt} {h' : PH} : muW 18 ls h' = (8000000 - 4000 * locI ls 3).toNat := by unfold muW; rw [if_pos rfl]
theorem muW_50 {ls : LSt} {h' : PH} : muW 50 ls h' = (8000000 - 4000 * locI ls 3 - 1 - locL ls 4).toNat := by unfold muW; rw [if_neg (by decide), if_pos rfl]
theorem muW_80 {ls : LSt} {h' : PH} : muW 80 ls h' = (8000000 - 4000 * locI ls 3 - 3000 + locL ls 8).toNat := by unfold muW; rw [if_neg (by decide), if_neg (by decide)]
theorem arW1 {k : Int} (h0 : 0 ≤ k) (h1 : k < 2000) : (8000000 - 4000 * k - 1 - 1).toNat < (8000000 - 4000 * k).toNat := by omega
theorem arW2 {k : Int} (h0 : 0 ≤ k) (h1 : k < 2000) : (8000000 - 4000 * (k + 1)).toNat < (8000000 - 4000 * k).toNat := by omega
theorem arW3 {k m : Int} (h0 : 0 ≤ k) (h1 : k < 2000) (h2 : 0 ≤ m) (h3 : m ≤ 300) : (8000000 - 4000 * k - 3000 + m).toNat < (8000000 - 4000 * k - 1 - m).toNat := by omega
theorem arW4 {k m : Int} (h0 : 0 ≤ k) (h1 : k < 2000) (h2 : 0 ≤ m) (h3 : m ≤ 300) : (8000000 - 4000 * k - 1 - (m + 1)).toNat < (8000000 - 4000 * k - 1 - m).toNat := by omega
theorem arW5 {k b : Int} (h0 : 0 ≤ k) (h1 : k < 2000) (h2 : 0 ≤ b) : (8000000 - 4000 * (k + 1)).toNat < (8000000 - 4000 * k - 3000 + b).toNat := by omega
theorem arW6 {k b c : Int} (h0 : 0 ≤ k) (h1 : k < 2000) (h2 : 0 ≤ c) (h3 : c < b) : (8000000 - 4000 * k - 3000 + c).toNat < (8000000 - 4000 * k - 3000 + b).toNat := by omega
theorem met_Mo_power : MetP y_Mo_power md_Mo_power (fun _ => 0) (fun _ => 0) Ct_Mo_power := by
  refine metL3 (body := B_Mo_power_0) (B1 := B_Mo_power_18) (B2 := B_Mo_power_50) (B3 := B_Mo_power_80) (by decide) rfl rfl (fun lc lz => S_Mo_power_0 lc lz) (fun lc lz => S_Mo_power_18 lc lz) (fun lc lz => S_Mo_power_50 lc lz) (fun lc lz => S_Mo_power_80 lc lz) (by decide) ?_
  intro av h post hc hH hav
  unfold Ct_Mo_power at hc
  split at hc
  rotate_left
  · exact hc.elim
  rename_i t
  obtain ⟨rfl, w, hp0, hp⟩ := hc
  refine ⟨Nat.le_of_ble_eq_true rfl, ?_⟩
  obtain ⟨mu, hmu⟩ : ∃ mu, mu = muW := ⟨_, rfl⟩
  by_cases hwh : gI h pMo 32 ≠ 0 ∧ gI h pMo_state 6 = 1
  rotate_left
  · refine ⟨fun _ _ => False, fun _ _ => False, fun _ _ => False, mu, fun _ _ z => z.elim, fun _ _ z => z.elim, fun _ _ z => z.elim, ?_⟩
    simp (decide := true) only [B_Mo_power_0, B_Mo_power_18, B_Mo_power_40, B_Mo_power_50, B_Mo_power_73, B_Mo_power_80, B_Mo_power_105, B_Mo_power_125, B_Mo_power_131, Ct_Mo_isWhole, Ct_Mo_leadFrom, tt_ci, tt_cl, tt_nul, tt_il, tt_al, tt_ll, tt_is, tt_as, tt_ls, tt_inc, tt_add, tt_sub, tt_mul, tt_div, tt_rem, tt_ladd, tt_lmul, tt_ldiv, tt_lrem, tt_zeq, tt_zne, tt_zlt, tt_zge, tt_zgt, tt_zle, tt_ceq, tt_cne, tt_clt, tt_cge, tt_cgt, tt_cle, tt_nn, tt_cut, tt_pop, tt_dup, tt_dup2, tt_gI, tt_gR, tt_pI, tt_pZ, tt_pR, tt_ia, tt_ba, tt_za, tt_iS, tt_bS, tt_zS, tt_aa, tt_aS, tt_len, tt_and, tt_xor, tt_shr, tt_ushr, tt_lcmp, tt_i2b, tt_i2l, tt_l2i, tt_sw, swG, tt_ir, tt_zr, tt_br, tt_lr, tt_ar, tt_vr, tt_cV, tt_cS, tt_min, tt_max, tt_acp, pI, pII, pO, pA, pIA, pIIA, pOA, pOIA, pL, pLL, pLIA, pV, pCP, lI, lO, lL, nth, stL, clL, entA, fitL, rcv, List.take_succ_cons, List.take_zero, List.drop_succ_cons, List.drop_zero, List.reverse_cons, List.reverse_nil, List.nil_append, List.cons_append, List.length_cons, List.length_nil, Option.toList_some, Option.toList_none, gI_sI, gI_sA, gR_sI, gR_sA, gI_sR, gR_sR, hN_sI, hN_sA, hN_sR, isO_sI, isO_sA, isO_sR, isAr_sI, isAr_sA, isAr_sR, hC_sI, hC_sA, hC_sR, hZ_sI, hZ_sA, hZ_sR, MW_sI, MW_sA, true_and, and_true, true_or, or_true, and_self, forall_const, imp_self, implies_true, if_true, if_false, false_and, and_false, false_or, or_false, not_false_eq_true, not_true_eq_false, sI_sI, mr_tape w, mr_text w, mr_words w, mr_wordSize w, mr_subs w, mr_subSize w, mr_asked w, mr_pile w, mr_pileSize w, mr_opened w, mr_openedAt w, mr_begun w, mr_cells w, mr_keptCells w, mr_name w, mr_isLeft w, mr_isDone w, mr_keptLeft w, mr_keptDone w, mr_state w, mr_keptState w, mr_newOf w, mr_oldOf w, mr_spare w, mr_spareDone w, mr_out w, mr_metFrom w, mr_metBy w, mr_far w, mr_low w, mr_lows w, mr_lowSize w, mr_triedRow w, mr_triedColumn w, mr_triedValue w, mr_triedRows w, mr_sheet w, ma_tape w, ma_text w, ma_words w, ma_wordSize w, ma_subs w, ma_subSize w, ma_asked w, ma_pile w, ma_pileSize w, ma_opened w, ma_openedAt w, ma_begun w, ma_cells w, ma_keptCells w, ma_name w, ma_isLeft w, ma_isDone w, ma_keptLeft w, ma_keptDone w, ma_state w, ma_keptState w, ma_newOf w, ma_oldOf w, ma_spare w, ma_spareDone w, ma_out w, ma_metFrom w, ma_metBy w, ma_far w, ma_low w, ma_lows w, ma_lowSize w, ma_triedRow w, ma_triedColumn w, ma_triedValue w, ma_triedRows w, ma_sheet w, ml_tape, ml_text, ml_words, ml_wordSize, ml_subs, ml_subSize, ml_asked, ml_pile, ml_pileSize, ml_opened, ml_openedAt, ml_begun, ml_cells, ml_keptCells, ml_name, ml_isLeft, ml_isDone, ml_keptLeft, ml_keptDone, ml_state, ml_keptState, ml_newOf, ml_oldOf, ml_spare, ml_spareDone, ml_out, ml_metFrom, ml_metBy, ml_far, ml_low, ml_lows, ml_lowSize, ml_triedRow, ml_triedColumn, ml_triedValue, ml_triedRows, ml_sheet, mo_O w]
    rw [if_neg hwh]
    exact ⟨w, fun z => absurd rfl z, fun _ => hp0 hwh⟩
  obtain ⟨L, Q, hX, hFU, hA, hp⟩ := hp hwh
  obtain ⟨x1, x2, x3, x4, x5, x6⟩ := id hX
  have sr := st_raw x3
  have hf := hFU (by rw [aS_atM (by decide) (by decide)]; exact hwh.2)
  have hA1 := hA.1
  have hA2 := hA.2.1
  have haw : ∀ c, c ∈ akW h → 0 ≤ c ∧ c < L := seg_mem (fun k hk => by rw [show (0 : Int) + k = k by omega]; exact hA.2.2 k (by omega) (by omega))
  have hPm := ld_Pmt x3 hf haw
  have eN := aN_eq x3
  rw [aS_atM (by decide) (by decide)] at eN
  obtain ⟨f, hfd⟩ : ∃ f : Int → Int, f = ldA (atM h) (akW h) := ⟨_, rfl⟩
  obtain ⟨v, hvd⟩ : ∃ v : Int → Int, v = aV (atM h) := ⟨_, rfl⟩
  rw [← hfd, ← hvd] at hPm hp
  have hvV : ∀ x, v x ≠ 0 ↔ VV (atM h) x := fun x => by rw [hvd]; exact Iff.rfl
  have cn3 : (cnN v (aN (atM h)) : Int) ≤ 300 := by have := x3.2.2.2.2.2.1; rw [hvd]; omega
  refine ⟨fun ls h' => h' = sI h pMo 4 0 ∧ ∃ (k : Nat) (y4 y5 y6 y7 y8 y9 y10 y11 : Option PV), ls = [some (.inr (.inl (some pMo))), some (.inr (.inr (pwF v f k))), none, some (.inl k), y4, y5, y6, y7, y8, y9, y10, y11] ∧ (k : Int) ≤ gI h pMo_state 0 ∧ pwF v f k ≤ 2147483647,
    fun ls h' => h' = sI h pMo 4 0 ∧ ∃ (k m : Nat) (y7 y8 y9 y10 y11 : Option PV), ls = [some (.inr (.inl (some pMo))), some (.inr (.inr (pwF v f k))), none, some (.inl k), some (.inr (.inr m)), none, some (.inl (itB f m k)), y7, y8, y9, y10, y11] ∧ v k ≠ 0 ∧ 1 ≤ m ∧ m ≤ cyN f k ∧ pwF v f k ≤ 2147483647,
    fun ls h' => h' = sI h pMo 4 0 ∧ ∃ (k a b : Nat) (y10 y11 : Option PV), ls = [some (.inr (.inl (some pMo))), some (.inr (.inr (pwF v f k))), none, some (.inl k), some (.inr (.inr (cyN f k))), none, some (.inr (.inr a)), none, some (.inr (.inr b)), none, y10, y11] ∧ v k ≠ 0 ∧ pwF v f k ≤ 2147483647 ∧ 0 < a ∧ a ≤ 2147483647 ∧ b ≤ 300 ∧ Nat.gcd a b = Nat.gcd (pwF v f k) (cyN f k), mu, ?_, ?_, ?_, ?_⟩
  · rintro ls h' ⟨rfl, k, y4, y5, y6, y7, y8, y9, y10, y11, rfl, hk, hpw⟩
    simp (decide := true) only [B_Mo_power_0, B_Mo_power_14, B_Mo_power_18, B_Mo_power_40, B_Mo_power_50, B_Mo_power_73, B_Mo_power_80, B_Mo_power_105, B_Mo_power_125, B_Mo_power_131, Ct_Mo_isWhole, Ct_Mo_leadFrom, tt_ci, tt_cl, tt_nul, tt_il, tt_al, tt_ll, tt_is, tt_as, tt_ls, tt_inc, tt_add, tt_sub, tt_mul, tt_div, tt_rem, tt_ladd, tt_lmul, tt_ldiv, tt_lrem, tt_zeq, tt_zne, tt_zlt, tt_zge, tt_zgt, tt_zle, tt_ceq, tt_cne, tt_clt, tt_cge, tt_cgt, tt_cle, tt_nn, tt_cut, tt_pop, tt_dup, tt_dup2, tt_gI, tt_gR, tt_pI, tt_pZ, tt_pR, tt_ia, tt_ba, tt_za, tt_iS, tt_bS, tt_zS, tt_aa, tt_aS, tt_len, tt_and, tt_xor, tt_shr, tt_ushr, tt_lcmp, tt_i2b, tt_i2l, tt_l2i, tt_sw, swG, tt_ir, tt_zr, tt_br, tt_lr, tt_ar, tt_vr, tt_cV, tt_cS, tt_min, tt_max, tt_acp, pI, pII, pO, pA, pIA, pIIA, pOA, pOIA, pL, pLL, pLIA, pV, pCP, lI, lO, lL, nth, stL, clL, entA, fitL, rcv, List.take_succ_cons, List.take_zero, List.drop_succ_cons, List.drop_zero, List.reverse_cons, List.reverse_nil, List.nil_append, List.cons_append, List.length_cons, List.length_nil, Option.toList_some, Option.toList_none, gI_sI, gI_sA, gR_sI, gR_sA, gI_sR, gR_sR, hN_sI, hN_sA, hN_sR, isO_sI, isO_sA, isO_sR, isAr_sI, isAr_sA, isAr_sR, hC_sI, hC_sA, hC_sR, hZ_sI, hZ_sA, hZ_sR, MW_sI, MW_sA, true_and, and_true, true_or, or_true, and_self, forall_const, imp_self, implies_true, if_true, if_false, false_and, and_false, false_or, or_false, not_false_eq_true, not_true_eq_false, sI_sI, mr_tape w, mr_text w, mr_words w, mr_wordSize w, mr_subs w, mr_subSize w, mr_asked w, mr_pile w, mr_pileSize w, mr_opened w, mr_openedAt w, mr_begun w, mr_cells w, mr_keptCells w, mr_name w, mr_isLeft w, mr_isDone w, mr_keptLeft w, mr_keptDone w, mr_state w, mr_keptState w, mr_newOf w, mr_oldOf w, mr_spare w, mr_spareDone w, mr_out w, mr_metFrom w, mr_metBy w, mr_far w, mr_low w, mr_lows w, mr_lowSize w, mr_triedRow w, mr_triedColumn w, mr_triedValue w, mr_triedRows w, mr_sheet w, ma_tape w, ma_text w, ma_words w, ma_wordSize w, ma_subs w, ma_subSize w, ma_asked w, ma_pile w, ma_pileSize w, ma_opened w, ma_openedAt w, ma_begun w, ma_cells w, ma_keptCells w, ma_name w, ma_isLeft w, ma_isDone w, ma_keptLeft w, ma_keptDone w, ma_state w, ma_keptState w, ma_newOf w, ma_oldOf w, ma_spare w, ma_spareDone w, ma_out w, ma_metFrom w, ma_metBy w, ma_far w, ma_low w, ma_lows w, ma_lowSize w, ma_triedRow w, ma_triedColumn w, ma_triedValue w, ma_triedRows w, ma_sheet w, ml_tape, ml_text, ml_words, ml_wordSize, ml_subs, ml_subSize, ml_asked, ml_pile, ml_pileSize, ml_opened, ml_openedAt, ml_begun, ml_cells, ml_keptCells, ml_name, ml_isLeft, ml_isDone, ml_keptLeft, ml_keptDone, ml_state, ml_keptState, ml_newOf, ml_oldOf, ml_spare, ml_spareDone, ml_out, ml_metFrom, ml_metBy, ml_far, ml_low, ml_lows, ml_lowSize, ml_triedRow, ml_triedColumn, ml_triedValue, ml_triedRows, ml_sheet, mo_O w]
    rw [sI_cells, sI_asked]
    refine ⟨fun q => ⟨⟨by omega, by omega⟩, ?_⟩, fun q => ⟨by omega, by omega, fun q2 => ?_, fun q2 => ⟨⟨by omega, by omega⟩, ⟨k + 1, y4, y5, y6, y7, y8, y9, y10, y11, ?_, by omega, ?_⟩, ?_⟩⟩⟩
    · have ek : k = aN (atM h) := by omega
      unfold pwV at hp
      rw [← ek, if_neg (by omega)] at hp
      exact hp
    · have hv : VV (atM h) k := VV_atM.mpr ⟨by omega, by omega, q2⟩
      have cs := cyN_spec hPm ((hvV k).mpr hv)
      refine ⟨w, VV (atM h), L, (gI h pMo 16).toNat, hv, clo_sI.mpr (TX_clo hX), x2.2, by omega, by omega, fun k k0 k1 => hA.2.2 k k0 (by omega), ⟨k, 1, y7, y8, y9, y10, y11, ?_, (hvV k).mpr hv, by omega, cs.1.1, hpw⟩, ?_⟩
      · rw [fwd_ld hX hA hv, ← hfd]; rfl
      · rw [hmu, muW_50, muW_18]
        simp only [locI, locL, nth]
        exact arW1 (by omega) (by omega)
    · have e1 : pwF v f (k + 1) = pwF v f k := by
        show (if 2147483647 < pwF v f k then pwF v f k else if v k ≠ 0 then _ else pwF v f k) = _
        rw [if_neg (by omega), if_neg (fun z => (VV_atM.mp ((hvV _).mp z)).2.2 q2)]
      rw [e1]
      push_cast
      rfl
    · have e1 : pwF v f (k + 1) = pwF v f k := by
        show (if 2147483647 < pwF v f k then pwF v f k else if v k ≠ 0 then _ else pwF v f k) = _
        rw [if_neg (by omega), if_neg (fun z => (VV_atM.mp ((hvV _).mp z)).2.2 q2)]
      rw [e1]; exact hpw
    · rw [hmu, muW_18, muW_18]
      simp only [locI, nth]
      exact arW2 (by omega) (by omega)
  · rintro ls h' ⟨rfl, k, m, y7, y8, y9, y10, y11, rfl, hk, m1, m2, hpw⟩
    have hkv := (hvV _).mp hk
    have hk' := VV_atM.mp hkv
    have cs := cyN_spec hPm hk
    have im := (hvV _).mp (itB_v hPm hk m)
    have pp := pwF_pos hPm k
    simp (decide := true) only [B_Mo_power_0, B_Mo_power_14, B_Mo_power_18, B_Mo_power_40, B_Mo_power_50, B_Mo_power_73, B_Mo_power_80, B_Mo_power_105, B_Mo_power_125, B_Mo_power_131, Ct_Mo_isWhole, Ct_Mo_leadFrom, tt_ci, tt_cl, tt_nul, tt_il, tt_al, tt_ll, tt_is, tt_as, tt_ls, tt_inc, tt_add, tt_sub, tt_mul, tt_div, tt_rem, tt_ladd, tt_lmul, tt_ldiv, tt_lrem, tt_zeq, tt_zne, tt_zlt, tt_zge, tt_zgt, tt_zle, tt_ceq, tt_cne, tt_clt, tt_cge, tt_cgt, tt_cle, tt_nn, tt_cut, tt_pop, tt_dup, tt_dup2, tt_gI, tt_gR, tt_pI, tt_pZ, tt_pR, tt_ia, tt_ba, tt_za, tt_iS, tt_bS, tt_zS, tt_aa, tt_aS, tt_len, tt_and, tt_xor, tt_shr, tt_ushr, tt_lcmp, tt_i2b, tt_i2l, tt_l2i, tt_sw, swG, tt_ir, tt_zr, tt_br, tt_lr, tt_ar, tt_vr, tt_cV, tt_cS, tt_min, tt_max, tt_acp, pI, pII, pO, pA, pIA, pIIA, pOA, pOIA, pL, pLL, pLIA, pV, pCP, lI, lO, lL, nth, stL, clL, entA, fitL, rcv, List.take_succ_cons, List.take_zero, List.drop_succ_cons, List.drop_zero, List.reverse_cons, List.reverse_nil, List.nil_append, List.cons_append, List.length_cons, List.length_nil, Option.toList_some, Option.toList_none, gI_sI, gI_sA, gR_sI, gR_sA, gI_sR, gR_sR, hN_sI, hN_sA, hN_sR, isO_sI, isO_sA, isO_sR, isAr_sI, isAr_sA, isAr_sR, hC_sI, hC_sA, hC_sR, hZ_sI, hZ_sA, hZ_sR, MW_sI, MW_sA, true_and, and_true, true_or, or_true, and_self, forall_const, imp_self, implies_true, if_true, if_false, false_and, and_false, false_or, or_false, not_false_eq_true, not_true_eq_false, sI_sI, mr_tape w, mr_text w, mr_words w, mr_wordSize w, mr_subs w, mr_subSize w, mr_asked w, mr_pile w, mr_pileSize w, mr_opened w, mr_openedAt w, mr_begun w, mr_cells w, mr_keptCells w, mr_name w, mr_isLeft w, mr_isDone w, mr_keptLeft w, mr_keptDone w, mr_state w, mr_keptState w, mr_newOf w, mr_oldOf w, mr_spare w, mr_spareDone w, mr_out w, mr_metFrom w, mr_metBy w, mr_far w, mr_low w, mr_lows w, mr_lowSize w, mr_triedRow w, mr_triedColumn w, mr_triedValue w, mr_triedRows w, mr_sheet w, ma_tape w, ma_text w, ma_words w, ma_wordSize w, ma_subs w, ma_subSize w, ma_asked w, ma_pile w, ma_pileSize w, ma_opened w, ma_openedAt w, ma_begun w, ma_cells w, ma_keptCells w, ma_name w, ma_isLeft w, ma_isDone w, ma_keptLeft w, ma_keptDone w, ma_state w, ma_keptState w, ma_newOf w, ma_oldOf w, ma_spare w, ma_spareDone w, ma_out w, ma_metFrom w, ma_metBy w, ma_far w, ma_low w, ma_lows w, ma_lowSize w, ma_triedRow w, ma_triedColumn w, ma_triedValue w, ma_triedRows w, ma_sheet w, ml_tape, ml_text, ml_words, ml_wordSize, ml_subs, ml_subSize, ml_asked, ml_pile, ml_pileSize, ml_opened, ml_openedAt, ml_begun, ml_cells, ml_keptCells, ml_name, ml_isLeft, ml_isDone, ml_keptLeft, ml_keptDone, ml_state, ml_keptState, ml_newOf, ml_oldOf, ml_spare, ml_spareDone, ml_out, ml_metFrom, ml_metBy, ml_far, ml_low, ml_lows, ml_lowSize, ml_triedRow, ml_triedColumn, ml_triedValue, ml_triedRows, ml_sheet, mo_O w]
    refine ⟨fun q => ?_, fun q => ?_⟩
    · have out : m = cyN f k := by
        rcases Nat.lt_or_ge m (cyN f k) with y | y
        · exact absurd q (cs.1.2.2 m (by omega) y)
        · omega
      refine ⟨⟨k, pwF v f k, m, y10, y11, by rw [← out], hk, hpw, pp, hpw, by omega, by rw [out]⟩, ?_⟩
      rw [hmu, muW_80, muW_50]
      simp only [locI, locL, nth]
      exact arW3 (by omega) (by omega) (by omega) (by omega)
    · have ne : m ≠ cyN f k := fun z => q (by rw [z]; exact cs.1.2.1)
      refine ⟨⟨by omega, by omega⟩, w, VV (atM h), L, (gI h pMo 16).toNat, im, clo_sI.mpr (TX_clo hX), x2.2, by omega, by omega, fun k k0 k1 => hA.2.2 k k0 (by omega), ⟨k, m + 1, y7, y8, y9, y10, y11, ?_, hk, by omega, by omega, hpw⟩, ?_⟩
      · rw [sI_cells, sI_asked, fwd_ld hX hA im, ← hfd]
        push_cast
        rfl
      · rw [hmu, muW_50, muW_50]
        simp only [locI, locL, nth]
        exact arW4 (by omega) (by omega) (by omega) (by omega)
  · rintro ls h' ⟨rfl, k, a, b, y10, y11, rfl, hk, hpw, a0, a1, b1, hgc⟩
    have hkv := (hvV _).mp hk
    have hk' := VV_atM.mp hkv
    have cs := cyN_spec hPm hk
    have pp := pwF_pos hPm k
    simp (decide := true) only [B_Mo_power_0, B_Mo_power_14, B_Mo_power_18, B_Mo_power_40, B_Mo_power_50, B_Mo_power_73, B_Mo_power_80, B_Mo_power_105, B_Mo_power_125, B_Mo_power_131, Ct_Mo_isWhole, Ct_Mo_leadFrom, tt_ci, tt_cl, tt_nul, tt_il, tt_al, tt_ll, tt_is, tt_as, tt_ls, tt_inc, tt_add, tt_sub, tt_mul, tt_div, tt_rem, tt_ladd, tt_lmul, tt_ldiv, tt_lrem, tt_zeq, tt_zne, tt_zlt, tt_zge, tt_zgt, tt_zle, tt_ceq, tt_cne, tt_clt, tt_cge, tt_cgt, tt_cle, tt_nn, tt_cut, tt_pop, tt_dup, tt_dup2, tt_gI, tt_gR, tt_pI, tt_pZ, tt_pR, tt_ia, tt_ba, tt_za, tt_iS, tt_bS, tt_zS, tt_aa, tt_aS, tt_len, tt_and, tt_xor, tt_shr, tt_ushr, tt_lcmp, tt_i2b, tt_i2l, tt_l2i, tt_sw, swG, tt_ir, tt_zr, tt_br, tt_lr, tt_ar, tt_vr, tt_cV, tt_cS, tt_min, tt_max, tt_acp, pI, pII, pO, pA, pIA, pIIA, pOA, pOIA, pL, pLL, pLIA, pV, pCP, lI, lO, lL, nth, stL, clL, entA, fitL, rcv, List.take_succ_cons, List.take_zero, List.drop_succ_cons, List.drop_zero, List.reverse_cons, List.reverse_nil, List.nil_append, List.cons_append, List.length_cons, List.length_nil, Option.toList_some, Option.toList_none, gI_sI, gI_sA, gR_sI, gR_sA, gI_sR, gR_sR, hN_sI, hN_sA, hN_sR, isO_sI, isO_sA, isO_sR, isAr_sI, isAr_sA, isAr_sR, hC_sI, hC_sA, hC_sR, hZ_sI, hZ_sA, hZ_sR, MW_sI, MW_sA, true_and, and_true, true_or, or_true, and_self, forall_const, imp_self, implies_true, if_true, if_false, false_and, and_false, false_or, or_false, not_false_eq_true, not_true_eq_false, sI_sI, mr_tape w, mr_text w, mr_words w, mr_wordSize w, mr_subs w, mr_subSize w, mr_asked w, mr_pile w, mr_pileSize w, mr_opened w, mr_openedAt w, mr_begun w, mr_cells w, mr_keptCells w, mr_name w, mr_isLeft w, mr_isDone w, mr_keptLeft w, mr_keptDone w, mr_state w, mr_keptState w, mr_newOf w, mr_oldOf w, mr_spare w, mr_spareDone w, mr_out w, mr_metFrom w, mr_metBy w, mr_far w, mr_low w, mr_lows w, mr_lowSize w, mr_triedRow w, mr_triedColumn w, mr_triedValue w, mr_triedRows w, mr_sheet w, ma_tape w, ma_text w, ma_words w, ma_wordSize w, ma_subs w, ma_subSize w, ma_asked w, ma_pile w, ma_pileSize w, ma_opened w, ma_openedAt w, ma_begun w, ma_cells w, ma_keptCells w, ma_name w, ma_isLeft w, ma_isDone w, ma_keptLeft w, ma_keptDone w, ma_state w, ma_keptState w, ma_newOf w, ma_oldOf w, ma_spare w, ma_spareDone w, ma_out w, ma_metFrom w, ma_metBy w, ma_far w, ma_low w, ma_lows w, ma_lowSize w, ma_triedRow w, ma_triedColumn w, ma_triedValue w, ma_triedRows w, ma_sheet w, ml_tape, ml_text, ml_words, ml_wordSize, ml_subs, ml_subSize, ml_asked, ml_pile, ml_pileSize, ml_opened, ml_openedAt, ml_begun, ml_cells, ml_keptCells, ml_name, ml_isLeft, ml_isDone, ml_keptLeft, ml_keptDone, ml_state, ml_keptState, ml_newOf, ml_oldOf, ml_spare, ml_spareDone, ml_out, ml_metFrom, ml_metBy, ml_far, ml_low, ml_lows, ml_lowSize, ml_triedRow, ml_triedColumn, ml_triedValue, ml_triedRows, ml_sheet, mo_O w]
    have cm0 : cmL (b : Int) 0 = 0 ↔ b = 0 := by unfold cmL; split <;> (try split) <;> omega
    rw [cm0]
    refine ⟨fun q => ?_, fun q => ?_⟩
    · rw [q, Nat.gcd_zero_right] at hgc
      have hd : a ∣ pwF v f k := by rw [hgc]; exact Nat.gcd_dvd_left _ _
      have e0 : ((pwF v f k : Nat) : Int) / (a : Int) * ((cyN f k : Nat) : Int) = ((pwF v f k / a * cyN f k : Nat) : Int) := by push_cast; rfl
      have e1 : pwF v f k / a * cyN f k = Nat.lcm (pwF v f k) (cyN f k) := by
        unfold Nat.lcm
        rw [← hgc, Nat.div_mul_right_comm hd]
      have e2 : pwF v f (k + 1) = Nat.lcm (pwF v f k) (cyN f k) := by
        show (if 2147483647 < pwF v f k then pwF v f k else if v k ≠ 0 then _ else pwF v f k) = _
        rw [if_neg (by omega), if_pos hk]
      have bd : pwF v f (k + 1) ≤ 2147483647 * 300 := by
        rw [e2, ← e1]
        exact Nat.mul_le_mul (Nat.le_trans (Nat.div_le_self _ _) hpw) (by omega)
      rw [e0, e1, ← e2]
      have cmB : cmL ((pwF v f (k + 1) : Nat) : Int) 2147483647 ≤ 0 ↔ pwF v f (k + 1) ≤ 2147483647 := by unfold cmL; split <;> (try split) <;> omega
      rw [cmB]
      refine ⟨by omega, by omega, ⟨by omega, by omega⟩, fun q2 => ⟨⟨by omega, by omega⟩, ⟨k + 1, _, _, _, _, _, _, _, _, by push_cast; rfl, by omega, q2⟩, ?_⟩, fun q2 => ?_⟩
      · rw [hmu, muW_18, muW_80]
        simp only [locI, locL, nth]
        exact arW5 (by omega) (by omega) (by omega)
      · have := pwF_stay (v := v) (f := f) (k := k + 1) (by omega) (aN (atM h)) (by omega)
        unfold pwV at hp
        rw [this, if_pos (by omega)] at hp
        exact hp
    · refine ⟨by omega, by omega, ⟨k, b, a % b, some (.inr (.inr ((a : Int) % b))), none, by push_cast; rfl, hk, hpw, by omega, by omega, ?_, ?_⟩, ?_⟩
      · have := Nat.mod_lt a (show 0 < b by omega)
        omega
      · rw [← hgc, Nat.gcd_comm b (a % b), ← Nat.gcd_rec, Nat.gcd_comm]
      · rw [hmu, muW_80, muW_80]
        simp only [locI, locL, nth]
        have := Int.emod_lt_of_pos (a : Int) (show (0 : Int) < b by omega)
        have h2 := Int.emod_nonneg (a : Int) (show (b : Int) ≠ 0 by omega)
        exact arW6 (by omega) (by omega) h2 this
  · simp (decide := true) only [B_Mo_power_0, B_Mo_power_14, B_Mo_power_18, B_Mo_power_40, B_Mo_power_50, B_Mo_power_73, B_Mo_power_80, B_Mo_power_105, B_Mo_power_125, B_Mo_power_131, Ct_Mo_isWhole, Ct_Mo_leadFrom, tt_ci, tt_cl, tt_nul, tt_il, tt_al, tt_ll, tt_is, tt_as, tt_ls, tt_inc, tt_add, tt_sub, tt_mul, tt_div, tt_rem, tt_ladd, tt_lmul, tt_ldiv, tt_lrem, tt_zeq, tt_zne, tt_zlt, tt_zge, tt_zgt, tt_zle, tt_ceq, tt_cne, tt_clt, tt_cge, tt_cgt, tt_cle, tt_nn, tt_cut, tt_pop, tt_dup, tt_dup2, tt_gI, tt_gR, tt_pI, tt_pZ, tt_pR, tt_ia, tt_ba, tt_za, tt_iS, tt_bS, tt_zS, tt_aa, tt_aS, tt_len, tt_and, tt_xor, tt_shr, tt_ushr, tt_lcmp, tt_i2b, tt_i2l, tt_l2i, tt_sw, swG, tt_ir, tt_zr, tt_br, tt_lr, tt_ar, tt_vr, tt_cV, tt_cS, tt_min, tt_max, tt_acp, pI, pII, pO, pA, pIA, pIIA, pOA, pOIA, pL, pLL, pLIA, pV, pCP, lI, lO, lL, nth, stL, clL, entA, fitL, rcv, List.take_succ_cons, List.take_zero, List.drop_succ_cons, List.drop_zero, List.reverse_cons, List.reverse_nil, List.nil_append, List.cons_append, List.length_cons, List.length_nil, Option.toList_some, Option.toList_none, gI_sI, gI_sA, gR_sI, gR_sA, gI_sR, gR_sR, hN_sI, hN_sA, hN_sR, isO_sI, isO_sA, isO_sR, isAr_sI, isAr_sA, isAr_sR, hC_sI, hC_sA, hC_sR, hZ_sI, hZ_sA, hZ_sR, MW_sI, MW_sA, true_and, and_true, true_or, or_true, and_self, forall_const, imp_self, implies_true, if_true, if_false, false_and, and_false, false_or, or_false, not_false_eq_true, not_true_eq_false, sI_sI, mr_tape w, mr_text w, mr_words w, mr_wordSize w, mr_subs w, mr_subSize w, mr_asked w, mr_pile w, mr_pileSize w, mr_opened w, mr_openedAt w, mr_begun w, mr_cells w, mr_keptCells w, mr_name w, mr_isLeft w, mr_isDone w, mr_keptLeft w, mr_keptDone w, mr_state w, mr_keptState w, mr_newOf w, mr_oldOf w, mr_spare w, mr_spareDone w, mr_out w, mr_metFrom w, mr_metBy w, mr_far w, mr_low w, mr_lows w, mr_lowSize w, mr_triedRow w, mr_triedColumn w, mr_triedValue w, mr_triedRows w, mr_sheet w, ma_tape w, ma_text w, ma_words w, ma_wordSize w, ma_subs w, ma_subSize w, ma_asked w, ma_pile w, ma_pileSize w, ma_opened w, ma_openedAt w, ma_begun w, ma_cells w, ma_keptCells w, ma_name w, ma_isLeft w, ma_isDone w, ma_keptLeft w, ma_keptDone w, ma_state w, ma_keptState w, ma_newOf w, ma_oldOf w, ma_spare w, ma_spareDone w, ma_out w, ma_metFrom w, ma_metBy w, ma_far w, ma_low w, ma_lows w, ma_lowSize w, ma_triedRow w, ma_triedColumn w, ma_triedValue w, ma_triedRows w, ma_sheet w, ml_tape, ml_text, ml_words, ml_wordSize, ml_subs, ml_subSize, ml_asked, ml_pile, ml_pileSize, ml_opened, ml_openedAt, ml_begun, ml_cells, ml_keptCells, ml_name, ml_isLeft, ml_isDone, ml_keptLeft, ml_keptDone, ml_state, ml_keptState, ml_newOf, ml_oldOf, ml_spare, ml_spareDone, ml_out, ml_metFrom, ml_metBy, ml_far, ml_low, ml_lows, ml_lowSize, ml_triedRow, ml_triedColumn, ml_triedValue, ml_triedRows, ml_sheet, mo_O w]
    rw [if_pos hwh]
    exact ⟨w, fun _ => ⟨0, none, none, none, none, none, none, none, none, rfl, by omega, by show 1 ≤ 2147483647; omega⟩, fun z => absurd z (by decide)⟩
