/-! THE MODEL: tell, moves, is -/
def AK (L : Int) (h : PH) : Prop := 0 ≤ gI h pMo 16 ∧ gI h pMo 16 ≤ 40 ∧ ∀ k, 0 ≤ k → k < gI h pMo 16 → 0 ≤ gI h pMo_asked k ∧ gI h pMo_asked k < L
def akW (h : PH) : List Int := seg (gI h pMo_asked) 0 (gI h pMo 16).toNat
def tWd (h : PH) (s i : Int) : List Int := if s = 0 then wrdK h i else if s = 1 then subK h i else akW h
def PTl (b : Nat) (j : Int) : Prop := Po b j ∨ b = pMo_out ∨ (b = pMo ∧ j = 46)
def tlBad (h : PH) (s i : Int) : Prop := s < 0 ∨ 2 < s ∨ (s = 0 ∧ (i < 0 ∨ gI h pMo 14 ≤ i)) ∨ (s = 1 ∧ (i < 0 ∨ gI h pMo 15 ≤ i))
def Ct_Mo_tell : CtT := fun av h post => match av with
  | [.inr (.inl (some t)), .inl s, .inl i] => t = pMo ∧ MW h ∧ ∃ L, L ≤ 10 ∧ MWd L h ∧ AK L h ∧ (tlBad h s i → post (some (.inl (-1))) (noH h 4)) ∧ (¬ tlBad h s i → ∀ h', FrP PTl h h' → gdH h' → gI h' pMo 46 = (tWd h s i).length → (∀ k : Nat, k < (tWd h s i).length → gI h' pMo_out k = tbC (wf (tWd h s i) k)) → post (some (.inl (tWd h s i).length)) h')
  | _ => False
def B_Mo_tell_152 : TT := (tt_al 0 (tt_cV 9 1 Ct_Mo_good (tt_al 0 (tt_gI 9 46 tt_ir))))
theorem S_Mo_tell_152 (lc lz : Nat) : Snd md_Mo_tell lc lz 152 (B_Mo_tell_152) := (snd_al_n (n := 0) (dget dd_Mo_tell 86 rfl) rfl (snd_cV (n := 0) met_Mo_good mi_Mo_good ki_Mo_good kv_Mo_good ml_Mo_159 rfl (by decide) (dget dd_Mo_tell 87 rfl) (snd_al_n (n := 0) (dget dd_Mo_tell 88 rfl) rfl (snd_gI (kn := 46) fd_Mo_335 rfl (dget dd_Mo_tell 89 rfl) (snd_ir (dget dd_Mo_tell 90 rfl) rfl)))))
def B_Mo_tell_143 : TT := (tt_cV 9 3 Ct_Mo_tellColumn (tt_inc 3 1 (tt_cut 90)))
theorem S_Mo_tell_143 (lc lz : Nat) : Snd md_Mo_tell lc lz 143 (B_Mo_tell_143) := (snd_cV (n := 2) met_Mo_tellColumn mi_Mo_tellColumn ki_Mo_tellColumn kv_Mo_tellColumn ml_Mo_338 rfl (by decide) (dget dd_Mo_tell 83 rfl) (snd_inc (dget dd_Mo_tell 84 rfl) (snd_goto (tg := 90) (dget dd_Mo_tell 85 rfl) rfl snd_cut)))
def B_Mo_tell_137 : TT := (tt_al 0 (tt_gR 9 13 (tt_il 3 (tt_ia (B_Mo_tell_143)))))
theorem S_Mo_tell_137 (lc lz : Nat) : Snd md_Mo_tell lc lz 137 (B_Mo_tell_137) := (snd_al_n (n := 0) (dget dd_Mo_tell 79 rfl) rfl (snd_gR (kn := 13) fd_Mo_36 rfl (dget dd_Mo_tell 80 rfl) (snd_il_n (n := 3) (dget dd_Mo_tell 81 rfl) rfl (snd_ia (dget dd_Mo_tell 82 rfl) (S_Mo_tell_143 lc lz)))))
def B_Mo_tell_118 : TT := (tt_il 1 (tt_ci 1 (tt_cne (B_Mo_tell_137) (tt_al 0 (tt_gR 9 11 (tt_ci 40 (tt_il 2 (tt_mul (tt_il 3 (tt_add (tt_ia (B_Mo_tell_143))))))))))))
theorem S_Mo_tell_118 (lc lz : Nat) : Snd md_Mo_tell lc lz 118 (B_Mo_tell_118) := (snd_il_n (n := 1) (dget dd_Mo_tell 67 rfl) rfl (snd_iconst (n := 1) (dget dd_Mo_tell 68 rfl) (inR_d rfl) rfl (snd_cne (tg := 137) (dget dd_Mo_tell 69 rfl) rfl (S_Mo_tell_137 lc lz) (snd_al_n (n := 0) (dget dd_Mo_tell 70 rfl) rfl (snd_gR (kn := 11) fd_Mo_30 rfl (dget dd_Mo_tell 71 rfl) (snd_bipush (n := 40) (dget dd_Mo_tell 72 rfl) (inR_d rfl) (by decide) (snd_il_n (n := 2) (dget dd_Mo_tell 73 rfl) rfl (snd_mul (dget dd_Mo_tell 74 rfl) (snd_il_n (n := 3) (dget dd_Mo_tell 75 rfl) rfl (snd_add (dget dd_Mo_tell 76 rfl) (snd_ia (dget dd_Mo_tell 77 rfl) (snd_goto (tg := 143) (dget dd_Mo_tell 78 rfl) rfl (S_Mo_tell_143 lc lz)))))))))))))
def B_Mo_tell_90 : TT := (tt_il 3 (tt_al 0 (tt_gI 9 46 (tt_cge (B_Mo_tell_152) (tt_al 0 (tt_il 3 (tt_il 1 (tt_zne (B_Mo_tell_118) (tt_al 0 (tt_gR 9 9 (tt_ci 40 (tt_il 2 (tt_mul (tt_il 3 (tt_add (tt_ia (B_Mo_tell_143)))))))))))))))))
theorem S_Mo_tell_90 (lc lz : Nat) : Snd md_Mo_tell lc lz 90 (B_Mo_tell_90) := (snd_il_n (n := 3) (dget dd_Mo_tell 50 rfl) rfl (snd_al_n (n := 0) (dget dd_Mo_tell 51 rfl) rfl (snd_gI (kn := 46) fd_Mo_335 rfl (dget dd_Mo_tell 52 rfl) (snd_cge (tg := 152) (dget dd_Mo_tell 53 rfl) rfl (S_Mo_tell_152 lc lz) (snd_al_n (n := 0) (dget dd_Mo_tell 54 rfl) rfl (snd_il_n (n := 3) (dget dd_Mo_tell 55 rfl) rfl (snd_il_n (n := 1) (dget dd_Mo_tell 56 rfl) rfl (snd_zne (tg := 118) (dget dd_Mo_tell 57 rfl) rfl (S_Mo_tell_118 lc lz) (snd_al_n (n := 0) (dget dd_Mo_tell 58 rfl) rfl (snd_gR (kn := 9) fd_Mo_23 rfl (dget dd_Mo_tell 59 rfl) (snd_bipush (n := 40) (dget dd_Mo_tell 60 rfl) (inR_d rfl) (by decide) (snd_il_n (n := 2) (dget dd_Mo_tell 61 rfl) rfl (snd_mul (dget dd_Mo_tell 62 rfl) (snd_il_n (n := 3) (dget dd_Mo_tell 63 rfl) rfl (snd_add (dget dd_Mo_tell 64 rfl) (snd_ia (dget dd_Mo_tell 65 rfl) (snd_goto (tg := 143) (dget dd_Mo_tell 66 rfl) rfl (S_Mo_tell_143 lc lz))))))))))))))))))
def B_Mo_tell_85 : TT := (tt_pI 9 46 (tt_ci 0 (tt_is 3 (tt_cut 90))))
theorem S_Mo_tell_85 (lc lz : Nat) : Snd md_Mo_tell lc lz 85 (B_Mo_tell_85) := (snd_pI (kn := 46) fd_Mo_335 rfl (dget dd_Mo_tell 47 rfl) (snd_iconst (n := 0) (dget dd_Mo_tell 48 rfl) (inR_d rfl) rfl (snd_is_n (n := 3) (dget dd_Mo_tell 49 rfl) rfl snd_cut)))
def B_Mo_tell_81 : TT := (tt_al 0 (tt_gI 9 16 (B_Mo_tell_85)))
theorem S_Mo_tell_81 (lc lz : Nat) : Snd md_Mo_tell lc lz 81 (B_Mo_tell_81) := (snd_al_n (n := 0) (dget dd_Mo_tell 45 rfl) rfl (snd_gI (kn := 16) fd_Mo_149 rfl (dget dd_Mo_tell 46 rfl) (S_Mo_tell_85 lc lz)))
def B_Mo_tell_67 : TT := (tt_il 1 (tt_ci 1 (tt_cne (B_Mo_tell_81) (tt_al 0 (tt_gR 9 12 (tt_il 2 (tt_ia (B_Mo_tell_85))))))))
theorem S_Mo_tell_67 (lc lz : Nat) : Snd md_Mo_tell lc lz 67 (B_Mo_tell_67) := (snd_il_n (n := 1) (dget dd_Mo_tell 37 rfl) rfl (snd_iconst (n := 1) (dget dd_Mo_tell 38 rfl) (inR_d rfl) rfl (snd_cne (tg := 81) (dget dd_Mo_tell 39 rfl) rfl (S_Mo_tell_81 lc lz) (snd_al_n (n := 0) (dget dd_Mo_tell 40 rfl) rfl (snd_gR (kn := 12) fd_Mo_33 rfl (dget dd_Mo_tell 41 rfl) (snd_il_n (n := 2) (dget dd_Mo_tell 42 rfl) rfl (snd_ia (dget dd_Mo_tell 43 rfl) (snd_goto (tg := 85) (dget dd_Mo_tell 44 rfl) rfl (S_Mo_tell_85 lc lz)))))))))
def B_Mo_tell_53 : TT := (tt_al 0 (tt_il 1 (tt_zne (B_Mo_tell_67) (tt_al 0 (tt_gR 9 10 (tt_il 2 (tt_ia (B_Mo_tell_85))))))))
theorem S_Mo_tell_53 (lc lz : Nat) : Snd md_Mo_tell lc lz 53 (B_Mo_tell_53) := (snd_al_n (n := 0) (dget dd_Mo_tell 29 rfl) rfl (snd_il_n (n := 1) (dget dd_Mo_tell 30 rfl) rfl (snd_zne (tg := 67) (dget dd_Mo_tell 31 rfl) rfl (S_Mo_tell_67 lc lz) (snd_al_n (n := 0) (dget dd_Mo_tell 32 rfl) rfl (snd_gR (kn := 10) fd_Mo_27 rfl (dget dd_Mo_tell 33 rfl) (snd_il_n (n := 2) (dget dd_Mo_tell 34 rfl) rfl (snd_ia (dget dd_Mo_tell 35 rfl) (snd_goto (tg := 85) (dget dd_Mo_tell 36 rfl) rfl (S_Mo_tell_85 lc lz)))))))))
def B_Mo_tell_47 : TT := (tt_al 0 (tt_ci 4 (tt_cV 9 2 Ct_Mo_no tt_ir)))
theorem S_Mo_tell_47 (lc lz : Nat) : Snd md_Mo_tell lc lz 47 (B_Mo_tell_47) := (snd_al_n (n := 0) (dget dd_Mo_tell 25 rfl) rfl (snd_iconst (n := 4) (dget dd_Mo_tell 26 rfl) (inR_d rfl) rfl (snd_cV (n := 1) met_Mo_no mi_Mo_no ki_Mo_no kv_Mo_no ml_Mo_221 rfl (by decide) (dget dd_Mo_tell 27 rfl) (snd_ir (dget dd_Mo_tell 28 rfl) rfl))))
def B_Mo_tell_30 : TT := (tt_il 1 (tt_ci 1 (tt_cne (B_Mo_tell_53) (tt_il 2 (tt_zlt (B_Mo_tell_47) (tt_il 2 (tt_al 0 (tt_gI 9 15 (tt_clt (B_Mo_tell_53) (B_Mo_tell_47))))))))))
theorem S_Mo_tell_30 (lc lz : Nat) : Snd md_Mo_tell lc lz 30 (B_Mo_tell_30) := (snd_il_n (n := 1) (dget dd_Mo_tell 16 rfl) rfl (snd_iconst (n := 1) (dget dd_Mo_tell 17 rfl) (inR_d rfl) rfl (snd_cne (tg := 53) (dget dd_Mo_tell 18 rfl) rfl (S_Mo_tell_53 lc lz) (snd_il_n (n := 2) (dget dd_Mo_tell 19 rfl) rfl (snd_zlt (tg := 47) (dget dd_Mo_tell 20 rfl) rfl (S_Mo_tell_47 lc lz) (snd_il_n (n := 2) (dget dd_Mo_tell 21 rfl) rfl (snd_al_n (n := 0) (dget dd_Mo_tell 22 rfl) rfl (snd_gI (kn := 15) fd_Mo_146 rfl (dget dd_Mo_tell 23 rfl) (snd_clt (tg := 53) (dget dd_Mo_tell 24 rfl) rfl (S_Mo_tell_53 lc lz) (S_Mo_tell_47 lc lz))))))))))
def B_Mo_tell_0 : TT := (tt_al 0 (tt_ci 0 (tt_pI 9 4 (tt_il 1 (tt_zlt (B_Mo_tell_47) (tt_il 1 (tt_ci 2 (tt_cgt (B_Mo_tell_47) (tt_il 1 (tt_zne (B_Mo_tell_30) (tt_il 2 (tt_zlt (B_Mo_tell_47) (tt_il 2 (tt_al 0 (tt_gI 9 14 (tt_cge (B_Mo_tell_47) (B_Mo_tell_30)))))))))))))))))
theorem S_Mo_tell_0 (lc lz : Nat) : Snd md_Mo_tell lc lz 0 (B_Mo_tell_0) := (snd_al_n (n := 0) (dget dd_Mo_tell 0 rfl) rfl (snd_iconst (n := 0) (dget dd_Mo_tell 1 rfl) (inR_d rfl) rfl (snd_pI (kn := 4) fd_Mo_130 rfl (dget dd_Mo_tell 2 rfl) (snd_il_n (n := 1) (dget dd_Mo_tell 3 rfl) rfl (snd_zlt (tg := 47) (dget dd_Mo_tell 4 rfl) rfl (S_Mo_tell_47 lc lz) (snd_il_n (n := 1) (dget dd_Mo_tell 5 rfl) rfl (snd_iconst (n := 2) (dget dd_Mo_tell 6 rfl) (inR_d rfl) rfl (snd_cgt (tg := 47) (dget dd_Mo_tell 7 rfl) rfl (S_Mo_tell_47 lc lz) (snd_il_n (n := 1) (dget dd_Mo_tell 8 rfl) rfl (snd_zne (tg := 30) (dget dd_Mo_tell 9 rfl) rfl (S_Mo_tell_30 lc lz) (snd_il_n (n := 2) (dget dd_Mo_tell 10 rfl) rfl (snd_zlt (tg := 47) (dget dd_Mo_tell 11 rfl) rfl (S_Mo_tell_47 lc lz) (snd_il_n (n := 2) (dget dd_Mo_tell 12 rfl) rfl (snd_al_n (n := 0) (dget dd_Mo_tell 13 rfl) rfl (snd_gI (kn := 14) fd_Mo_143 rfl (dget dd_Mo_tell 14 rfl) (snd_cge (tg := 47) (dget dd_Mo_tell 15 rfl) rfl (S_Mo_tell_47 lc lz) (S_Mo_tell_30 lc lz)))))))))))))))))
theorem tWd_ok {L : Int} {h : PH} {s i : Int} (hD : MWd L h) (hA : AK L h) (hb : ¬ tlBad h s i) : (tWd h s i).length ≤ 40 ∧ ∀ c, c ∈ tWd h s i → 0 ≤ c ∧ c < L := by
  unfold tlBad at hb
  unfold tWd
  split
  · have := OKw_mem hD.1 _ (wrdK_mem (h := h) (i := i.toNat) (by omega))
    rw [show ((i.toNat : Nat) : Int) = i by omega] at this
    exact this
  · split
    · have := OKw_mem hD.2.2.1 _ (subK_mem (h := h) (i := i.toNat) (by omega))
      rw [show ((i.toNat : Nat) : Int) = i by omega] at this
      exact this
    · unfold akW
      have h1 := hA.1
      have h2 := hA.2.1
      refine ⟨by rw [seg_len]; omega, seg_mem (fun k hk => ?_)⟩
      rw [show (0 : Int) + k = k by omega]
      exact hA.2.2 k (by omega) (by omega)
theorem met_Mo_tell : MetP y_Mo_tell md_Mo_tell (fun _ => 0) (fun _ => 0) Ct_Mo_tell := by
  refine metL1 (body := B_Mo_tell_0) (B1 := B_Mo_tell_90) (by decide) rfl rfl (fun lc lz => S_Mo_tell_0 lc lz) (fun lc lz => S_Mo_tell_90 lc lz) ?_
  intro av h post hc hH hav
  unfold Ct_Mo_tell at hc
  split at hc
  rotate_left
  · exact hc.elim
  rename_i t s i
  obtain ⟨rfl, w, L, hL, hD, hA, hp0, hp⟩ := hc
  refine ⟨Nat.le_of_ble_eq_true rfl, ?_⟩
  have h14 := hD.2.1
  have h15 := hD.2.2.2
  have hA1 := hA.1
  have hA2 := hA.2.1
  refine ⟨fun ls h' => ¬ tlBad h s i ∧ ∃ k : Nat, ls = [some (.inr (.inl (some pMo))), some (.inl s), some (.inl i), some (.inl k)] ∧ k ≤ (tWd h s i).length ∧ FrP PTl h h' ∧ gI h' pMo 4 = 0 ∧ gI h' pMo 46 = (tWd h s i).length ∧ (∀ j : Nat, j < k → gI h' pMo_out j = tbC (wf (tWd h s i) j)), fun _ ls _ => (40 - locI ls 3).toNat, ?_, ?_⟩
  · rintro ls h' ⟨hb, k, rfl, hk, hF, h4, h46, ho⟩
    obtain ⟨t1, t2⟩ := tWd_ok hD hA hb
    have w1 := FrP_MW hF w
    have e1 : gI h' pMo_words = gI h pMo_words := FrP_arr hF (fun j z => by unfold PTl Po at z; simp (decide := true) at z)
    have e2 : gI h' pMo_subs = gI h pMo_subs := FrP_arr hF (fun j z => by unfold PTl Po at z; simp (decide := true) at z)
    have e3 : gI h' pMo_asked = gI h pMo_asked := FrP_arr hF (fun j z => by unfold PTl Po at z; simp (decide := true) at z)
    simp (decide := true) only [B_Mo_tell_0, B_Mo_tell_30, B_Mo_tell_47, B_Mo_tell_53, B_Mo_tell_67, B_Mo_tell_81, B_Mo_tell_85, B_Mo_tell_90, B_Mo_tell_118, B_Mo_tell_137, B_Mo_tell_143, B_Mo_tell_152, Ct_Mo_no, Ct_Mo_tellColumn, Ct_Mo_good, tt_ci, tt_cl, tt_nul, tt_il, tt_al, tt_ll, tt_is, tt_as, tt_ls, tt_inc, tt_add, tt_sub, tt_mul, tt_div, tt_rem, tt_ladd, tt_lmul, tt_ldiv, tt_lrem, tt_zeq, tt_zne, tt_zlt, tt_zge, tt_zgt, tt_zle, tt_ceq, tt_cne, tt_clt, tt_cge, tt_cgt, tt_cle, tt_nn, tt_cut, tt_pop, tt_dup, tt_dup2, tt_gI, tt_gR, tt_pI, tt_pZ, tt_pR, tt_ia, tt_ba, tt_za, tt_iS, tt_bS, tt_zS, tt_aa, tt_aS, tt_len, tt_and, tt_xor, tt_shr, tt_ushr, tt_lcmp, tt_i2b, tt_i2l, tt_l2i, tt_sw, swG, tt_ir, tt_zr, tt_br, tt_lr, tt_ar, tt_vr, tt_cV, tt_cS, tt_min, tt_max, tt_acp, pI, pII, pO, pA, pIA, pIIA, pOA, pOIA, pL, pLL, pLIA, pV, pCP, lI, lO, lL, nth, stL, clL, entA, fitL, rcv, List.take_succ_cons, List.take_zero, List.drop_succ_cons, List.drop_zero, List.reverse_cons, List.reverse_nil, List.nil_append, List.cons_append, List.length_cons, List.length_nil, Option.toList_some, Option.toList_none, gI_sI, gI_sA, gR_sI, gR_sA, gI_sR, gR_sR, hN_sI, hN_sA, hN_sR, isO_sI, isO_sA, isO_sR, isAr_sI, isAr_sA, isAr_sR, hC_sI, hC_sA, hC_sR, hZ_sI, hZ_sA, hZ_sR, MW_sI, MW_sA, true_and, and_true, true_or, or_true, and_self, forall_const, imp_self, implies_true, if_true, if_false, false_and, and_false, false_or, or_false, not_false_eq_true, not_true_eq_false, sI_sI, mr_tape w1, mr_text w1, mr_words w1, mr_wordSize w1, mr_subs w1, mr_subSize w1, mr_asked w1, mr_pile w1, mr_pileSize w1, mr_opened w1, mr_openedAt w1, mr_begun w1, mr_cells w1, mr_keptCells w1, mr_name w1, mr_isLeft w1, mr_isDone w1, mr_keptLeft w1, mr_keptDone w1, mr_state w1, mr_keptState w1, mr_newOf w1, mr_oldOf w1, mr_spare w1, mr_spareDone w1, mr_out w1, mr_metFrom w1, mr_metBy w1, mr_far w1, mr_low w1, mr_lows w1, mr_lowSize w1, mr_triedRow w1, mr_triedColumn w1, mr_triedValue w1, mr_triedRows w1, mr_sheet w1, ma_tape w1, ma_text w1, ma_words w1, ma_wordSize w1, ma_subs w1, ma_subSize w1, ma_asked w1, ma_pile w1, ma_pileSize w1, ma_opened w1, ma_openedAt w1, ma_begun w1, ma_cells w1, ma_keptCells w1, ma_name w1, ma_isLeft w1, ma_isDone w1, ma_keptLeft w1, ma_keptDone w1, ma_state w1, ma_keptState w1, ma_newOf w1, ma_oldOf w1, ma_spare w1, ma_spareDone w1, ma_out w1, ma_metFrom w1, ma_metBy w1, ma_far w1, ma_low w1, ma_lows w1, ma_lowSize w1, ma_triedRow w1, ma_triedColumn w1, ma_triedValue w1, ma_triedRows w1, ma_sheet w1, ml_tape, ml_text, ml_words, ml_wordSize, ml_subs, ml_subSize, ml_asked, ml_pile, ml_pileSize, ml_opened, ml_openedAt, ml_begun, ml_cells, ml_keptCells, ml_name, ml_isLeft, ml_isDone, ml_keptLeft, ml_keptDone, ml_state, ml_keptState, ml_newOf, ml_oldOf, ml_spare, ml_spareDone, ml_out, ml_metFrom, ml_metBy, ml_far, ml_low, ml_lows, ml_lowSize, ml_triedRow, ml_triedColumn, ml_triedValue, ml_triedRows, ml_sheet, mo_O w1, h46, e1, e2, e3, locI, nth]
    have lt : k < (tWd h s i).length → wf (tWd h s i) k ∈ tWd h s i := fun z => wf_mem z
    have go : ∀ v, k < (tWd h s i).length → v = wf (tWd h s i) k → (0 ≤ v ∧ v < 10) ∧ (¬ tlBad h s i ∧ ∃ k_1 : Nat, ([some (.inr (.inl (some pMo))), some (.inl s), some (.inl i), some (.inl ((k : Int) + 1))] : LSt) = [some (.inr (.inl (some pMo))), some (.inl s), some (.inl i), some (.inl k_1)] ∧ k_1 ≤ (tWd h s i).length ∧ FrP PTl h (sI h' pMo_out k (bm ((if v % 2 = 0 then 97 else 65) + v / 2))) ∧ gI h' pMo 4 = 0 ∧ ∀ j : Nat, j < k_1 → (if (j : Int) = k then bm ((if v % 2 = 0 then 97 else 65) + v / 2) else gI h' pMo_out j) = tbC (wf (tWd h s i) j)) ∧ (40 - ((k : Int) + 1)).toNat < (40 - (k : Int)).toNat := by
      intro v z e
      have m := t2 _ (lt z)
      rw [← e] at m
      refine ⟨⟨m.1, by omega⟩, ⟨hb, k + 1, by push_cast; rfl, z, FrP_sI (Or.inr (Or.inl rfl)) hF, h4, fun j hj => ?_⟩, by omega⟩
      by_cases y : j = k
      · rw [y, if_pos rfl, e]; rfl
      · rw [if_neg (by omega)]; exact ho j (by omega)
    refine ⟨fun q => ⟨w1, hp hb _ (FrP_sI (Or.inl ⟨rfl, by omega, by omega⟩) (FrP_sI (Or.inl ⟨rfl, by omega, by omega⟩) hF)) ?_ ?_ ?_, hF.2.2.2.1, hF.2.2.2.2⟩, fun q => ⟨fun q0 => ⟨fun q1 => ?_, fun q1 => ?_⟩, fun q0 => ?_⟩⟩
    · unfold gdH
      simp (decide := true) only [gI_sI, if_true, if_false, h4, and_self]
    · simp (decide := true) only [gI_sI, if_false, h46, and_false]
    · intro j hj
      simp (decide := true) only [gI_sI, if_false, false_and]
      exact ho j (by omega)
    · have e : tWd h s i = akW h := by unfold tWd; rw [if_neg q0, if_neg q1]
      have ev : gI h pMo_asked k = wf (tWd h s i) k := by
        have hl : (akW h).length = (gI h pMo 16).toNat := seg_len
        rw [e] at q ⊢
        have := seg_wf (g := gI h pMo_asked) (n := (gI h pMo 16).toNat) (f := 0) (k := k) (by omega)
        rw [show (0 : Int) + k = k by omega] at this
        exact this
      obtain ⟨g1, g2, g3⟩ := go _ (by omega) ev
      exact ⟨by omega, by omega, w1, by omega, by omega, g1.1, g1.2, ⟨by omega, by omega⟩, g2, g3⟩
    · have e : tWd h s i = subK h i := by unfold tWd; rw [if_neg q0, if_pos q1]
      have hi : 0 ≤ i ∧ i < gI h pMo 15 := by unfold tlBad at hb; omega
      have hs := hD.2.2.1.2 i hi.1 hi.2
      have ev : gI h pMo_subs (40 * i + k) = wf (tWd h s i) k := by
        have hl : (subK h i).length = (gI h pMo_subSize i).toNat := seg_len
        rw [e] at q ⊢
        exact seg_wf (by omega)
      obtain ⟨g1, g2, g3⟩ := go _ (by omega) ev
      exact ⟨⟨by omega, by omega⟩, ⟨by omega, by omega⟩, by omega, by omega, w1, by omega, by omega, g1.1, g1.2, ⟨by omega, by omega⟩, g2, g3⟩
    · have e : tWd h s i = wrdK h i := by unfold tWd; rw [if_pos q0]
      have hi : 0 ≤ i ∧ i < gI h pMo 14 := by unfold tlBad at hb; omega
      have hs := hD.1.2 i hi.1 hi.2
      have ev : gI h pMo_words (40 * i + k) = wf (tWd h s i) k := by
        have hl : (wrdK h i).length = (gI h pMo_wordSize i).toNat := seg_len
        rw [e] at q ⊢
        exact seg_wf (by omega)
      obtain ⟨g1, g2, g3⟩ := go _ (by omega) ev
      exact ⟨⟨by omega, by omega⟩, ⟨by omega, by omega⟩, by omega, by omega, w1, by omega, by omega, g1.1, g1.2, ⟨by omega, by omega⟩, g2, g3⟩
  · simp (decide := true) only [B_Mo_tell_0, B_Mo_tell_30, B_Mo_tell_47, B_Mo_tell_53, B_Mo_tell_67, B_Mo_tell_81, B_Mo_tell_85, B_Mo_tell_90, B_Mo_tell_118, B_Mo_tell_137, B_Mo_tell_143, B_Mo_tell_152, Ct_Mo_no, Ct_Mo_tellColumn, Ct_Mo_good, tt_ci, tt_cl, tt_nul, tt_il, tt_al, tt_ll, tt_is, tt_as, tt_ls, tt_inc, tt_add, tt_sub, tt_mul, tt_div, tt_rem, tt_ladd, tt_lmul, tt_ldiv, tt_lrem, tt_zeq, tt_zne, tt_zlt, tt_zge, tt_zgt, tt_zle, tt_ceq, tt_cne, tt_clt, tt_cge, tt_cgt, tt_cle, tt_nn, tt_cut, tt_pop, tt_dup, tt_dup2, tt_gI, tt_gR, tt_pI, tt_pZ, tt_pR, tt_ia, tt_ba, tt_za, tt_iS, tt_bS, tt_zS, tt_aa, tt_aS, tt_len, tt_and, tt_xor, tt_shr, tt_ushr, tt_lcmp, tt_i2b, tt_i2l, tt_l2i, tt_sw, swG, tt_ir, tt_zr, tt_br, tt_lr, tt_ar, tt_vr, tt_cV, tt_cS, tt_min, tt_max, tt_acp, pI, pII, pO, pA, pIA, pIIA, pOA, pOIA, pL, pLL, pLIA, pV, pCP, lI, lO, lL, nth, stL, clL, entA, fitL, rcv, List.take_succ_cons, List.take_zero, List.drop_succ_cons, List.drop_zero, List.reverse_cons, List.reverse_nil, List.nil_append, List.cons_append, List.length_cons, List.length_nil, Option.toList_some, Option.toList_none, gI_sI, gI_sA, gR_sI, gR_sA, gI_sR, gR_sR, hN_sI, hN_sA, hN_sR, isO_sI, isO_sA, isO_sR, isAr_sI, isAr_sA, isAr_sR, hC_sI, hC_sA, hC_sR, hZ_sI, hZ_sA, hZ_sR, MW_sI, MW_sA, true_and, and_true, true_or, or_true, and_self, forall_const, imp_self, implies_true, if_true, if_false, false_and, and_false, false_or, or_false, not_false_eq_true, not_true_eq_false, sI_sI, mr_tape w, mr_text w, mr_words w, mr_wordSize w, mr_subs w, mr_subSize w, mr_asked w, mr_pile w, mr_pileSize w, mr_opened w, mr_openedAt w, mr_begun w, mr_cells w, mr_keptCells w, mr_name w, mr_isLeft w, mr_isDone w, mr_keptLeft w, mr_keptDone w, mr_state w, mr_keptState w, mr_newOf w, mr_oldOf w, mr_spare w, mr_spareDone w, mr_out w, mr_metFrom w, mr_metBy w, mr_far w, mr_low w, mr_lows w, mr_lowSize w, mr_triedRow w, mr_triedColumn w, mr_triedValue w, mr_triedRows w, mr_sheet w, ma_tape w, ma_text w, ma_words w, ma_wordSize w, ma_subs w, ma_subSize w, ma_asked w, ma_pile w, ma_pileSize w, ma_opened w, ma_openedAt w, ma_begun w, ma_cells w, ma_keptCells w, ma_name w, ma_isLeft w, ma_isDone w, ma_keptLeft w, ma_keptDone w, ma_state w, ma_keptState w, ma_newOf w, ma_oldOf w, ma_spare w, ma_spareDone w, ma_out w, ma_metFrom w, ma_metBy w, ma_far w, ma_low w, ma_lows w, ma_lowSize w, ma_triedRow w, ma_triedColumn w, ma_triedValue w, ma_triedRows w, ma_sheet w, ml_tape, ml_text, ml_words, ml_wordSize, ml_subs, ml_subSize, ml_asked, ml_pile, ml_pileSize, ml_opened, ml_openedAt, ml_begun, ml_cells, ml_keptCells, ml_name, ml_isLeft, ml_isDone, ml_keptLeft, ml_keptDone, ml_state, ml_keptState, ml_newOf, ml_oldOf, ml_spare, ml_spareDone, ml_out, ml_metFrom, ml_metBy, ml_far, ml_low, ml_lows, ml_lowSize, ml_triedRow, ml_triedColumn, ml_triedValue, ml_triedRows, ml_sheet, mo_O w]
    have start : ∀ v, ¬ tlBad h s i → v = ((tWd h s i).length : Int) → ∃ k : Nat, ([some (.inr (.inl (some pMo))), some (.inl s), some (.inl i), some (.inl 0)] : LSt) = [some (.inr (.inl (some pMo))), some (.inl s), some (.inl i), some (.inl k)] ∧ k ≤ (tWd h s i).length ∧ FrP PTl h (sI (sI h pMo 4 0) pMo 46 v) ∧ v = (tWd h s i).length ∧ ∀ j : Nat, j < k → gI h pMo_out j = tbC (wf (tWd h s i) j) := by
      intro v hb e
      exact ⟨0, rfl, by omega, FrP_sI (Or.inr (Or.inr ⟨rfl, rfl⟩)) (FrP_sI (Or.inl ⟨rfl, by omega, by omega⟩) (FrP_refl _ h)), e, fun j hj => by omega⟩
    have s2 : ¬ s = 0 → ¬ s = 1 → gI h pMo 16 = ((tWd h s i).length : Int) := by
      intro q0 q1
      have e : tWd h s i = akW h := by unfold tWd; rw [if_neg q0, if_neg q1]
      have hl : (akW h).length = (gI h pMo 16).toNat := seg_len
      rw [e]
      omega
    have s1 : s = 1 → 0 ≤ i → i < gI h pMo 15 → gI h pMo_subSize i = ((tWd h s i).length : Int) := by
      intro q1 i0 i1
      have e : tWd h s i = subK h i := by unfold tWd; rw [if_neg (by omega), if_pos q1]
      have hl : (subK h i).length = (gI h pMo_subSize i).toNat := seg_len
      have hs := hD.2.2.1.2 i i0 i1
      rw [e]
      omega
    have s0 : s = 0 → 0 ≤ i → i < gI h pMo 14 → gI h pMo_wordSize i = ((tWd h s i).length : Int) := by
      intro q1 i0 i1
      have e : tWd h s i = wrdK h i := by unfold tWd; rw [if_pos q1]
      have hl : (wrdK h i).length = (gI h pMo_wordSize i).toNat := seg_len
      have hs := hD.1.2 i i0 i1
      rw [e]
      omega
    by_cases b : tlBad h s i
    · have hno := hp0 b
      have b' := b
      unfold tlBad at b'
      repeat' (first | exact ⟨w, hno⟩ | apply And.intro | intro _)
      all_goals (exfalso; omega)
    · have b' := b
      unfold tlBad at b'
      repeat' (first | exact b | apply And.intro | intro _)
      all_goals (first | exact w | exact b | exact start _ b (s2 (by assumption) (by assumption)) | exact start _ b (s1 (by omega) (by omega) (by omega)) | exact start _ b (s0 (by omega) (by omega) (by omega)) | omega | (exfalso; omega))
def ldA (a : AT) (u : List Int) (r : Int) : Int := if (goF (aE a) u r).2 = u.length then (goF (aE a) u r).1 else -2
theorem fwd_ld {L Q : Int} {h : PH} (hX : TX L Q h) (hA : AK L h) {r : Int} (hr : VV (atM h) r) : fwd (gI h pMo_cells) (gI h pMo_asked) 0 (gI h pMo 16).toNat r = ldA (atM h) (akW h) r := by
  have h1 := hA.1
  rw [fwd_goF hX.2.2.1 hX.2.1.2 hr (fun k hk => by rw [show (0 : Int) + k = k by omega]; exact hA.2.2 k (by omega) (by omega))]
  unfold ldA akW
  rw [seg_len]
def Ct_Mo_moves : CtT := fun av h post => match av with
  | [.inr (.inl (some t))] => t = pMo ∧ MW h ∧ ∃ (L Q : Int), TX L Q h ∧ AK L h ∧ ((∃ r, VV (atM h) r ∧ ldA (atM h) (akW h) r ≠ r) → post (some (.inl 1)) h) ∧ ((∀ r, VV (atM h) r → ldA (atM h) (akW h) r = r) → post (some (.inl 0)) h)
  | _ => False
def B_Mo_moves_38 : TT := (tt_ci 0 tt_zr)
theorem S_Mo_moves_38 (lc lz : Nat) : Snd md_Mo_moves lc lz 38 (B_Mo_moves_38) := (snd_iconst (n := 0) (dget dd_Mo_moves 22 rfl) (inR_d rfl) rfl (snd_zr (dget dd_Mo_moves 23 rfl) rfl))
def B_Mo_moves_32 : TT := (tt_inc 1 1 (tt_cut 2))
theorem S_Mo_moves_32 (lc lz : Nat) : Snd md_Mo_moves lc lz 32 (B_Mo_moves_32) := (snd_inc (dget dd_Mo_moves 20 rfl) (snd_goto (tg := 2) (dget dd_Mo_moves 21 rfl) rfl snd_cut))
def B_Mo_moves_2 : TT := (tt_il 1 (tt_al 0 (tt_gR 9 30 (tt_ci 0 (tt_ia (tt_cge (B_Mo_moves_38) (tt_al 0 (tt_gR 9 26 (tt_il 1 (tt_za (tt_zeq (B_Mo_moves_32) (tt_al 0 (tt_il 1 (tt_cV 9 2 Ct_Mo_leadFrom (tt_il 1 (tt_ceq (B_Mo_moves_32) (tt_ci 1 tt_zr)))))))))))))))))
theorem S_Mo_moves_2 (lc lz : Nat) : Snd md_Mo_moves lc lz 2 (B_Mo_moves_2) := (snd_il_n (n := 1) (dget dd_Mo_moves 2 rfl) rfl (snd_al_n (n := 0) (dget dd_Mo_moves 3 rfl) rfl (snd_gR (kn := 30) fd_Mo_76 rfl (dget dd_Mo_moves 4 rfl) (snd_iconst (n := 0) (dget dd_Mo_moves 5 rfl) (inR_d rfl) rfl (snd_ia (dget dd_Mo_moves 6 rfl) (snd_cge (tg := 38) (dget dd_Mo_moves 7 rfl) rfl (S_Mo_moves_38 lc lz) (snd_al_n (n := 0) (dget dd_Mo_moves 8 rfl) rfl (snd_gR (kn := 26) fd_Mo_63 rfl (dget dd_Mo_moves 9 rfl) (snd_il_n (n := 1) (dget dd_Mo_moves 10 rfl) rfl (snd_za (dget dd_Mo_moves 11 rfl) (snd_zeq (tg := 32) (dget dd_Mo_moves 12 rfl) rfl (S_Mo_moves_32 lc lz) (snd_al_n (n := 0) (dget dd_Mo_moves 13 rfl) rfl (snd_il_n (n := 1) (dget dd_Mo_moves 14 rfl) rfl (snd_cV (n := 1) met_Mo_leadFrom mi_Mo_leadFrom ki_Mo_leadFrom kv_Mo_leadFrom ml_Mo_323 rfl (by decide) (dget dd_Mo_moves 15 rfl) (snd_il_n (n := 1) (dget dd_Mo_moves 16 rfl) rfl (snd_ceq (tg := 32) (dget dd_Mo_moves 17 rfl) rfl (S_Mo_moves_32 lc lz) (snd_iconst (n := 1) (dget dd_Mo_moves 18 rfl) (inR_d rfl) rfl (snd_zr (dget dd_Mo_moves 19 rfl) rfl))))))))))))))))))
def B_Mo_moves_0 : TT := (tt_ci 0 (tt_is 1 (tt_cut 2)))
theorem S_Mo_moves_0 (lc lz : Nat) : Snd md_Mo_moves lc lz 0 (B_Mo_moves_0) := (snd_iconst (n := 0) (dget dd_Mo_moves 0 rfl) (inR_d rfl) rfl (snd_is_n (n := 1) (dget dd_Mo_moves 1 rfl) rfl snd_cut))
theorem met_Mo_moves : MetP y_Mo_moves md_Mo_moves (fun _ => 0) (fun _ => 0) Ct_Mo_moves := by
  refine metL1 (body := B_Mo_moves_0) (B1 := B_Mo_moves_2) (by decide) rfl rfl (fun lc lz => S_Mo_moves_0 lc lz) (fun lc lz => S_Mo_moves_2 lc lz) ?_
  intro av h post hc hH hav
  unfold Ct_Mo_moves at hc
  split at hc
  rotate_left
  · exact hc.elim
  rename_i t
  obtain ⟨rfl, w, L, Q, hX, hA, hp1, hp0⟩ := hc
  refine ⟨Nat.le_of_ble_eq_true rfl, ?_⟩
  obtain ⟨x1, x2, x3, x4, x5, x6⟩ := id hX
  have sr := st_raw x3
  have hclo := TX_clo hX
  have hA1 := hA.1
  refine ⟨fun ls h' => h' = h ∧ ∃ r : Int, ls = [some (.inr (.inl (some pMo))), some (.inl r)] ∧ 0 ≤ r ∧ r ≤ gI h pMo_state 0 ∧ (∀ x, VV (atM h) x → x < r → ldA (atM h) (akW h) x = x), fun _ ls _ => (2000 - locI ls 1).toNat, ?_, ?_⟩
  · rintro ls h' ⟨rfl, r, rfl, r0, r1, hn⟩
    simp (decide := true) only [B_Mo_moves_0, B_Mo_moves_2, B_Mo_moves_32, B_Mo_moves_38, Ct_Mo_leadFrom, tt_ci, tt_cl, tt_nul, tt_il, tt_al, tt_ll, tt_is, tt_as, tt_ls, tt_inc, tt_add, tt_sub, tt_mul, tt_div, tt_rem, tt_ladd, tt_lmul, tt_ldiv, tt_lrem, tt_zeq, tt_zne, tt_zlt, tt_zge, tt_zgt, tt_zle, tt_ceq, tt_cne, tt_clt, tt_cge, tt_cgt, tt_cle, tt_nn, tt_cut, tt_pop, tt_dup, tt_dup2, tt_gI, tt_gR, tt_pI, tt_pZ, tt_pR, tt_ia, tt_ba, tt_za, tt_iS, tt_bS, tt_zS, tt_aa, tt_aS, tt_len, tt_and, tt_xor, tt_shr, tt_ushr, tt_lcmp, tt_i2b, tt_i2l, tt_l2i, tt_sw, swG, tt_ir, tt_zr, tt_br, tt_lr, tt_ar, tt_vr, tt_cV, tt_cS, tt_min, tt_max, tt_acp, pI, pII, pO, pA, pIA, pIIA, pOA, pOIA, pL, pLL, pLIA, pV, pCP, lI, lO, lL, nth, stL, clL, entA, fitL, rcv, List.take_succ_cons, List.take_zero, List.drop_succ_cons, List.drop_zero, List.reverse_cons, List.reverse_nil, List.nil_append, List.cons_append, List.length_cons, List.length_nil, Option.toList_some, Option.toList_none, gI_sI, gI_sA, gR_sI, gR_sA, gI_sR, gR_sR, hN_sI, hN_sA, hN_sR, isO_sI, isO_sA, isO_sR, isAr_sI, isAr_sA, isAr_sR, hC_sI, hC_sA, hC_sR, hZ_sI, hZ_sA, hZ_sR, MW_sI, MW_sA, true_and, and_true, true_or, or_true, and_self, forall_const, imp_self, implies_true, if_true, if_false, false_and, and_false, false_or, or_false, not_false_eq_true, not_true_eq_false, sI_sI, mr_tape w, mr_text w, mr_words w, mr_wordSize w, mr_subs w, mr_subSize w, mr_asked w, mr_pile w, mr_pileSize w, mr_opened w, mr_openedAt w, mr_begun w, mr_cells w, mr_keptCells w, mr_name w, mr_isLeft w, mr_isDone w, mr_keptLeft w, mr_keptDone w, mr_state w, mr_keptState w, mr_newOf w, mr_oldOf w, mr_spare w, mr_spareDone w, mr_out w, mr_metFrom w, mr_metBy w, mr_far w, mr_low w, mr_lows w, mr_lowSize w, mr_triedRow w, mr_triedColumn w, mr_triedValue w, mr_triedRows w, mr_sheet w, ma_tape w, ma_text w, ma_words w, ma_wordSize w, ma_subs w, ma_subSize w, ma_asked w, ma_pile w, ma_pileSize w, ma_opened w, ma_openedAt w, ma_begun w, ma_cells w, ma_keptCells w, ma_name w, ma_isLeft w, ma_isDone w, ma_keptLeft w, ma_keptDone w, ma_state w, ma_keptState w, ma_newOf w, ma_oldOf w, ma_spare w, ma_spareDone w, ma_out w, ma_metFrom w, ma_metBy w, ma_far w, ma_low w, ma_lows w, ma_lowSize w, ma_triedRow w, ma_triedColumn w, ma_triedValue w, ma_triedRows w, ma_sheet w, ml_tape, ml_text, ml_words, ml_wordSize, ml_subs, ml_subSize, ml_asked, ml_pile, ml_pileSize, ml_opened, ml_openedAt, ml_begun, ml_cells, ml_keptCells, ml_name, ml_isLeft, ml_isDone, ml_keptLeft, ml_keptDone, ml_state, ml_keptState, ml_newOf, ml_oldOf, ml_spare, ml_spareDone, ml_out, ml_metFrom, ml_metBy, ml_far, ml_low, ml_lows, ml_lowSize, ml_triedRow, ml_triedColumn, ml_triedValue, ml_triedRows, ml_sheet, mo_O w, locI, nth]
    refine ⟨fun q => hp0 (fun x hx => hn x hx (by have := VV_atM.mp hx; omega)), fun q => ⟨by omega, by omega, fun q2 => ⟨⟨by omega, by omega⟩, ⟨r + 1, rfl, by omega, by omega, fun x hx z => hn x hx ?_⟩, by omega⟩, fun q2 => ?_⟩⟩
    · apply Classical.byContradiction
      intro y
      have : x = r := by omega
      rw [this] at hx
      exact (VV_atM.mp hx).2.2 q2
    · have hr : VV (atM h') r := VV_atM.mpr ⟨r0, by omega, q2⟩
      refine ⟨w, VV (atM h'), L, (gI h' pMo 16).toNat, hr, hclo, x2.2, by omega, by have := hA.2.1; omega, fun k k0 k1 => hA.2.2 k k0 (by omega), ?_⟩
      rw [fwd_ld hX hA hr]
      refine ⟨fun z => ⟨⟨by omega, by omega⟩, ⟨r + 1, rfl, by omega, by omega, fun x hx y => ?_⟩, by omega⟩, fun z => hp1 ⟨r, hr, z⟩⟩
      by_cases e : x = r
      · rw [e]; exact z
      · exact hn x hx (by omega)
  · simp (decide := true) only [B_Mo_moves_0, B_Mo_moves_2, B_Mo_moves_32, B_Mo_moves_38, Ct_Mo_leadFrom, tt_ci, tt_cl, tt_nul, tt_il, tt_al, tt_ll, tt_is, tt_as, tt_ls, tt_inc, tt_add, tt_sub, tt_mul, tt_div, tt_rem, tt_ladd, tt_lmul, tt_ldiv, tt_lrem, tt_zeq, tt_zne, tt_zlt, tt_zge, tt_zgt, tt_zle, tt_ceq, tt_cne, tt_clt, tt_cge, tt_cgt, tt_cle, tt_nn, tt_cut, tt_pop, tt_dup, tt_dup2, tt_gI, tt_gR, tt_pI, tt_pZ, tt_pR, tt_ia, tt_ba, tt_za, tt_iS, tt_bS, tt_zS, tt_aa, tt_aS, tt_len, tt_and, tt_xor, tt_shr, tt_ushr, tt_lcmp, tt_i2b, tt_i2l, tt_l2i, tt_sw, swG, tt_ir, tt_zr, tt_br, tt_lr, tt_ar, tt_vr, tt_cV, tt_cS, tt_min, tt_max, tt_acp, pI, pII, pO, pA, pIA, pIIA, pOA, pOIA, pL, pLL, pLIA, pV, pCP, lI, lO, lL, nth, stL, clL, entA, fitL, rcv, List.take_succ_cons, List.take_zero, List.drop_succ_cons, List.drop_zero, List.reverse_cons, List.reverse_nil, List.nil_append, List.cons_append, List.length_cons, List.length_nil, Option.toList_some, Option.toList_none, gI_sI, gI_sA, gR_sI, gR_sA, gI_sR, gR_sR, hN_sI, hN_sA, hN_sR, isO_sI, isO_sA, isO_sR, isAr_sI, isAr_sA, isAr_sR, hC_sI, hC_sA, hC_sR, hZ_sI, hZ_sA, hZ_sR, MW_sI, MW_sA, true_and, and_true, true_or, or_true, and_self, forall_const, imp_self, implies_true, if_true, if_false, false_and, and_false, false_or, or_false, not_false_eq_true, not_true_eq_false, sI_sI, mr_tape w, mr_text w, mr_words w, mr_wordSize w, mr_subs w, mr_subSize w, mr_asked w, mr_pile w, mr_pileSize w, mr_opened w, mr_openedAt w, mr_begun w, mr_cells w, mr_keptCells w, mr_name w, mr_isLeft w, mr_isDone w, mr_keptLeft w, mr_keptDone w, mr_state w, mr_keptState w, mr_newOf w, mr_oldOf w, mr_spare w, mr_spareDone w, mr_out w, mr_metFrom w, mr_metBy w, mr_far w, mr_low w, mr_lows w, mr_lowSize w, mr_triedRow w, mr_triedColumn w, mr_triedValue w, mr_triedRows w, mr_sheet w, ma_tape w, ma_text w, ma_words w, ma_wordSize w, ma_subs w, ma_subSize w, ma_asked w, ma_pile w, ma_pileSize w, ma_opened w, ma_openedAt w, ma_begun w, ma_cells w, ma_keptCells w, ma_name w, ma_isLeft w, ma_isDone w, ma_keptLeft w, ma_keptDone w, ma_state w, ma_keptState w, ma_newOf w, ma_oldOf w, ma_spare w, ma_spareDone w, ma_out w, ma_metFrom w, ma_metBy w, ma_far w, ma_low w, ma_lows w, ma_lowSize w, ma_triedRow w, ma_triedColumn w, ma_triedValue w, ma_triedRows w, ma_sheet w, ml_tape, ml_text, ml_words, ml_wordSize, ml_subs, ml_subSize, ml_asked, ml_pile, ml_pileSize, ml_opened, ml_openedAt, ml_begun, ml_cells, ml_keptCells, ml_name, ml_isLeft, ml_isDone, ml_keptLeft, ml_keptDone, ml_state, ml_keptState, ml_newOf, ml_oldOf, ml_spare, ml_spareDone, ml_out, ml_metFrom, ml_metBy, ml_far, ml_low, ml_lows, ml_lowSize, ml_triedRow, ml_triedColumn, ml_triedValue, ml_triedRows, ml_sheet, mo_O w]
    exact ⟨0, rfl, by omega, by omega, fun x hx z => by have := VV_atM.mp hx; omega⟩
def mvA (a : AT) (u : List Int) : Prop := ∃ r, VV a r ∧ ldA a u r ≠ r
/-- what is() answers -/
def isV (t wh : Prop) (n su : Int) (a : AT) (u : List Int) (v : Int) : Prop := (n = 0 → v = 1) ∧ (n ≠ 0 → wh → (mvA a u → v = 0) ∧ (¬ mvA a u → v = if su = 0 then 1 else -2)) ∧ (n ≠ 0 → ¬ wh → (t ∧ su = 0 ∧ ldA a u 0 = 0 → v = 1) ∧ (¬ (t ∧ su = 0 ∧ ldA a u 0 = 0) → v = -2))
def Ct_Mo_is : CtT := fun av h post => match av with
  | [.inr (.inl (some t))] => t = pMo ∧ MW h ∧ (gI h pMo 32 ≠ 0 → ∃ (L Q : Int), TX L Q h ∧ AK L h) ∧ ∀ v, isV (gI h pMo 32 ≠ 0) (gI h pMo 32 ≠ 0 ∧ gI h pMo_state 6 = 1) (gI h pMo 16) (gI h pMo 15) (atM h) (akW h) v → post (some (.inl v)) (sI h pMo 4 0)
  | _ => False
def B_Mo_is_74 : TT := tt_ir
theorem S_Mo_is_74 (lc lz : Nat) : Snd md_Mo_is lc lz 74 (B_Mo_is_74) := (snd_ir (dget dd_Mo_is 36 rfl) rfl)
def B_Mo_is_72 : TT := (tt_ci (-2) (B_Mo_is_74))
theorem S_Mo_is_72 (lc lz : Nat) : Snd md_Mo_is lc lz 72 (B_Mo_is_72) := (snd_bipush (n := -2) (dget dd_Mo_is 35 rfl) (inR_d rfl) (by decide) (S_Mo_is_74 lc lz))
def B_Mo_is_46 : TT := (tt_al 0 (tt_gI 9 32 (tt_zeq (B_Mo_is_72) (tt_al 0 (tt_gI 9 15 (tt_zne (B_Mo_is_72) (tt_al 0 (tt_ci 0 (tt_cV 9 2 Ct_Mo_leadFrom (tt_zne (B_Mo_is_72) (tt_ci 1 (B_Mo_is_74))))))))))))
theorem S_Mo_is_46 (lc lz : Nat) : Snd md_Mo_is lc lz 46 (B_Mo_is_46) := (snd_al_n (n := 0) (dget dd_Mo_is 23 rfl) rfl (snd_gI (kn := 32) fd_Mo_152 rfl (dget dd_Mo_is 24 rfl) (snd_zeq (tg := 72) (dget dd_Mo_is 25 rfl) rfl (S_Mo_is_72 lc lz) (snd_al_n (n := 0) (dget dd_Mo_is 26 rfl) rfl (snd_gI (kn := 15) fd_Mo_146 rfl (dget dd_Mo_is 27 rfl) (snd_zne (tg := 72) (dget dd_Mo_is 28 rfl) rfl (S_Mo_is_72 lc lz) (snd_al_n (n := 0) (dget dd_Mo_is 29 rfl) rfl (snd_iconst (n := 0) (dget dd_Mo_is 30 rfl) (inR_d rfl) rfl (snd_cV (n := 1) met_Mo_leadFrom mi_Mo_leadFrom ki_Mo_leadFrom kv_Mo_leadFrom ml_Mo_323 rfl (by decide) (dget dd_Mo_is 31 rfl) (snd_zne (tg := 72) (dget dd_Mo_is 32 rfl) rfl (S_Mo_is_72 lc lz) (snd_iconst (n := 1) (dget dd_Mo_is 33 rfl) (inR_d rfl) rfl (snd_goto (tg := 74) (dget dd_Mo_is 34 rfl) rfl (S_Mo_is_74 lc lz)))))))))))))
def B_Mo_is_45 : TT := tt_ir
theorem S_Mo_is_45 (lc lz : Nat) : Snd md_Mo_is lc lz 45 (B_Mo_is_45) := (snd_ir (dget dd_Mo_is 22 rfl) rfl)
def B_Mo_is_43 : TT := (tt_ci (-2) (B_Mo_is_45))
theorem S_Mo_is_43 (lc lz : Nat) : Snd md_Mo_is lc lz 43 (B_Mo_is_43) := (snd_bipush (n := -2) (dget dd_Mo_is 21 rfl) (inR_d rfl) (by decide) (S_Mo_is_45 lc lz))
def B_Mo_is_32 : TT := (tt_al 0 (tt_gI 9 15 (tt_zne (B_Mo_is_43) (tt_ci 1 (B_Mo_is_45)))))
theorem S_Mo_is_32 (lc lz : Nat) : Snd md_Mo_is lc lz 32 (B_Mo_is_32) := (snd_al_n (n := 0) (dget dd_Mo_is 16 rfl) rfl (snd_gI (kn := 15) fd_Mo_146 rfl (dget dd_Mo_is 17 rfl) (snd_zne (tg := 43) (dget dd_Mo_is 18 rfl) rfl (S_Mo_is_43 lc lz) (snd_iconst (n := 1) (dget dd_Mo_is 19 rfl) (inR_d rfl) rfl (snd_goto (tg := 45) (dget dd_Mo_is 20 rfl) rfl (S_Mo_is_45 lc lz))))))
def B_Mo_is_14 : TT := (tt_al 0 (tt_cV 9 1 Ct_Mo_isWhole (tt_zeq (B_Mo_is_46) (tt_al 0 (tt_cV 9 1 Ct_Mo_moves (tt_zeq (B_Mo_is_32) (tt_ci 0 (B_Mo_is_45))))))))
theorem S_Mo_is_14 (lc lz : Nat) : Snd md_Mo_is lc lz 14 (B_Mo_is_14) := (snd_al_n (n := 0) (dget dd_Mo_is 8 rfl) rfl (snd_cV (n := 0) met_Mo_isWhole mi_Mo_isWhole ki_Mo_isWhole kv_Mo_isWhole ml_Mo_310 rfl (by decide) (dget dd_Mo_is 9 rfl) (snd_zeq (tg := 46) (dget dd_Mo_is 10 rfl) rfl (S_Mo_is_46 lc lz) (snd_al_n (n := 0) (dget dd_Mo_is 11 rfl) rfl (snd_cV (n := 0) met_Mo_moves mi_Mo_moves ki_Mo_moves kv_Mo_moves ml_Mo_326 rfl (by decide) (dget dd_Mo_is 12 rfl) (snd_zeq (tg := 32) (dget dd_Mo_is 13 rfl) rfl (S_Mo_is_32 lc lz) (snd_iconst (n := 0) (dget dd_Mo_is 14 rfl) (inR_d rfl) rfl (snd_goto (tg := 45) (dget dd_Mo_is 15 rfl) rfl (S_Mo_is_45 lc lz)))))))))
def B_Mo_is_0 : TT := (tt_al 0 (tt_ci 0 (tt_pI 9 4 (tt_al 0 (tt_gI 9 16 (tt_zne (B_Mo_is_14) (tt_ci 1 tt_ir)))))))
theorem S_Mo_is_0 (lc lz : Nat) : Snd md_Mo_is lc lz 0 (B_Mo_is_0) := (snd_al_n (n := 0) (dget dd_Mo_is 0 rfl) rfl (snd_iconst (n := 0) (dget dd_Mo_is 1 rfl) (inR_d rfl) rfl (snd_pI (kn := 4) fd_Mo_130 rfl (dget dd_Mo_is 2 rfl) (snd_al_n (n := 0) (dget dd_Mo_is 3 rfl) rfl (snd_gI (kn := 16) fd_Mo_149 rfl (dget dd_Mo_is 4 rfl) (snd_zne (tg := 14) (dget dd_Mo_is 5 rfl) rfl (S_Mo_is_14 lc lz) (snd_iconst (n := 1) (dget dd_Mo_is 6 rfl) (inR_d rfl) rfl (snd_ir (dget dd_Mo_is 7 rfl) rfl))))))))
theorem met_Mo_is : MetP y_Mo_is md_Mo_is (fun _ => 0) (fun _ => 0) Ct_Mo_is := by
  refine met0 (body := B_Mo_is_0) (by decide) rfl rfl (fun lc lz => S_Mo_is_0 lc lz) ?_
  intro av h post hc hH hav
  unfold Ct_Mo_is at hc
  split at hc
  rotate_left
  · exact hc.elim
  rename_i t
  obtain ⟨rfl, w, hX, hp⟩ := hc
  refine ⟨Nat.le_of_ble_eq_true rfl, ?_⟩
  simp (decide := true) only [B_Mo_is_0, B_Mo_is_14, B_Mo_is_32, B_Mo_is_43, B_Mo_is_45, B_Mo_is_46, B_Mo_is_72, B_Mo_is_74, Ct_Mo_isWhole, Ct_Mo_moves, Ct_Mo_leadFrom, tt_ci, tt_cl, tt_nul, tt_il, tt_al, tt_ll, tt_is, tt_as, tt_ls, tt_inc, tt_add, tt_sub, tt_mul, tt_div, tt_rem, tt_ladd, tt_lmul, tt_ldiv, tt_lrem, tt_zeq, tt_zne, tt_zlt, tt_zge, tt_zgt, tt_zle, tt_ceq, tt_cne, tt_clt, tt_cge, tt_cgt, tt_cle, tt_nn, tt_cut, tt_pop, tt_dup, tt_dup2, tt_gI, tt_gR, tt_pI, tt_pZ, tt_pR, tt_ia, tt_ba, tt_za, tt_iS, tt_bS, tt_zS, tt_aa, tt_aS, tt_len, tt_and, tt_xor, tt_shr, tt_ushr, tt_lcmp, tt_i2b, tt_i2l, tt_l2i, tt_sw, swG, tt_ir, tt_zr, tt_br, tt_lr, tt_ar, tt_vr, tt_cV, tt_cS, tt_min, tt_max, tt_acp, pI, pII, pO, pA, pIA, pIIA, pOA, pOIA, pL, pLL, pLIA, pV, pCP, lI, lO, lL, nth, stL, clL, entA, fitL, rcv, List.take_succ_cons, List.take_zero, List.drop_succ_cons, List.drop_zero, List.reverse_cons, List.reverse_nil, List.nil_append, List.cons_append, List.length_cons, List.length_nil, Option.toList_some, Option.toList_none, gI_sI, gI_sA, gR_sI, gR_sA, gI_sR, gR_sR, hN_sI, hN_sA, hN_sR, isO_sI, isO_sA, isO_sR, isAr_sI, isAr_sA, isAr_sR, hC_sI, hC_sA, hC_sR, hZ_sI, hZ_sA, hZ_sR, MW_sI, MW_sA, true_and, and_true, true_or, or_true, and_self, forall_const, imp_self, implies_true, if_true, if_false, false_and, and_false, false_or, or_false, not_false_eq_true, not_true_eq_false, sI_sI, mr_tape w, mr_text w, mr_words w, mr_wordSize w, mr_subs w, mr_subSize w, mr_asked w, mr_pile w, mr_pileSize w, mr_opened w, mr_openedAt w, mr_begun w, mr_cells w, mr_keptCells w, mr_name w, mr_isLeft w, mr_isDone w, mr_keptLeft w, mr_keptDone w, mr_state w, mr_keptState w, mr_newOf w, mr_oldOf w, mr_spare w, mr_spareDone w, mr_out w, mr_metFrom w, mr_metBy w, mr_far w, mr_low w, mr_lows w, mr_lowSize w, mr_triedRow w, mr_triedColumn w, mr_triedValue w, mr_triedRows w, mr_sheet w, ma_tape w, ma_text w, ma_words w, ma_wordSize w, ma_subs w, ma_subSize w, ma_asked w, ma_pile w, ma_pileSize w, ma_opened w, ma_openedAt w, ma_begun w, ma_cells w, ma_keptCells w, ma_name w, ma_isLeft w, ma_isDone w, ma_keptLeft w, ma_keptDone w, ma_state w, ma_keptState w, ma_newOf w, ma_oldOf w, ma_spare w, ma_spareDone w, ma_out w, ma_metFrom w, ma_metBy w, ma_far w, ma_low w, ma_lows w, ma_lowSize w, ma_triedRow w, ma_triedColumn w, ma_triedValue w, ma_triedRows w, ma_sheet w, ml_tape, ml_text, ml_words, ml_wordSize, ml_subs, ml_subSize, ml_asked, ml_pile, ml_pileSize, ml_opened, ml_openedAt, ml_begun, ml_cells, ml_keptCells, ml_name, ml_isLeft, ml_isDone, ml_keptLeft, ml_keptDone, ml_state, ml_keptState, ml_newOf, ml_oldOf, ml_spare, ml_spareDone, ml_out, ml_metFrom, ml_metBy, ml_far, ml_low, ml_lows, ml_lowSize, ml_triedRow, ml_triedColumn, ml_triedValue, ml_triedRows, ml_sheet, mo_O w]
  obtain ⟨P, hP⟩ : ∃ P, P = isV (gI h pMo 32 ≠ 0) (gI h pMo 32 ≠ 0 ∧ gI h pMo_state 6 = 1) (gI h pMo 16) (gI h pMo 15) (atM h) (akW h) := ⟨_, rfl⟩
  rw [← hP] at hp
  have hF : FrP Po h (sI h pMo 4 0) := FrP_sI ⟨rfl, by omega, by omega⟩ (FrP_refl _ h)
  obtain ⟨p1, p2, p3, p4⟩ := Po_at hF
  have pk : akW (sI h pMo 4 0) = akW h := by
    unfold akW
    rw [FrP_arr hF (b := pMo_asked) (fun j z => absurd z.1 (by decide)), hF.1 pMo 16 (fun z => by have := z.2; omega)]
  have pa : ∀ L, AK L (sI h pMo 4 0) ↔ AK L h := by
    intro L
    unfold AK
    rw [FrP_arr hF (b := pMo_asked) (fun j z => absurd z.1 (by decide)), hF.1 pMo 16 (fun z => by have := z.2; omega)]
  have ec : gI (sI h pMo 4 0) pMo_cells = gI h pMo_cells := FrP_arr hF (fun j z => absurd z.1 (by decide))
  have ea : gI (sI h pMo 4 0) pMo_asked = gI h pMo_asked := FrP_arr hF (fun j z => absurd z.1 (by decide))
  refine ⟨fun q => ⟨w, fun q6 => ⟨fun q32 => hp _ ?_, fun q32 => ⟨fun q15 => hp _ ?_, fun q15 => ?_⟩⟩, fun q6 => ?_⟩, fun q => hp _ ?_⟩
  · rw [hP]
    exact ⟨fun z => absurd z q, fun _ z => absurd q32 z.1, fun _ _ => ⟨fun z => absurd q32 z.1, fun _ => rfl⟩⟩
  · rw [hP]
    refine ⟨fun z => absurd z q, fun _ z => ?_, fun _ _ => ⟨fun z => absurd z.2.1 q15, fun _ => rfl⟩⟩
    rw [if_pos z] at q6
    exact absurd q6 (by decide)
  · obtain ⟨L, Q, X, A⟩ := hX q32
    have A1 := A.1
    refine ⟨w, VV (atM h), L, (gI h pMo 16).toNat, X.2.2.1.1.1, clo_sI.mpr (TX_clo X), X.2.1.2, by omega, by have := A.2.1; omega, fun k k0 k1 => A.2.2 k k0 (by omega), ?_⟩
    rw [ec, ea, fwd_ld X A X.2.2.1.1.1]
    refine ⟨fun z => hp _ ?_, fun z => hp _ ?_⟩
    · rw [hP]
      refine ⟨fun y => absurd y q, fun _ y => ?_, fun _ _ => ⟨fun y => absurd y.2.2 z, fun _ => rfl⟩⟩
      rw [if_pos y] at q6
      exact absurd q6 (by decide)
    · rw [hP]
      refine ⟨fun y => absurd y q, fun _ y => ?_, fun _ _ => ⟨fun _ => rfl, fun y => absurd ⟨q32, q15, z⟩ y⟩⟩
      rw [if_pos y] at q6
      exact absurd q6 (by decide)
  · have hwh : gI h pMo 32 ≠ 0 ∧ gI h pMo_state 6 = 1 := by
      apply Classical.byContradiction
      intro t
      exact q6 (if_neg t)
    obtain ⟨L, Q, X, A⟩ := hX hwh.1
    refine ⟨w, L, Q, (p4 L Q).mpr X, (pa L).mpr A, ?_⟩
    rw [p1, pk]
    refine ⟨fun z => ⟨fun y => y.elim, hp _ ?_⟩, fun z => ⟨⟨fun y => hp _ ?_, fun y => hp _ ?_⟩, fun y => y.elim⟩⟩
    · rw [hP]
      exact ⟨fun y => absurd y q, fun _ _ => ⟨fun _ => rfl, fun y => absurd z y⟩, fun _ y => absurd hwh y⟩
    · rw [hP]
      have nm : ¬ mvA (atM h) (akW h) := fun ⟨r, a, b⟩ => b (z r a)
      exact ⟨fun y => absurd y q, fun _ _ => ⟨fun t => absurd t nm, fun _ => by rw [if_neg y]⟩, fun _ y => absurd hwh y⟩
    · rw [hP]
      have nm : ¬ mvA (atM h) (akW h) := fun ⟨r, a, b⟩ => b (z r a)
      exact ⟨fun y => absurd y q, fun _ _ => ⟨fun t => absurd t nm, fun _ => by rw [if_pos y]⟩, fun _ y => absurd hwh y⟩
  · rw [hP]
    exact ⟨fun _ => rfl, fun y => absurd q y, fun y => absurd q y⟩
