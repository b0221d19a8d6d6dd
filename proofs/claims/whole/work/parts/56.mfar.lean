/-! THE MODEL'S measured, least, farthest -/
def PQ (b : Nat) (j : Int) : Prop := b = pMo_newOf ∨ b = pMo_oldOf ∨ b = pMo_metFrom ∨ b = pMo_metBy ∨ b = pMo_far ∨ (b = pMo ∧ j = 42)
def repF (h : PH) (st : BS) (ms : List Int) : Prop := (∀ s, s ∈ ms → s ≠ 0 → gI h pMo_metFrom s = st.2.1 s) ∧ (∀ s, s ∈ st.1 → s ≠ 0 → gI h pMo_metBy s = st.2.2.1 s) ∧ ∀ s, s ∈ st.1 → gI h pMo_far s = st.2.2.2 s
def Ct_Mo_measured : CtT := fun av h post => match av with
  | [.inr (.inl (some t))] => t = pMo ∧ MW h ∧ ∃ (L Q : Int), TX L Q h ∧ FU L (atM h) ∧ gI h pMo_state 6 = 1 ∧ ∀ h', FrP PQ h h' → repF h' (bsA L (atM h)) (msA L (atM h)) → post none h'
  | _ => False
def B_Mo_measured_165 : TT := tt_vr
theorem S_Mo_measured_165 (lc lz : Nat) : Snd md_Mo_measured lc lz 165 (B_Mo_measured_165) := (snd_vr (dget dd_Mo_measured 98 rfl) rfl)
def B_Mo_measured_159 : TT := (tt_inc 2 1 (tt_cut 60))
theorem S_Mo_measured_159 (lc lz : Nat) : Snd md_Mo_measured lc lz 159 (B_Mo_measured_159) := (snd_inc (dget dd_Mo_measured 96 rfl) (snd_goto (tg := 60) (dget dd_Mo_measured 97 rfl) rfl snd_cut))
def B_Mo_measured_153 : TT := (tt_inc 3 1 (tt_cut 67))
theorem S_Mo_measured_153 (lc lz : Nat) : Snd md_Mo_measured lc lz 153 (B_Mo_measured_153) := (snd_inc (dget dd_Mo_measured 94 rfl) (snd_goto (tg := 67) (dget dd_Mo_measured 95 rfl) rfl snd_cut))
def B_Mo_measured_112 : TT := (tt_al 0 (tt_gR 9 47 (tt_il 4 (tt_al 0 (tt_gR 9 41 (tt_il 2 (tt_ia (tt_iS (tt_al 0 (tt_gR 9 48 (tt_il 4 (tt_il 3 (tt_iS (tt_al 0 (tt_gR 9 49 (tt_il 4 (tt_al 0 (tt_gR 9 49 (tt_al 0 (tt_gR 9 41 (tt_il 2 (tt_ia (tt_ia (tt_ci 1 (tt_add (tt_iS (B_Mo_measured_153)))))))))))))))))))))))))))
theorem S_Mo_measured_112 (lc lz : Nat) : Snd md_Mo_measured lc lz 112 (B_Mo_measured_112) := (snd_al_n (n := 0) (dget dd_Mo_measured 68 rfl) rfl (snd_gR (kn := 47) fd_Mo_97 rfl (dget dd_Mo_measured 69 rfl) (snd_il (dget dd_Mo_measured 70 rfl) (snd_al_n (n := 0) (dget dd_Mo_measured 71 rfl) rfl (snd_gR (kn := 41) fd_Mo_85 rfl (dget dd_Mo_measured 72 rfl) (snd_il_n (n := 2) (dget dd_Mo_measured 73 rfl) rfl (snd_ia (dget dd_Mo_measured 74 rfl) (snd_iS (dget dd_Mo_measured 75 rfl) (snd_al_n (n := 0) (dget dd_Mo_measured 76 rfl) rfl (snd_gR (kn := 48) fd_Mo_100 rfl (dget dd_Mo_measured 77 rfl) (snd_il (dget dd_Mo_measured 78 rfl) (snd_il_n (n := 3) (dget dd_Mo_measured 79 rfl) rfl (snd_iS (dget dd_Mo_measured 80 rfl) (snd_al_n (n := 0) (dget dd_Mo_measured 81 rfl) rfl (snd_gR (kn := 49) fd_Mo_103 rfl (dget dd_Mo_measured 82 rfl) (snd_il (dget dd_Mo_measured 83 rfl) (snd_al_n (n := 0) (dget dd_Mo_measured 84 rfl) rfl (snd_gR (kn := 49) fd_Mo_103 rfl (dget dd_Mo_measured 85 rfl) (snd_al_n (n := 0) (dget dd_Mo_measured 86 rfl) rfl (snd_gR (kn := 41) fd_Mo_85 rfl (dget dd_Mo_measured 87 rfl) (snd_il_n (n := 2) (dget dd_Mo_measured 88 rfl) rfl (snd_ia (dget dd_Mo_measured 89 rfl) (snd_ia (dget dd_Mo_measured 90 rfl) (snd_iconst (n := 1) (dget dd_Mo_measured 91 rfl) (inR_d rfl) rfl (snd_add (dget dd_Mo_measured 92 rfl) (snd_iS (dget dd_Mo_measured 93 rfl) (S_Mo_measured_153 lc lz)))))))))))))))))))))))))))
def B_Mo_measured_67 : TT := (tt_il 3 (tt_al 0 (tt_gI 9 42 (tt_cge (B_Mo_measured_159) (tt_al 0 (tt_gR 9 23 (tt_ci 10 (tt_al 0 (tt_gR 9 41 (tt_il 2 (tt_ia (tt_mul (tt_il 3 (tt_add (tt_ia (tt_is 4 (tt_il 4 (tt_zeq (B_Mo_measured_153) (tt_al 0 (tt_gR 9 47 (tt_il 4 (tt_ia (tt_ci (-1) (tt_ceq (B_Mo_measured_112) (B_Mo_measured_153)))))))))))))))))))))))))
theorem S_Mo_measured_67 (lc lz : Nat) : Snd md_Mo_measured lc lz 67 (B_Mo_measured_67) := (snd_il_n (n := 3) (dget dd_Mo_measured 43 rfl) rfl (snd_al_n (n := 0) (dget dd_Mo_measured 44 rfl) rfl (snd_gI (kn := 42) fd_Mo_313 rfl (dget dd_Mo_measured 45 rfl) (snd_cge (tg := 159) (dget dd_Mo_measured 46 rfl) rfl (S_Mo_measured_159 lc lz) (snd_al_n (n := 0) (dget dd_Mo_measured 47 rfl) rfl (snd_gR (kn := 23) fd_Mo_54 rfl (dget dd_Mo_measured 48 rfl) (snd_bipush (n := 10) (dget dd_Mo_measured 49 rfl) (inR_d rfl) (by decide) (snd_al_n (n := 0) (dget dd_Mo_measured 50 rfl) rfl (snd_gR (kn := 41) fd_Mo_85 rfl (dget dd_Mo_measured 51 rfl) (snd_il_n (n := 2) (dget dd_Mo_measured 52 rfl) rfl (snd_ia (dget dd_Mo_measured 53 rfl) (snd_mul (dget dd_Mo_measured 54 rfl) (snd_il_n (n := 3) (dget dd_Mo_measured 55 rfl) rfl (snd_add (dget dd_Mo_measured 56 rfl) (snd_ia (dget dd_Mo_measured 57 rfl) (snd_is (dget dd_Mo_measured 58 rfl) (snd_il (dget dd_Mo_measured 59 rfl) (snd_zeq (tg := 153) (dget dd_Mo_measured 60 rfl) rfl (S_Mo_measured_153 lc lz) (snd_al_n (n := 0) (dget dd_Mo_measured 61 rfl) rfl (snd_gR (kn := 47) fd_Mo_97 rfl (dget dd_Mo_measured 62 rfl) (snd_il (dget dd_Mo_measured 63 rfl) (snd_ia (dget dd_Mo_measured 64 rfl) (snd_iconst (n := -1) (dget dd_Mo_measured 65 rfl) (inR_d rfl) rfl (snd_ceq (tg := 112) (dget dd_Mo_measured 66 rfl) rfl (S_Mo_measured_112 lc lz) (snd_goto (tg := 153) (dget dd_Mo_measured 67 rfl) rfl (S_Mo_measured_153 lc lz))))))))))))))))))))))))))
def B_Mo_measured_60 : TT := (tt_il 2 (tt_il 1 (tt_cge (B_Mo_measured_165) (tt_ci 0 (tt_is 3 (tt_cut 67))))))
theorem S_Mo_measured_60 (lc lz : Nat) : Snd md_Mo_measured lc lz 60 (B_Mo_measured_60) := (snd_il_n (n := 2) (dget dd_Mo_measured 38 rfl) rfl (snd_il_n (n := 1) (dget dd_Mo_measured 39 rfl) rfl (snd_cge (tg := 165) (dget dd_Mo_measured 40 rfl) rfl (S_Mo_measured_165 lc lz) (snd_iconst (n := 0) (dget dd_Mo_measured 41 rfl) (inR_d rfl) rfl (snd_is_n (n := 3) (dget dd_Mo_measured 42 rfl) rfl snd_cut)))))
def B_Mo_measured_58 : TT := (tt_ci 0 (tt_is 2 (tt_cut 60)))
theorem S_Mo_measured_58 (lc lz : Nat) : Snd md_Mo_measured lc lz 58 (B_Mo_measured_58) := (snd_iconst (n := 0) (dget dd_Mo_measured 36 rfl) (inR_d rfl) rfl (snd_is_n (n := 2) (dget dd_Mo_measured 37 rfl) rfl snd_cut))
def B_Mo_measured_35 : TT := (tt_il 2 (tt_il 1 (tt_cge (B_Mo_measured_58) (tt_al 0 (tt_gR 9 47 (tt_al 0 (tt_gR 9 41 (tt_il 2 (tt_ia (tt_ci (-1) (tt_iS (tt_inc 2 1 (tt_cut 35)))))))))))))
theorem S_Mo_measured_35 (lc lz : Nat) : Snd md_Mo_measured lc lz 35 (B_Mo_measured_35) := (snd_il_n (n := 2) (dget dd_Mo_measured 23 rfl) rfl (snd_il_n (n := 1) (dget dd_Mo_measured 24 rfl) rfl (snd_cge (tg := 58) (dget dd_Mo_measured 25 rfl) rfl (S_Mo_measured_58 lc lz) (snd_al_n (n := 0) (dget dd_Mo_measured 26 rfl) rfl (snd_gR (kn := 47) fd_Mo_97 rfl (dget dd_Mo_measured 27 rfl) (snd_al_n (n := 0) (dget dd_Mo_measured 28 rfl) rfl (snd_gR (kn := 41) fd_Mo_85 rfl (dget dd_Mo_measured 29 rfl) (snd_il_n (n := 2) (dget dd_Mo_measured 30 rfl) rfl (snd_ia (dget dd_Mo_measured 31 rfl) (snd_iconst (n := -1) (dget dd_Mo_measured 32 rfl) (inR_d rfl) rfl (snd_iS (dget dd_Mo_measured 33 rfl) (snd_inc (dget dd_Mo_measured 34 rfl) (snd_goto (tg := 35) (dget dd_Mo_measured 35 rfl) rfl snd_cut)))))))))))))
def B_Mo_measured_0 : TT := (tt_al 0 (tt_ci 2 (tt_al 0 (tt_gI 9 0 (tt_mul (tt_pI 9 42 (tt_al 0 (tt_al 0 (tt_gR 9 23 (tt_al 0 (tt_gR 9 30 (tt_ci 0 (tt_ia (tt_ci 0 (tt_cV 9 4 Ct_Mo_meet (tt_is 1 (tt_al 0 (tt_gR 9 49 (tt_ci 0 (tt_ci 0 (tt_iS (tt_ci 1 (tt_is 2 (tt_cut 35))))))))))))))))))))))))
theorem S_Mo_measured_0 (lc lz : Nat) : Snd md_Mo_measured lc lz 0 (B_Mo_measured_0) := (snd_al_n (n := 0) (dget dd_Mo_measured 0 rfl) rfl (snd_iconst (n := 2) (dget dd_Mo_measured 1 rfl) (inR_d rfl) rfl (snd_al_n (n := 0) (dget dd_Mo_measured 2 rfl) rfl (snd_gI (kn := 0) fd_Mo_7 rfl (dget dd_Mo_measured 3 rfl) (snd_mul (dget dd_Mo_measured 4 rfl) (snd_pI (kn := 42) fd_Mo_313 rfl (dget dd_Mo_measured 5 rfl) (snd_al_n (n := 0) (dget dd_Mo_measured 6 rfl) rfl (snd_al_n (n := 0) (dget dd_Mo_measured 7 rfl) rfl (snd_gR (kn := 23) fd_Mo_54 rfl (dget dd_Mo_measured 8 rfl) (snd_al_n (n := 0) (dget dd_Mo_measured 9 rfl) rfl (snd_gR (kn := 30) fd_Mo_76 rfl (dget dd_Mo_measured 10 rfl) (snd_iconst (n := 0) (dget dd_Mo_measured 11 rfl) (inR_d rfl) rfl (snd_ia (dget dd_Mo_measured 12 rfl) (snd_iconst (n := 0) (dget dd_Mo_measured 13 rfl) (inR_d rfl) rfl (snd_cV (n := 3) met_Mo_meet mi_Mo_meet ki_Mo_meet kv_Mo_meet ml_Mo_316 rfl (by decide) (dget dd_Mo_measured 14 rfl) (snd_is_n (n := 1) (dget dd_Mo_measured 15 rfl) rfl (snd_al_n (n := 0) (dget dd_Mo_measured 16 rfl) rfl (snd_gR (kn := 49) fd_Mo_103 rfl (dget dd_Mo_measured 17 rfl) (snd_iconst (n := 0) (dget dd_Mo_measured 18 rfl) (inR_d rfl) rfl (snd_iconst (n := 0) (dget dd_Mo_measured 19 rfl) (inR_d rfl) rfl (snd_iS (dget dd_Mo_measured 20 rfl) (snd_iconst (n := 1) (dget dd_Mo_measured 21 rfl) (inR_d rfl) rfl (snd_is_n (n := 2) (dget dd_Mo_measured 22 rfl) rfl snd_cut)))))))))))))))))))))))
def muD (pc : Nat) (ls : LSt) (_ : PH) : Nat := if pc = 35 then 50000 + (300 - locI ls 2).toNat else if pc = 60 then (6015 - 20 * locI ls 2).toNat else (6012 - 20 * locI ls 2 - locI ls 3).toNat
theorem muD_35 {ls : LSt} {h' : PH} : muD 35 ls h' = 50000 + (300 - locI ls 2).toNat := by unfold muD; rw [if_pos rfl]
theorem muD_60 {ls : LSt} {h' : PH} : muD 60 ls h' = (6015 - 20 * locI ls 2).toNat := by unfold muD; rw [if_neg (by decide), if_pos rfl]
theorem muD_67 {ls : LSt} {h' : PH} : muD 67 ls h' = (6012 - 20 * locI ls 2 - locI ls 3).toNat := by unfold muD; rw [if_neg (by decide), if_neg (by decide)]
theorem arM2 {k c : Int} (h0 : 0 ≤ k) (h1 : k ≤ 299) (h2 : 0 ≤ c) (h3 : c ≤ 10) : (6015 - 20 * (k + 1)).toNat < (6012 - 20 * k - c).toNat := by omega
theorem met_Mo_measured : MetP y_Mo_measured md_Mo_measured (fun _ => 0) (fun _ => 0) Ct_Mo_measured := by
  refine metL3 (body := B_Mo_measured_0) (B1 := B_Mo_measured_35) (B2 := B_Mo_measured_60) (B3 := B_Mo_measured_67) (by decide) rfl rfl (fun lc lz => S_Mo_measured_0 lc lz) (fun lc lz => S_Mo_measured_35 lc lz) (fun lc lz => S_Mo_measured_60 lc lz) (fun lc lz => S_Mo_measured_67 lc lz) (by decide) ?_
  intro av h post hc hH hav
  unfold Ct_Mo_measured at hc
  split at hc
  rotate_left
  · exact hc.elim
  rename_i t
  obtain ⟨rfl, w, L, Q, hX, hFU, h6, hp⟩ := hc
  refine ⟨Nat.le_of_ble_eq_true rfl, ?_⟩
  obtain ⟨mu, hmu⟩ : ∃ mu, mu = muD := ⟨_, rfl⟩
  obtain ⟨x1, x2, x3, x4, x5, x6⟩ := id hX
  have sr := st_raw x3
  have hf := hFU (by rw [aS_atM (by decide) (by decide)]; exact h6)
  obtain ⟨m1, m2, m3, m4⟩ := ms_all x3 hf
  obtain ⟨E, hE⟩ : ∃ E, E = aE (atM h) := ⟨_, rfl⟩
  obtain ⟨ms, hms⟩ : ∃ ms, ms = msA L (atM h) := ⟨_, rfl⟩
  have hmB : ms = (allB E L.toNat 0 bB).1 := by rw [hms, hE]; rfl
  rw [← hms] at m1 m2 m3 m4 hp
  rw [aS_atM (by decide) (by decide)] at m3
  have hB := bB_eq
  have pre : ∀ k, k ≤ bB → ∃ p, ms = (allB E L.toNat 0 k).1 ++ p := fun k hk => by rw [hmB]; exact allB_le bB hk
  have lt : ∀ k : Nat, k < ms.length → k < (allB E L.toNat 0 k).1.length := by
    intro k hk
    apply Classical.byContradiction
    intro z
    have e := allB_end (E := E) (L := L.toNat) (f := 0) (k := k) (by omega) bB (by omega)
    rw [hmB, e] at hk
    omega
  refine ⟨fun ls h' => ∃ (k : Int) (y3 y4 : Option PV), ls = [some (.inr (.inl (some pMo))), some (.inl ms.length), some (.inl k), y3, y4] ∧ 1 ≤ k ∧ k ≤ ms.length ∧ FrP PQ h h' ∧ gI h' pMo 42 = L ∧ (∀ i : Nat, i < ms.length → gI h' pMo_oldOf i = wf ms i) ∧ gI h' pMo_far 0 = 0 ∧ (∀ i : Nat, 0 < i → (i : Int) < k → gI h' pMo_metFrom (wf ms i) = -1),
    fun ls h' => ∃ (k : Nat) (y3 y4 : Option PV), ls = [some (.inr (.inl (some pMo))), some (.inl ms.length), some (.inl k), y3, y4] ∧ k ≤ ms.length ∧ FrP PQ h h' ∧ gI h' pMo 42 = L ∧ (∀ i : Nat, i < ms.length → gI h' pMo_oldOf i = wf ms i) ∧ repF h' (allB E L.toNat 0 k) ms,
    fun ls h' => ∃ (k c : Nat) (y4 : Option PV), ls = [some (.inr (.inl (some pMo))), some (.inl ms.length), some (.inl k), some (.inl c), y4] ∧ k < ms.length ∧ (c : Int) ≤ L ∧ FrP PQ h h' ∧ gI h' pMo 42 = L ∧ (∀ i : Nat, i < ms.length → gI h' pMo_oldOf i = wf ms i) ∧ repF h' (rowB E (wf ms k) c (allB E L.toNat 0 k)) ms, mu, ?_, ?_, ?_, ?_⟩
  · rintro ls h' ⟨k, y3, y4, rfl, k0, k1, hF, h42, hO, hf0, hn⟩
    have w1 := FrP_MW hF w
    simp (decide := true) only [B_Mo_measured_0, B_Mo_measured_35, B_Mo_measured_58, B_Mo_measured_60, B_Mo_measured_67, B_Mo_measured_112, B_Mo_measured_153, B_Mo_measured_159, B_Mo_measured_165, Ct_Mo_meet, tt_ci, tt_cl, tt_nul, tt_il, tt_al, tt_ll, tt_is, tt_as, tt_ls, tt_inc, tt_add, tt_sub, tt_mul, tt_div, tt_rem, tt_ladd, tt_lmul, tt_ldiv, tt_lrem, tt_zeq, tt_zne, tt_zlt, tt_zge, tt_zgt, tt_zle, tt_ceq, tt_cne, tt_clt, tt_cge, tt_cgt, tt_cle, tt_nn, tt_cut, tt_pop, tt_dup, tt_dup2, tt_gI, tt_gR, tt_pI, tt_pZ, tt_pR, tt_ia, tt_ba, tt_za, tt_iS, tt_bS, tt_zS, tt_aa, tt_aS, tt_len, tt_and, tt_xor, tt_shr, tt_ushr, tt_lcmp, tt_i2b, tt_i2l, tt_l2i, tt_sw, swG, tt_ir, tt_zr, tt_br, tt_lr, tt_ar, tt_vr, tt_cV, tt_cS, tt_min, tt_max, tt_acp, pI, pII, pO, pA, pIA, pIIA, pOA, pOIA, pL, pLL, pLIA, pV, pCP, lI, lO, lL, nth, stL, clL, entA, fitL, rcv, List.take_succ_cons, List.take_zero, List.drop_succ_cons, List.drop_zero, List.reverse_cons, List.reverse_nil, List.nil_append, List.cons_append, List.length_cons, List.length_nil, Option.toList_some, Option.toList_none, gI_sI, gI_sA, gR_sI, gR_sA, gI_sR, gR_sR, hN_sI, hN_sA, hN_sR, isO_sI, isO_sA, isO_sR, isAr_sI, isAr_sA, isAr_sR, hC_sI, hC_sA, hC_sR, hZ_sI, hZ_sA, hZ_sR, MW_sI, MW_sA, true_and, and_true, true_or, or_true, and_self, forall_const, imp_self, implies_true, if_true, if_false, false_and, and_false, false_or, or_false, not_false_eq_true, not_true_eq_false, sI_sI, mr_tape w1, mr_text w1, mr_words w1, mr_wordSize w1, mr_subs w1, mr_subSize w1, mr_asked w1, mr_pile w1, mr_pileSize w1, mr_opened w1, mr_openedAt w1, mr_begun w1, mr_cells w1, mr_keptCells w1, mr_name w1, mr_isLeft w1, mr_isDone w1, mr_keptLeft w1, mr_keptDone w1, mr_state w1, mr_keptState w1, mr_newOf w1, mr_oldOf w1, mr_spare w1, mr_spareDone w1, mr_out w1, mr_metFrom w1, mr_metBy w1, mr_far w1, mr_low w1, mr_lows w1, mr_lowSize w1, mr_triedRow w1, mr_triedColumn w1, mr_triedValue w1, mr_triedRows w1, mr_sheet w1, ma_tape w1, ma_text w1, ma_words w1, ma_wordSize w1, ma_subs w1, ma_subSize w1, ma_asked w1, ma_pile w1, ma_pileSize w1, ma_opened w1, ma_openedAt w1, ma_begun w1, ma_cells w1, ma_keptCells w1, ma_name w1, ma_isLeft w1, ma_isDone w1, ma_keptLeft w1, ma_keptDone w1, ma_state w1, ma_keptState w1, ma_newOf w1, ma_oldOf w1, ma_spare w1, ma_spareDone w1, ma_out w1, ma_metFrom w1, ma_metBy w1, ma_far w1, ma_low w1, ma_lows w1, ma_lowSize w1, ma_triedRow w1, ma_triedColumn w1, ma_triedValue w1, ma_triedRows w1, ma_sheet w1, ml_tape, ml_text, ml_words, ml_wordSize, ml_subs, ml_subSize, ml_asked, ml_pile, ml_pileSize, ml_opened, ml_openedAt, ml_begun, ml_cells, ml_keptCells, ml_name, ml_isLeft, ml_isDone, ml_keptLeft, ml_keptDone, ml_state, ml_keptState, ml_newOf, ml_oldOf, ml_spare, ml_spareDone, ml_out, ml_metFrom, ml_metBy, ml_far, ml_low, ml_lows, ml_lowSize, ml_triedRow, ml_triedColumn, ml_triedValue, ml_triedRows, ml_sheet, mo_O w1]
    have wfZ : ∀ x : Int, 0 ≤ x → x < (ms.length : Int) → gI h' pMo_oldOf x = wf ms x ∧ wf ms x ∈ ms := by
      intro x x0 x1
      have a := hO x.toNat (by omega)
      have b := wf_mem (u := ms) (i := x.toNat) (by omega)
      rw [show ((x.toNat : Nat) : Int) = x by omega] at a b
      exact ⟨a, b⟩
    refine ⟨fun q => ⟨⟨0, y3, y4, rfl, by omega, hF, h42, hO, fun s hs hs0 => ?_, fun s hs hs0 => absurd (List.mem_singleton.mp hs) hs0, fun s hs => ?_⟩, ?_⟩, fun q => ?_⟩
    · have i0 := ixF_lt hs
      have i1 := ixF_at hs
      have ip : 0 < ixF ms s := by
        apply Nat.pos_of_ne_zero
        intro z
        rw [z] at i1
        exact hs0 (i1.symm.trans m4)
      have := hn (ixF ms s) ip (by omega)
      rw [i1] at this
      exact this
    · have e : s = 0 := List.mem_singleton.mp hs
      rw [e]; exact hf0
    · rw [hmu, muD_60, muD_35]
      simp only [locI, nth]
      omega
    · obtain ⟨a, b⟩ := wfZ k (by omega) (by omega)
      have v := VV_atM.mp ((m1 _).mp b)
      rw [a]
      refine ⟨by omega, by omega, v.1, by omega, ⟨by omega, by omega⟩, ⟨k + 1, y3, y4, rfl, by omega, by omega, FrP_sI (Or.inr (Or.inr (Or.inl rfl))) hF, h42, hO, hf0, fun i i0 i1 => ?_⟩, ?_⟩
      · split
        · rfl
        · rename_i z
          refine hn i i0 ?_
          apply Classical.byContradiction
          intro y
          have : (i : Int) = k := by omega
          rw [this] at z
          exact z rfl
      · rw [hmu, muD_35, muD_35]
        simp only [locI, nth]
        omega
  · rintro ls h' ⟨k, y3, y4, rfl, k1, hF, h42, hO, hR⟩
    have w1 := FrP_MW hF w
    simp (decide := true) only [B_Mo_measured_0, B_Mo_measured_35, B_Mo_measured_58, B_Mo_measured_60, B_Mo_measured_67, B_Mo_measured_112, B_Mo_measured_153, B_Mo_measured_159, B_Mo_measured_165, Ct_Mo_meet, tt_ci, tt_cl, tt_nul, tt_il, tt_al, tt_ll, tt_is, tt_as, tt_ls, tt_inc, tt_add, tt_sub, tt_mul, tt_div, tt_rem, tt_ladd, tt_lmul, tt_ldiv, tt_lrem, tt_zeq, tt_zne, tt_zlt, tt_zge, tt_zgt, tt_zle, tt_ceq, tt_cne, tt_clt, tt_cge, tt_cgt, tt_cle, tt_nn, tt_cut, tt_pop, tt_dup, tt_dup2, tt_gI, tt_gR, tt_pI, tt_pZ, tt_pR, tt_ia, tt_ba, tt_za, tt_iS, tt_bS, tt_zS, tt_aa, tt_aS, tt_len, tt_and, tt_xor, tt_shr, tt_ushr, tt_lcmp, tt_i2b, tt_i2l, tt_l2i, tt_sw, swG, tt_ir, tt_zr, tt_br, tt_lr, tt_ar, tt_vr, tt_cV, tt_cS, tt_min, tt_max, tt_acp, pI, pII, pO, pA, pIA, pIIA, pOA, pOIA, pL, pLL, pLIA, pV, pCP, lI, lO, lL, nth, stL, clL, entA, fitL, rcv, List.take_succ_cons, List.take_zero, List.drop_succ_cons, List.drop_zero, List.reverse_cons, List.reverse_nil, List.nil_append, List.cons_append, List.length_cons, List.length_nil, Option.toList_some, Option.toList_none, gI_sI, gI_sA, gR_sI, gR_sA, gI_sR, gR_sR, hN_sI, hN_sA, hN_sR, isO_sI, isO_sA, isO_sR, isAr_sI, isAr_sA, isAr_sR, hC_sI, hC_sA, hC_sR, hZ_sI, hZ_sA, hZ_sR, MW_sI, MW_sA, true_and, and_true, true_or, or_true, and_self, forall_const, imp_self, implies_true, if_true, if_false, false_and, and_false, false_or, or_false, not_false_eq_true, not_true_eq_false, sI_sI, mr_tape w1, mr_text w1, mr_words w1, mr_wordSize w1, mr_subs w1, mr_subSize w1, mr_asked w1, mr_pile w1, mr_pileSize w1, mr_opened w1, mr_openedAt w1, mr_begun w1, mr_cells w1, mr_keptCells w1, mr_name w1, mr_isLeft w1, mr_isDone w1, mr_keptLeft w1, mr_keptDone w1, mr_state w1, mr_keptState w1, mr_newOf w1, mr_oldOf w1, mr_spare w1, mr_spareDone w1, mr_out w1, mr_metFrom w1, mr_metBy w1, mr_far w1, mr_low w1, mr_lows w1, mr_lowSize w1, mr_triedRow w1, mr_triedColumn w1, mr_triedValue w1, mr_triedRows w1, mr_sheet w1, ma_tape w1, ma_text w1, ma_words w1, ma_wordSize w1, ma_subs w1, ma_subSize w1, ma_asked w1, ma_pile w1, ma_pileSize w1, ma_opened w1, ma_openedAt w1, ma_begun w1, ma_cells w1, ma_keptCells w1, ma_name w1, ma_isLeft w1, ma_isDone w1, ma_keptLeft w1, ma_keptDone w1, ma_state w1, ma_keptState w1, ma_newOf w1, ma_oldOf w1, ma_spare w1, ma_spareDone w1, ma_out w1, ma_metFrom w1, ma_metBy w1, ma_far w1, ma_low w1, ma_lows w1, ma_lowSize w1, ma_triedRow w1, ma_triedColumn w1, ma_triedValue w1, ma_triedRows w1, ma_sheet w1, ml_tape, ml_text, ml_words, ml_wordSize, ml_subs, ml_subSize, ml_asked, ml_pile, ml_pileSize, ml_opened, ml_openedAt, ml_begun, ml_cells, ml_keptCells, ml_name, ml_isLeft, ml_isDone, ml_keptLeft, ml_keptDone, ml_state, ml_keptState, ml_newOf, ml_oldOf, ml_spare, ml_spareDone, ml_out, ml_metFrom, ml_metBy, ml_far, ml_low, ml_lows, ml_lowSize, ml_triedRow, ml_triedColumn, ml_triedValue, ml_triedRows, ml_sheet, mo_O w1]
    refine ⟨fun q => ⟨hp h' hF ?_, hF.2.2.2.1, hF.2.2.2.2⟩, fun q => ⟨⟨k, 0, y4, rfl, by omega, by omega, hF, h42, hO, hR⟩, ?_⟩⟩
    · have e : k = ms.length := by omega
      obtain ⟨p, hpp⟩ := pre k (by omega)
      have hl : (allB E L.toNat 0 k).1.length ≤ k := by
        have l3 : ms.length = ((allB E L.toNat 0 k).1 ++ p).length := by rw [← hpp]
        rw [List.length_append] at l3
        omega
      have e2 : bsA L (atM h) = allB E L.toNat 0 k := by
        unfold bsA
        rw [← hE]
        exact bfA_eq (by omega) hl
      rw [e2]
      exact hR
    · rw [hmu, muD_67, muD_60]
      simp only [locI, nth]
      omega
  · rintro ls h' ⟨k, c, y4, rfl, k1, c1, hF, h42, hO, hR⟩
    have w1 := FrP_MW hF w
    have ec : gI h' pMo_cells = gI h pMo_cells := FrP_arr hF (fun j z => by unfold PQ at z; simp (decide := true) at z)
    have kl := lt k k1
    obtain ⟨p, hpp⟩ := pre k (by omega)
    have ek : wf (allB E L.toNat 0 k).1 k = wf ms k := by rw [hpp, wf_app kl]
    have e1 : allB E L.toNat 0 (k + 1) = rowB E (wf ms k) L.toNat (allB E L.toNat 0 k) := by rw [allB_succ, if_pos kl, ek]
    have hkm := wf_mem (u := ms) k1
    have hkv := (m1 _).mp hkm
    have hkv' := VV_atM.mp hkv
    have hkk : wf ms k ∈ (allB E L.toNat 0 k).1 := by rw [← ek]; exact wf_mem kl
    obtain ⟨m, hm, -⟩ := rowB_pre (E := E) (r := wf ms k) (n := c) (st := allB E L.toNat 0 k)
    have bI := bsI_row (E := E) (L := L.toNat) (f := 0) (r := wf ms k) (n := c) (st := allB E L.toNat 0 k) (by omega) (bsI_all k) hkk
    obtain ⟨r, hr⟩ : ∃ r, r = wf ms k := ⟨_, rfl⟩
    simp (decide := true) only [B_Mo_measured_0, B_Mo_measured_35, B_Mo_measured_58, B_Mo_measured_60, B_Mo_measured_67, B_Mo_measured_112, B_Mo_measured_153, B_Mo_measured_159, B_Mo_measured_165, Ct_Mo_meet, tt_ci, tt_cl, tt_nul, tt_il, tt_al, tt_ll, tt_is, tt_as, tt_ls, tt_inc, tt_add, tt_sub, tt_mul, tt_div, tt_rem, tt_ladd, tt_lmul, tt_ldiv, tt_lrem, tt_zeq, tt_zne, tt_zlt, tt_zge, tt_zgt, tt_zle, tt_ceq, tt_cne, tt_clt, tt_cge, tt_cgt, tt_cle, tt_nn, tt_cut, tt_pop, tt_dup, tt_dup2, tt_gI, tt_gR, tt_pI, tt_pZ, tt_pR, tt_ia, tt_ba, tt_za, tt_iS, tt_bS, tt_zS, tt_aa, tt_aS, tt_len, tt_and, tt_xor, tt_shr, tt_ushr, tt_lcmp, tt_i2b, tt_i2l, tt_l2i, tt_sw, swG, tt_ir, tt_zr, tt_br, tt_lr, tt_ar, tt_vr, tt_cV, tt_cS, tt_min, tt_max, tt_acp, pI, pII, pO, pA, pIA, pIIA, pOA, pOIA, pL, pLL, pLIA, pV, pCP, lI, lO, lL, nth, stL, clL, entA, fitL, rcv, List.take_succ_cons, List.take_zero, List.drop_succ_cons, List.drop_zero, List.reverse_cons, List.reverse_nil, List.nil_append, List.cons_append, List.length_cons, List.length_nil, Option.toList_some, Option.toList_none, gI_sI, gI_sA, gR_sI, gR_sA, gI_sR, gR_sR, hN_sI, hN_sA, hN_sR, isO_sI, isO_sA, isO_sR, isAr_sI, isAr_sA, isAr_sR, hC_sI, hC_sA, hC_sR, hZ_sI, hZ_sA, hZ_sR, MW_sI, MW_sA, true_and, and_true, true_or, or_true, and_self, forall_const, imp_self, implies_true, if_true, if_false, false_and, and_false, false_or, or_false, not_false_eq_true, not_true_eq_false, sI_sI, mr_tape w1, mr_text w1, mr_words w1, mr_wordSize w1, mr_subs w1, mr_subSize w1, mr_asked w1, mr_pile w1, mr_pileSize w1, mr_opened w1, mr_openedAt w1, mr_begun w1, mr_cells w1, mr_keptCells w1, mr_name w1, mr_isLeft w1, mr_isDone w1, mr_keptLeft w1, mr_keptDone w1, mr_state w1, mr_keptState w1, mr_newOf w1, mr_oldOf w1, mr_spare w1, mr_spareDone w1, mr_out w1, mr_metFrom w1, mr_metBy w1, mr_far w1, mr_low w1, mr_lows w1, mr_lowSize w1, mr_triedRow w1, mr_triedColumn w1, mr_triedValue w1, mr_triedRows w1, mr_sheet w1, ma_tape w1, ma_text w1, ma_words w1, ma_wordSize w1, ma_subs w1, ma_subSize w1, ma_asked w1, ma_pile w1, ma_pileSize w1, ma_opened w1, ma_openedAt w1, ma_begun w1, ma_cells w1, ma_keptCells w1, ma_name w1, ma_isLeft w1, ma_isDone w1, ma_keptLeft w1, ma_keptDone w1, ma_state w1, ma_keptState w1, ma_newOf w1, ma_oldOf w1, ma_spare w1, ma_spareDone w1, ma_out w1, ma_metFrom w1, ma_metBy w1, ma_far w1, ma_low w1, ma_lows w1, ma_lowSize w1, ma_triedRow w1, ma_triedColumn w1, ma_triedValue w1, ma_triedRows w1, ma_sheet w1, ml_tape, ml_text, ml_words, ml_wordSize, ml_subs, ml_subSize, ml_asked, ml_pile, ml_pileSize, ml_opened, ml_openedAt, ml_begun, ml_cells, ml_keptCells, ml_name, ml_isLeft, ml_isDone, ml_keptLeft, ml_keptDone, ml_state, ml_keptState, ml_newOf, ml_oldOf, ml_spare, ml_spareDone, ml_out, ml_metFrom, ml_metBy, ml_far, ml_low, ml_lows, ml_lowSize, ml_triedRow, ml_triedColumn, ml_triedValue, ml_triedRows, ml_sheet, mo_O w1, h42, hO k k1, ec]
    rw [← hr] at e1 hkm hkv hkv' hkk hm bI hR ⊢
    refine ⟨fun q => ?_, fun q => ?_⟩
    · have e : c = L.toNat := by omega
      refine ⟨⟨by omega, by omega⟩, ⟨k + 1, _, _, by push_cast; rfl, by omega, hF, hO, ?_⟩, ?_⟩
      · rw [e] at hR; rw [e1]; exact hR
      · rw [hmu, muD_60, muD_67]
        simp only [locI, nth]
        exact arM2 (by omega) (by omega) (by omega) (by omega)
    · have hcL : (c : Int) < L := by omega
      have eE : E r c = gI h pMo_cells (10 * r + c) := by rw [hE]; exact aE_atM hkv (by omega) (by omega)
      have g : VV (atM h) (E r c) := by
        have := full_P x3 hf r hkv c (by omega)
        rw [← hE] at this
        exact this
      have g' := VV_atM.mp g
      have gm := (m1 _).mpr g
      rw [← eE]
      obtain ⟨st, hst⟩ : ∃ st, st = rowB E r c (allB E L.toNat 0 k) := ⟨_, rfl⟩
      have e2 : rowB E r (c + 1) (allB E L.toNat 0 k) = colB E r c st := by rw [hst]; rfl
      rw [← hst] at hR bI hm
      have hrs : r ∈ st.1 := by rw [hm]; exact List.mem_append_left _ hkk
      have fr := bsI_far bI (ixF st.1 r) r hrs (Nat.le_refl _)
      have far : gI h' pMo_far r = st.2.2.2 r := hR.2.2 r hrs
      have frl : (ixF st.1 r : Int) ≤ 300 := by
        obtain ⟨p', hp'⟩ := pre (k + 1) (by omega)
        have l1 := rowB_le (E := E) (r := r) (st := allB E L.toNat 0 k) (c := c) (n := L.toNat) (by omega)
        rw [← e1, ← hst] at l1
        have l2 := ixF_lt hrs
        have l3 : ms.length = ((allB E L.toNat 0 (k + 1)).1 ++ p').length := by rw [← hp']
        rw [List.length_append] at l3
        omega
      have skip : E r c ∈ st.1 → (∃ (k_1 c_1 : Nat) (y4 : Option PV), ([some (.inr (.inl (some pMo))), some (.inl ms.length), some (.inl k), some (.inl ((c : Int) + 1)), some (.inl (E r c))] : LSt) = [some (.inr (.inl (some pMo))), some (.inl ms.length), some (.inl k_1), some (.inl c_1), y4] ∧ k_1 < ms.length ∧ (c_1 : Int) ≤ L ∧ FrP PQ h h' ∧ (∀ i : Nat, i < ms.length → gI h' pMo_oldOf i = wf ms i) ∧ repF h' (rowB E (wf ms k_1) c_1 (allB E L.toNat 0 k_1)) ms) ∧ mu 67 [some (.inr (.inl (some pMo))), some (.inl ms.length), some (.inl k), some (.inl ((c : Int) + 1)), some (.inl (E r c))] h' < mu 67 [some (.inr (.inl (some pMo))), some (.inl ms.length), some (.inl k), some (.inl c), y4] h' := by
        intro im
        have e3 : colB E r c st = st := if_pos im
        refine ⟨⟨k, c + 1, _, by push_cast; rfl, k1, by omega, hF, hO, ?_⟩, ?_⟩
        · rw [← hr, e2, e3]; exact hR
        · rw [hmu, muD_67, muD_67]
          simp only [locI, nth]
          omega
      refine ⟨by omega, by omega, ⟨by omega, by omega⟩, ⟨by omega, by omega⟩, by omega, by omega, fun z => ⟨⟨by omega, by omega⟩, skip (by rw [z]; exact bI.1)⟩, fun z => ⟨g'.1, by omega, fun z2 => ?_, fun z2 => ⟨⟨by omega, by omega⟩, skip ?_⟩⟩⟩
      · have nm : E r c ∉ st.1 := by
          intro im
          have h1 := hR.1 _ gm z
          have h2 := (bI.2.2.2.2 _ im z).1
          have h3 : 0 ≤ st.2.1 (E r c) := by
            have hmm : st.2.1 (E r c) ∈ ms := by
              obtain ⟨p', hp'⟩ := pre (k + 1) (by omega)
              have hle : ∃ p, (allB E L.toNat 0 (k + 1)).1 = st.1 ++ p := by
                rw [e1]
                have : ∀ n, c ≤ n → ∃ p, (rowB E r n (allB E L.toNat 0 k)).1 = st.1 ++ p := by
                  intro n
                  induction n with
                  | zero => intro hn; rw [hst, Nat.le_zero.mp hn]; exact ⟨[], by simp⟩
                  | succ n ih =>
                    intro hn
                    by_cases e : c = n + 1
                    · rw [hst, e]; exact ⟨[], by simp⟩
                    · obtain ⟨p, hp⟩ := ih (by omega)
                      obtain ⟨p2, hp2, -⟩ := colB_pre (E := E) (r := r) (c := n) (st := rowB E r n (allB E L.toNat 0 k))
                      exact ⟨p ++ p2, by show (colB E r n (rowB E r n (allB E L.toNat 0 k))).1 = _; rw [hp2, hp, List.append_assoc]⟩
                exact this L.toNat (by omega)
              obtain ⟨p2, hp2⟩ := hle
              rw [hp', hp2]
              exact List.mem_append_left _ (List.mem_append_left _ h2)
            have := VV_atM.mp ((m1 _).mp hmm)
            exact this.1
          rw [← h1, z2] at h3
          omega
        have e3 : colB E r c st = (st.1 ++ [E r c], upI st.2.1 (E r c) r, upI st.2.2.1 (E r c) c, upI st.2.2.2 (E r c) (st.2.2.2 r + 1)) := if_neg nm
        rw [far]
        refine ⟨by omega, by omega, g'.1, by omega, g'.1, by omega, by omega, by omega, hkv'.1, by omega, ⟨by omega, by omega⟩, g'.1, by omega, ⟨by omega, by omega⟩, ⟨k, c + 1, some (.inl (E r c)), by push_cast; rfl, k1, by omega, FrP_sI (Or.inr (Or.inr (Or.inr (Or.inr (Or.inl rfl))))) (FrP_sI (Or.inr (Or.inr (Or.inr (Or.inl rfl)))) (FrP_sI (Or.inr (Or.inr (Or.inl rfl))) hF)), hO, ?_⟩, ?_⟩
        · rw [← hr, e2, e3]
          refine ⟨fun s hs hs0 => ?_, fun s hs hs0 => ?_, fun s hs => ?_⟩
          · simp (decide := true) only [gI_sI, if_false, false_and, true_and]
            show _ = upI st.2.1 (E r c) r s
            unfold upI
            split
            · rfl
            · exact hR.1 s hs hs0
          · simp (decide := true) only [gI_sI, if_false, false_and, true_and]
            show _ = upI st.2.2.1 (E r c) c s
            unfold upI
            split
            · rfl
            · rename_i n
              have hs' : s ∈ st.1 ++ [E r c] := hs
              exact hR.2.1 s ((List.mem_append.mp hs').resolve_right (fun t => n (List.mem_singleton.mp t))) hs0
          · simp (decide := true) only [gI_sI, true_and]
            show _ = upI st.2.2.2 (E r c) (st.2.2.2 r + 1) s
            unfold upI
            split
            · rfl
            · rename_i n
              have hs' : s ∈ st.1 ++ [E r c] := hs
              have := hR.2.2 s ((List.mem_append.mp hs').resolve_right (fun t => n (List.mem_singleton.mp t)))
              simp (decide := true) only [if_false, false_and]
              exact this
        · rw [hmu, muD_67, muD_67]
          simp only [locI, nth]
          omega
      · apply Classical.byContradiction
        intro nm
        exact z2 ((hR.1 _ gm z).trans (bI.2.2.2.1 _ nm))
  · simp (decide := true) only [B_Mo_measured_0, B_Mo_measured_35, B_Mo_measured_58, B_Mo_measured_60, B_Mo_measured_67, B_Mo_measured_112, B_Mo_measured_153, B_Mo_measured_159, B_Mo_measured_165, Ct_Mo_meet, tt_ci, tt_cl, tt_nul, tt_il, tt_al, tt_ll, tt_is, tt_as, tt_ls, tt_inc, tt_add, tt_sub, tt_mul, tt_div, tt_rem, tt_ladd, tt_lmul, tt_ldiv, tt_lrem, tt_zeq, tt_zne, tt_zlt, tt_zge, tt_zgt, tt_zle, tt_ceq, tt_cne, tt_clt, tt_cge, tt_cgt, tt_cle, tt_nn, tt_cut, tt_pop, tt_dup, tt_dup2, tt_gI, tt_gR, tt_pI, tt_pZ, tt_pR, tt_ia, tt_ba, tt_za, tt_iS, tt_bS, tt_zS, tt_aa, tt_aS, tt_len, tt_and, tt_xor, tt_shr, tt_ushr, tt_lcmp, tt_i2b, tt_i2l, tt_l2i, tt_sw, swG, tt_ir, tt_zr, tt_br, tt_lr, tt_ar, tt_vr, tt_cV, tt_cS, tt_min, tt_max, tt_acp, pI, pII, pO, pA, pIA, pIIA, pOA, pOIA, pL, pLL, pLIA, pV, pCP, lI, lO, lL, nth, stL, clL, entA, fitL, rcv, List.take_succ_cons, List.take_zero, List.drop_succ_cons, List.drop_zero, List.reverse_cons, List.reverse_nil, List.nil_append, List.cons_append, List.length_cons, List.length_nil, Option.toList_some, Option.toList_none, gI_sI, gI_sA, gR_sI, gR_sA, gI_sR, gR_sR, hN_sI, hN_sA, hN_sR, isO_sI, isO_sA, isO_sR, isAr_sI, isAr_sA, isAr_sR, hC_sI, hC_sA, hC_sR, hZ_sI, hZ_sA, hZ_sR, MW_sI, MW_sA, true_and, and_true, true_or, or_true, and_self, forall_const, imp_self, implies_true, if_true, if_false, false_and, and_false, false_or, or_false, not_false_eq_true, not_true_eq_false, sI_sI, mr_tape w, mr_text w, mr_words w, mr_wordSize w, mr_subs w, mr_subSize w, mr_asked w, mr_pile w, mr_pileSize w, mr_opened w, mr_openedAt w, mr_begun w, mr_cells w, mr_keptCells w, mr_name w, mr_isLeft w, mr_isDone w, mr_keptLeft w, mr_keptDone w, mr_state w, mr_keptState w, mr_newOf w, mr_oldOf w, mr_spare w, mr_spareDone w, mr_out w, mr_metFrom w, mr_metBy w, mr_far w, mr_low w, mr_lows w, mr_lowSize w, mr_triedRow w, mr_triedColumn w, mr_triedValue w, mr_triedRows w, mr_sheet w, ma_tape w, ma_text w, ma_words w, ma_wordSize w, ma_subs w, ma_subSize w, ma_asked w, ma_pile w, ma_pileSize w, ma_opened w, ma_openedAt w, ma_begun w, ma_cells w, ma_keptCells w, ma_name w, ma_isLeft w, ma_isDone w, ma_keptLeft w, ma_keptDone w, ma_state w, ma_keptState w, ma_newOf w, ma_oldOf w, ma_spare w, ma_spareDone w, ma_out w, ma_metFrom w, ma_metBy w, ma_far w, ma_low w, ma_lows w, ma_lowSize w, ma_triedRow w, ma_triedColumn w, ma_triedValue w, ma_triedRows w, ma_sheet w, ml_tape, ml_text, ml_words, ml_wordSize, ml_subs, ml_subSize, ml_asked, ml_pile, ml_pileSize, ml_opened, ml_openedAt, ml_begun, ml_cells, ml_keptCells, ml_name, ml_isLeft, ml_isDone, ml_keptLeft, ml_keptDone, ml_state, ml_keptState, ml_newOf, ml_oldOf, ml_spare, ml_spareDone, ml_out, ml_metFrom, ml_metBy, ml_far, ml_low, ml_lows, ml_lowSize, ml_triedRow, ml_triedColumn, ml_triedValue, ml_triedRows, ml_sheet, mo_O w]
    refine ⟨⟨by omega, by omega⟩, w, L.toNat, VV (atM h), aE (atM h), by omega, by omega, by omega, by omega, x3.1.1, fun r hr => ?_, fun k => all_len x3 hf k x3.1.1, fun h1 f1 f2 => ?_⟩
    · have hr' := VV_atM.mp hr
      exact ⟨hr'.1, hr'.2.1, by omega, fun c hc => ⟨aE_atM hr (by omega) (by omega), full_P x3 hf r hr c hc⟩⟩
    · have w0 : MW (sI h pMo 42 (2 * gI h pMo 0)) := w
      have w1 : MW h1 := FrP_MW f1 w0
      have o1 : isO h1 pMo 9 := mo_O w1
      have e : (bfA (aE (atM h)) L.toNat 0).1 = ms := hms.symm
      rw [e] at f2
      have e42 : gI h1 pMo 42 = L := by
        rw [f1.1 pMo 42 (by unfold Pm; simp (decide := true)), gI_sI, if_pos ⟨rfl, rfl⟩]
        exact x1.symm
      simp (decide := true) only [B_Mo_measured_0, B_Mo_measured_35, B_Mo_measured_58, B_Mo_measured_60, B_Mo_measured_67, B_Mo_measured_112, B_Mo_measured_153, B_Mo_measured_159, B_Mo_measured_165, Ct_Mo_meet, tt_ci, tt_cl, tt_nul, tt_il, tt_al, tt_ll, tt_is, tt_as, tt_ls, tt_inc, tt_add, tt_sub, tt_mul, tt_div, tt_rem, tt_ladd, tt_lmul, tt_ldiv, tt_lrem, tt_zeq, tt_zne, tt_zlt, tt_zge, tt_zgt, tt_zle, tt_ceq, tt_cne, tt_clt, tt_cge, tt_cgt, tt_cle, tt_nn, tt_cut, tt_pop, tt_dup, tt_dup2, tt_gI, tt_gR, tt_pI, tt_pZ, tt_pR, tt_ia, tt_ba, tt_za, tt_iS, tt_bS, tt_zS, tt_aa, tt_aS, tt_len, tt_and, tt_xor, tt_shr, tt_ushr, tt_lcmp, tt_i2b, tt_i2l, tt_l2i, tt_sw, swG, tt_ir, tt_zr, tt_br, tt_lr, tt_ar, tt_vr, tt_cV, tt_cS, tt_min, tt_max, tt_acp, pI, pII, pO, pA, pIA, pIIA, pOA, pOIA, pL, pLL, pLIA, pV, pCP, lI, lO, lL, nth, stL, clL, entA, fitL, rcv, List.take_succ_cons, List.take_zero, List.drop_succ_cons, List.drop_zero, List.reverse_cons, List.reverse_nil, List.nil_append, List.cons_append, List.length_cons, List.length_nil, Option.toList_some, Option.toList_none, gI_sI, gI_sA, gR_sI, gR_sA, gI_sR, gR_sR, hN_sI, hN_sA, hN_sR, isO_sI, isO_sA, isO_sR, isAr_sI, isAr_sA, isAr_sR, hC_sI, hC_sA, hC_sR, hZ_sI, hZ_sA, hZ_sR, MW_sI, MW_sA, true_and, and_true, true_or, or_true, and_self, forall_const, imp_self, implies_true, if_true, if_false, false_and, and_false, false_or, or_false, not_false_eq_true, not_true_eq_false, sI_sI, mr_tape w1, mr_text w1, mr_words w1, mr_wordSize w1, mr_subs w1, mr_subSize w1, mr_asked w1, mr_pile w1, mr_pileSize w1, mr_opened w1, mr_openedAt w1, mr_begun w1, mr_cells w1, mr_keptCells w1, mr_name w1, mr_isLeft w1, mr_isDone w1, mr_keptLeft w1, mr_keptDone w1, mr_state w1, mr_keptState w1, mr_newOf w1, mr_oldOf w1, mr_spare w1, mr_spareDone w1, mr_out w1, mr_metFrom w1, mr_metBy w1, mr_far w1, mr_low w1, mr_lows w1, mr_lowSize w1, mr_triedRow w1, mr_triedColumn w1, mr_triedValue w1, mr_triedRows w1, mr_sheet w1, ma_tape w1, ma_text w1, ma_words w1, ma_wordSize w1, ma_subs w1, ma_subSize w1, ma_asked w1, ma_pile w1, ma_pileSize w1, ma_opened w1, ma_openedAt w1, ma_begun w1, ma_cells w1, ma_keptCells w1, ma_name w1, ma_isLeft w1, ma_isDone w1, ma_keptLeft w1, ma_keptDone w1, ma_state w1, ma_keptState w1, ma_newOf w1, ma_oldOf w1, ma_spare w1, ma_spareDone w1, ma_out w1, ma_metFrom w1, ma_metBy w1, ma_far w1, ma_low w1, ma_lows w1, ma_lowSize w1, ma_triedRow w1, ma_triedColumn w1, ma_triedValue w1, ma_triedRows w1, ma_sheet w1, ml_tape, ml_text, ml_words, ml_wordSize, ml_subs, ml_subSize, ml_asked, ml_pile, ml_pileSize, ml_opened, ml_openedAt, ml_begun, ml_cells, ml_keptCells, ml_name, ml_isLeft, ml_isDone, ml_keptLeft, ml_keptDone, ml_state, ml_keptState, ml_newOf, ml_oldOf, ml_spare, ml_spareDone, ml_out, ml_metFrom, ml_metBy, ml_far, ml_low, ml_lows, ml_lowSize, ml_triedRow, ml_triedColumn, ml_triedValue, ml_triedRows, ml_sheet, mo_O w1, o1, e, e42]
      refine ⟨1, none, none, rfl, by omega, by omega, FrP_sI (Or.inr (Or.inr (Or.inr (Or.inr (Or.inl rfl))))) ?_, f2.1, fun i i0 i1 => by omega⟩
      refine FrP_trans (FrP_sI (Or.inr (Or.inr (Or.inr (Or.inr (Or.inr ⟨rfl, rfl⟩))))) (FrP_refl _ h)) (FrP_mono (fun b j z => ?_) f1)
      rcases z with z | z
      · exact Or.inl z
      · exact Or.inr (Or.inl z)
/-- a column as a byte -/
def tbC (c : Int) : Int := bm ((if c % 2 = 0 then 97 else 65) + c / 2)
def PL (b : Nat) (j : Int) : Prop := PQ b j ∨ Po b j ∨ b = pMo_out ∨ (b = pMo ∧ j = 46)
def Ct_Mo_least : CtT := fun av h post => match av with
  | [.inr (.inl (some t)), .inl r] => t = pMo ∧ MW h ∧ (¬ (gI h pMo 32 ≠ 0 ∧ gI h pMo_state 6 = 1) → post (some (.inl (-1))) (noH h 6)) ∧ (gI h pMo 32 ≠ 0 ∧ gI h pMo_state 6 = 1 → ∃ (L Q : Int), TX L Q h ∧ FU L (atM h) ∧ (¬ VV (atM h) r → post (some (.inl (-1))) (noH h 4)) ∧ (VV (atM h) r → ∀ h', FrP PL h h' → gdH h' → gI h' pMo 46 = (bsA L (atM h)).2.2.2 r → (∀ i : Nat, (i : Int) < (bsA L (atM h)).2.2.2 r → gI h' pMo_out ((bsA L (atM h)).2.2.2 r - 1 - i) = tbC ((bsA L (atM h)).2.2.1 (itB (bsA L (atM h)).2.1 i r))) → post (some (.inl ((bsA L (atM h)).2.2.2 r))) h'))
  | _ => False
def B_Mo_least_88 : TT := (tt_al 0 (tt_gI 9 46 tt_ir))
theorem S_Mo_least_88 (lc lz : Nat) : Snd md_Mo_least lc lz 88 (B_Mo_least_88) := (snd_al_n (n := 0) (dget dd_Mo_least 51 rfl) rfl (snd_gI (kn := 46) fd_Mo_335 rfl (dget dd_Mo_least 52 rfl) (snd_ir (dget dd_Mo_least 53 rfl) rfl)))
def B_Mo_least_60 : TT := (tt_il 3 (tt_zlt (B_Mo_least_88) (tt_al 0 (tt_il 3 (tt_al 0 (tt_gR 9 48 (tt_il 2 (tt_ia (tt_cV 9 3 Ct_Mo_tellColumn (tt_al 0 (tt_gR 9 47 (tt_il 2 (tt_ia (tt_is 2 (tt_inc 3 (-1) (tt_cut 60))))))))))))))))
theorem S_Mo_least_60 (lc lz : Nat) : Snd md_Mo_least lc lz 60 (B_Mo_least_60) := (snd_il_n (n := 3) (dget dd_Mo_least 35 rfl) rfl (snd_zlt (tg := 88) (dget dd_Mo_least 36 rfl) rfl (S_Mo_least_88 lc lz) (snd_al_n (n := 0) (dget dd_Mo_least 37 rfl) rfl (snd_il_n (n := 3) (dget dd_Mo_least 38 rfl) rfl (snd_al_n (n := 0) (dget dd_Mo_least 39 rfl) rfl (snd_gR (kn := 48) fd_Mo_100 rfl (dget dd_Mo_least 40 rfl) (snd_il_n (n := 2) (dget dd_Mo_least 41 rfl) rfl (snd_ia (dget dd_Mo_least 42 rfl) (snd_cV (n := 2) met_Mo_tellColumn mi_Mo_tellColumn ki_Mo_tellColumn kv_Mo_tellColumn ml_Mo_338 rfl (by decide) (dget dd_Mo_least 43 rfl) (snd_al_n (n := 0) (dget dd_Mo_least 44 rfl) rfl (snd_gR (kn := 47) fd_Mo_97 rfl (dget dd_Mo_least 45 rfl) (snd_il_n (n := 2) (dget dd_Mo_least 46 rfl) rfl (snd_ia (dget dd_Mo_least 47 rfl) (snd_is_n (n := 2) (dget dd_Mo_least 48 rfl) rfl (snd_inc (dget dd_Mo_least 49 rfl) (snd_goto (tg := 60) (dget dd_Mo_least 50 rfl) rfl snd_cut))))))))))))))))
def B_Mo_least_33 : TT := (tt_al 0 (tt_cV 9 1 Ct_Mo_good (tt_al 0 (tt_cV 9 1 Ct_Mo_measured (tt_al 0 (tt_al 0 (tt_gR 9 49 (tt_il 1 (tt_ia (tt_pI 9 46 (tt_il 1 (tt_is 2 (tt_al 0 (tt_gI 9 46 (tt_ci 1 (tt_sub (tt_is 3 (tt_cut 60))))))))))))))))))
theorem S_Mo_least_33 (lc lz : Nat) : Snd md_Mo_least lc lz 33 (B_Mo_least_33) := (snd_al_n (n := 0) (dget dd_Mo_least 18 rfl) rfl (snd_cV (n := 0) met_Mo_good mi_Mo_good ki_Mo_good kv_Mo_good ml_Mo_159 rfl (by decide) (dget dd_Mo_least 19 rfl) (snd_al_n (n := 0) (dget dd_Mo_least 20 rfl) rfl (snd_cV (n := 0) met_Mo_measured mi_Mo_measured ki_Mo_measured kv_Mo_measured ml_Mo_332 rfl (by decide) (dget dd_Mo_least 21 rfl) (snd_al_n (n := 0) (dget dd_Mo_least 22 rfl) rfl (snd_al_n (n := 0) (dget dd_Mo_least 23 rfl) rfl (snd_gR (kn := 49) fd_Mo_103 rfl (dget dd_Mo_least 24 rfl) (snd_il_n (n := 1) (dget dd_Mo_least 25 rfl) rfl (snd_ia (dget dd_Mo_least 26 rfl) (snd_pI (kn := 46) fd_Mo_335 rfl (dget dd_Mo_least 27 rfl) (snd_il_n (n := 1) (dget dd_Mo_least 28 rfl) rfl (snd_is_n (n := 2) (dget dd_Mo_least 29 rfl) rfl (snd_al_n (n := 0) (dget dd_Mo_least 30 rfl) rfl (snd_gI (kn := 46) fd_Mo_335 rfl (dget dd_Mo_least 31 rfl) (snd_iconst (n := 1) (dget dd_Mo_least 32 rfl) (inR_d rfl) rfl (snd_sub (dget dd_Mo_least 33 rfl) (snd_is_n (n := 3) (dget dd_Mo_least 34 rfl) rfl snd_cut)))))))))))))))))
def B_Mo_least_19 : TT := (tt_al 0 (tt_il 1 (tt_cV 9 2 Ct_Mo_isRow (tt_zne (B_Mo_least_33) (tt_al 0 (tt_ci 4 (tt_cV 9 2 Ct_Mo_no tt_ir)))))))
theorem S_Mo_least_19 (lc lz : Nat) : Snd md_Mo_least lc lz 19 (B_Mo_least_19) := (snd_al_n (n := 0) (dget dd_Mo_least 10 rfl) rfl (snd_il_n (n := 1) (dget dd_Mo_least 11 rfl) rfl (snd_cV (n := 1) met_Mo_isRow mi_Mo_isRow ki_Mo_isRow kv_Mo_isRow ml_Mo_320 rfl (by decide) (dget dd_Mo_least 12 rfl) (snd_zne (tg := 33) (dget dd_Mo_least 13 rfl) rfl (S_Mo_least_33 lc lz) (snd_al_n (n := 0) (dget dd_Mo_least 14 rfl) rfl (snd_iconst (n := 4) (dget dd_Mo_least 15 rfl) (inR_d rfl) rfl (snd_cV (n := 1) met_Mo_no mi_Mo_no ki_Mo_no kv_Mo_no ml_Mo_221 rfl (by decide) (dget dd_Mo_least 16 rfl) (snd_ir (dget dd_Mo_least 17 rfl) rfl))))))))
def B_Mo_least_0 : TT := (tt_al 0 (tt_ci 0 (tt_pI 9 4 (tt_al 0 (tt_cV 9 1 Ct_Mo_isWhole (tt_zne (B_Mo_least_19) (tt_al 0 (tt_ci 6 (tt_cV 9 2 Ct_Mo_no tt_ir)))))))))
theorem S_Mo_least_0 (lc lz : Nat) : Snd md_Mo_least lc lz 0 (B_Mo_least_0) := (snd_al_n (n := 0) (dget dd_Mo_least 0 rfl) rfl (snd_iconst (n := 0) (dget dd_Mo_least 1 rfl) (inR_d rfl) rfl (snd_pI (kn := 4) fd_Mo_130 rfl (dget dd_Mo_least 2 rfl) (snd_al_n (n := 0) (dget dd_Mo_least 3 rfl) rfl (snd_cV (n := 0) met_Mo_isWhole mi_Mo_isWhole ki_Mo_isWhole kv_Mo_isWhole ml_Mo_310 rfl (by decide) (dget dd_Mo_least 4 rfl) (snd_zne (tg := 19) (dget dd_Mo_least 5 rfl) rfl (S_Mo_least_19 lc lz) (snd_al_n (n := 0) (dget dd_Mo_least 6 rfl) rfl (snd_bipush (n := 6) (dget dd_Mo_least 7 rfl) (inR_d rfl) (by decide) (snd_cV (n := 1) met_Mo_no mi_Mo_no ki_Mo_no kv_Mo_no ml_Mo_221 rfl (by decide) (dget dd_Mo_least 8 rfl) (snd_ir (dget dd_Mo_least 9 rfl) rfl))))))))))
theorem met_Mo_least : MetP y_Mo_least md_Mo_least (fun _ => 0) (fun _ => 0) Ct_Mo_least := by
  refine metL1 (body := B_Mo_least_0) (B1 := B_Mo_least_60) (by decide) rfl rfl (fun lc lz => S_Mo_least_0 lc lz) (fun lc lz => S_Mo_least_60 lc lz) ?_
  intro av h post hc hH hav
  unfold Ct_Mo_least at hc
  split at hc
  rotate_left
  · exact hc.elim
  rename_i t r
  obtain ⟨rfl, w, hp0, hp⟩ := hc
  refine ⟨Nat.le_of_ble_eq_true rfl, ?_⟩
  by_cases hwh : gI h pMo 32 ≠ 0 ∧ gI h pMo_state 6 = 1
  rotate_left
  · refine ⟨fun _ _ => False, fun _ _ _ => 0, fun _ _ z => z.elim, ?_⟩
    simp (decide := true) only [B_Mo_least_0, B_Mo_least_19, B_Mo_least_33, B_Mo_least_60, B_Mo_least_88, Ct_Mo_isWhole, Ct_Mo_no, Ct_Mo_isRow, Ct_Mo_good, Ct_Mo_measured, Ct_Mo_tellColumn, tt_ci, tt_cl, tt_nul, tt_il, tt_al, tt_ll, tt_is, tt_as, tt_ls, tt_inc, tt_add, tt_sub, tt_mul, tt_div, tt_rem, tt_ladd, tt_lmul, tt_ldiv, tt_lrem, tt_zeq, tt_zne, tt_zlt, tt_zge, tt_zgt, tt_zle, tt_ceq, tt_cne, tt_clt, tt_cge, tt_cgt, tt_cle, tt_nn, tt_cut, tt_pop, tt_dup, tt_dup2, tt_gI, tt_gR, tt_pI, tt_pZ, tt_pR, tt_ia, tt_ba, tt_za, tt_iS, tt_bS, tt_zS, tt_aa, tt_aS, tt_len, tt_and, tt_xor, tt_shr, tt_ushr, tt_lcmp, tt_i2b, tt_i2l, tt_l2i, tt_sw, swG, tt_ir, tt_zr, tt_br, tt_lr, tt_ar, tt_vr, tt_cV, tt_cS, tt_min, tt_max, tt_acp, pI, pII, pO, pA, pIA, pIIA, pOA, pOIA, pL, pLL, pLIA, pV, pCP, lI, lO, lL, nth, stL, clL, entA, fitL, rcv, List.take_succ_cons, List.take_zero, List.drop_succ_cons, List.drop_zero, List.reverse_cons, List.reverse_nil, List.nil_append, List.cons_append, List.length_cons, List.length_nil, Option.toList_some, Option.toList_none, gI_sI, gI_sA, gR_sI, gR_sA, gI_sR, gR_sR, hN_sI, hN_sA, hN_sR, isO_sI, isO_sA, isO_sR, isAr_sI, isAr_sA, isAr_sR, hC_sI, hC_sA, hC_sR, hZ_sI, hZ_sA, hZ_sR, MW_sI, MW_sA, true_and, and_true, true_or, or_true, and_self, forall_const, imp_self, implies_true, if_true, if_false, false_and, and_false, false_or, or_false, not_false_eq_true, not_true_eq_false, sI_sI, mr_tape w, mr_text w, mr_words w, mr_wordSize w, mr_subs w, mr_subSize w, mr_asked w, mr_pile w, mr_pileSize w, mr_opened w, mr_openedAt w, mr_begun w, mr_cells w, mr_keptCells w, mr_name w, mr_isLeft w, mr_isDone w, mr_keptLeft w, mr_keptDone w, mr_state w, mr_keptState w, mr_newOf w, mr_oldOf w, mr_spare w, mr_spareDone w, mr_out w, mr_metFrom w, mr_metBy w, mr_far w, mr_low w, mr_lows w, mr_lowSize w, mr_triedRow w, mr_triedColumn w, mr_triedValue w, mr_triedRows w, mr_sheet w, ma_tape w, ma_text w, ma_words w, ma_wordSize w, ma_subs w, ma_subSize w, ma_asked w, ma_pile w, ma_pileSize w, ma_opened w, ma_openedAt w, ma_begun w, ma_cells w, ma_keptCells w, ma_name w, ma_isLeft w, ma_isDone w, ma_keptLeft w, ma_keptDone w, ma_state w, ma_keptState w, ma_newOf w, ma_oldOf w, ma_spare w, ma_spareDone w, ma_out w, ma_metFrom w, ma_metBy w, ma_far w, ma_low w, ma_lows w, ma_lowSize w, ma_triedRow w, ma_triedColumn w, ma_triedValue w, ma_triedRows w, ma_sheet w, ml_tape, ml_text, ml_words, ml_wordSize, ml_subs, ml_subSize, ml_asked, ml_pile, ml_pileSize, ml_opened, ml_openedAt, ml_begun, ml_cells, ml_keptCells, ml_name, ml_isLeft, ml_isDone, ml_keptLeft, ml_keptDone, ml_state, ml_keptState, ml_newOf, ml_oldOf, ml_spare, ml_spareDone, ml_out, ml_metFrom, ml_metBy, ml_far, ml_low, ml_lows, ml_lowSize, ml_triedRow, ml_triedColumn, ml_triedValue, ml_triedRows, ml_sheet, mo_O w]
    rw [if_neg hwh]
    exact ⟨w, fun z => absurd rfl z, fun _ => ⟨w, hp0 hwh⟩⟩
  obtain ⟨L, Q, hX, hFU, hpn, hp⟩ := hp hwh
  obtain ⟨x1, x2, x3, x4, x5, x6⟩ := id hX
  have sr := st_raw x3
  have hf := hFU (by rw [aS_atM (by decide) (by decide)]; exact hwh.2)
  obtain ⟨m1, m2, m3, m4⟩ := ms_all x3 hf
  have hI := bsA_I (L := L) (a := atM h)
  rw [← bsA_ms] at m1 m2 m3 m4
  obtain ⟨st, hst⟩ : ∃ st, st = bsA L (atM h) := ⟨_, rfl⟩
  rw [← hst] at hI m1 m2 m3 m4 hp
  rw [aS_atM (by decide) (by decide)] at m3
  refine ⟨fun ls h' => VV (atM h) r ∧ ∃ i : Nat, ls = [some (.inr (.inl (some pMo))), some (.inl r), some (.inl (itB st.2.1 i r)), some (.inl (st.2.2.2 r - 1 - i))] ∧ (i : Int) ≤ st.2.2.2 r ∧ FrP PL h h' ∧ gdH h' ∧ gI h' pMo 46 = st.2.2.2 r ∧ repF h' st st.1 ∧ (∀ j : Nat, j < i → gI h' pMo_out (st.2.2.2 r - 1 - j) = tbC (st.2.2.1 (itB st.2.1 j r))), fun _ ls _ => (1 + locI ls 3).toNat, ?_, ?_⟩
  · rintro ls h' ⟨hr, i, rfl, hi, hF, hg, h46, hR, ho⟩
    have w1 := FrP_MW hF w
    have far := bsI_far hI (ixF st.1 r) r ((m1 r).mpr hr) (Nat.le_refl _)
    have ixl := ixF_lt ((m1 r).mpr hr)
    simp (decide := true) only [B_Mo_least_0, B_Mo_least_19, B_Mo_least_33, B_Mo_least_60, B_Mo_least_88, Ct_Mo_isWhole, Ct_Mo_no, Ct_Mo_isRow, Ct_Mo_good, Ct_Mo_measured, Ct_Mo_tellColumn, tt_ci, tt_cl, tt_nul, tt_il, tt_al, tt_ll, tt_is, tt_as, tt_ls, tt_inc, tt_add, tt_sub, tt_mul, tt_div, tt_rem, tt_ladd, tt_lmul, tt_ldiv, tt_lrem, tt_zeq, tt_zne, tt_zlt, tt_zge, tt_zgt, tt_zle, tt_ceq, tt_cne, tt_clt, tt_cge, tt_cgt, tt_cle, tt_nn, tt_cut, tt_pop, tt_dup, tt_dup2, tt_gI, tt_gR, tt_pI, tt_pZ, tt_pR, tt_ia, tt_ba, tt_za, tt_iS, tt_bS, tt_zS, tt_aa, tt_aS, tt_len, tt_and, tt_xor, tt_shr, tt_ushr, tt_lcmp, tt_i2b, tt_i2l, tt_l2i, tt_sw, swG, tt_ir, tt_zr, tt_br, tt_lr, tt_ar, tt_vr, tt_cV, tt_cS, tt_min, tt_max, tt_acp, pI, pII, pO, pA, pIA, pIIA, pOA, pOIA, pL, pLL, pLIA, pV, pCP, lI, lO, lL, nth, stL, clL, entA, fitL, rcv, List.take_succ_cons, List.take_zero, List.drop_succ_cons, List.drop_zero, List.reverse_cons, List.reverse_nil, List.nil_append, List.cons_append, List.length_cons, List.length_nil, Option.toList_some, Option.toList_none, gI_sI, gI_sA, gR_sI, gR_sA, gI_sR, gR_sR, hN_sI, hN_sA, hN_sR, isO_sI, isO_sA, isO_sR, isAr_sI, isAr_sA, isAr_sR, hC_sI, hC_sA, hC_sR, hZ_sI, hZ_sA, hZ_sR, MW_sI, MW_sA, true_and, and_true, true_or, or_true, and_self, forall_const, imp_self, implies_true, if_true, if_false, false_and, and_false, false_or, or_false, not_false_eq_true, not_true_eq_false, sI_sI, mr_tape w1, mr_text w1, mr_words w1, mr_wordSize w1, mr_subs w1, mr_subSize w1, mr_asked w1, mr_pile w1, mr_pileSize w1, mr_opened w1, mr_openedAt w1, mr_begun w1, mr_cells w1, mr_keptCells w1, mr_name w1, mr_isLeft w1, mr_isDone w1, mr_keptLeft w1, mr_keptDone w1, mr_state w1, mr_keptState w1, mr_newOf w1, mr_oldOf w1, mr_spare w1, mr_spareDone w1, mr_out w1, mr_metFrom w1, mr_metBy w1, mr_far w1, mr_low w1, mr_lows w1, mr_lowSize w1, mr_triedRow w1, mr_triedColumn w1, mr_triedValue w1, mr_triedRows w1, mr_sheet w1, ma_tape w1, ma_text w1, ma_words w1, ma_wordSize w1, ma_subs w1, ma_subSize w1, ma_asked w1, ma_pile w1, ma_pileSize w1, ma_opened w1, ma_openedAt w1, ma_begun w1, ma_cells w1, ma_keptCells w1, ma_name w1, ma_isLeft w1, ma_isDone w1, ma_keptLeft w1, ma_keptDone w1, ma_state w1, ma_keptState w1, ma_newOf w1, ma_oldOf w1, ma_spare w1, ma_spareDone w1, ma_out w1, ma_metFrom w1, ma_metBy w1, ma_far w1, ma_low w1, ma_lows w1, ma_lowSize w1, ma_triedRow w1, ma_triedColumn w1, ma_triedValue w1, ma_triedRows w1, ma_sheet w1, ml_tape, ml_text, ml_words, ml_wordSize, ml_subs, ml_subSize, ml_asked, ml_pile, ml_pileSize, ml_opened, ml_openedAt, ml_begun, ml_cells, ml_keptCells, ml_name, ml_isLeft, ml_isDone, ml_keptLeft, ml_keptDone, ml_state, ml_keptState, ml_newOf, ml_oldOf, ml_spare, ml_spareDone, ml_out, ml_metFrom, ml_metBy, ml_far, ml_low, ml_lows, ml_lowSize, ml_triedRow, ml_triedColumn, ml_triedValue, ml_triedRows, ml_sheet, mo_O w1, locI, nth]
    obtain ⟨i1, i2, i3⟩ := itB_in hI ((m1 r).mpr hr) i hi
    have v := VV_atM.mp ((m1 _).mp i1)
    refine ⟨fun q => ?_, fun q => ?_⟩
    · rw [h46]
      refine ⟨hp hr h' hF hg h46 (fun j hj => ho j (by omega)), hF.2.2.2.1, hF.2.2.2.2⟩
    · have ne := i3 (by omega)
      have g := hI.2.2.2.2 _ i1 ne
      have eb : gI h' pMo_metBy (itB st.2.1 i r) = st.2.2.1 (itB st.2.1 i r) := hR.2.1 _ i1 ne
      have ef : gI h' pMo_metFrom (itB st.2.1 i r) = st.2.1 (itB st.2.1 i r) := hR.1 _ i1 ne
      rw [eb, ef]
      refine ⟨v.1, by omega, w1, by omega, by omega, g.2.2.1, by omega, v.1, by omega, ⟨by omega, by omega⟩, ⟨hr, i + 1, ?_, by omega, FrP_sI (Or.inr (Or.inr (Or.inl rfl))) hF, ?_, h46, ?_, fun j hj => ?_⟩, by omega⟩
      · have e9 : st.2.2.2 r - 1 - (i : Int) + -1 = st.2.2.2 r - 1 - ((i + 1 : Nat) : Int) := by omega
        rw [e9]; rfl
      · unfold gdH at hg ⊢
        simp (decide := true) only [gI_sI, if_false, false_and]
        exact hg
      · refine ⟨fun s hs hs0 => ?_, fun s hs hs0 => ?_, fun s hs => ?_⟩
        · rw [gI_sI, if_neg (fun z => absurd z.1 (by decide))]; exact hR.1 s hs hs0
        · rw [gI_sI, if_neg (fun z => absurd z.1 (by decide))]; exact hR.2.1 s hs hs0
        · rw [gI_sI, if_neg (fun z => absurd z.1 (by decide))]; exact hR.2.2 s hs
      · by_cases e : j = i
        · rw [e, if_pos rfl]; rfl
        · rw [if_neg (by omega)]; exact ho j (by omega)
  · simp (decide := true) only [B_Mo_least_0, B_Mo_least_19, B_Mo_least_33, B_Mo_least_60, B_Mo_least_88, Ct_Mo_isWhole, Ct_Mo_no, Ct_Mo_isRow, Ct_Mo_good, Ct_Mo_measured, Ct_Mo_tellColumn, tt_ci, tt_cl, tt_nul, tt_il, tt_al, tt_ll, tt_is, tt_as, tt_ls, tt_inc, tt_add, tt_sub, tt_mul, tt_div, tt_rem, tt_ladd, tt_lmul, tt_ldiv, tt_lrem, tt_zeq, tt_zne, tt_zlt, tt_zge, tt_zgt, tt_zle, tt_ceq, tt_cne, tt_clt, tt_cge, tt_cgt, tt_cle, tt_nn, tt_cut, tt_pop, tt_dup, tt_dup2, tt_gI, tt_gR, tt_pI, tt_pZ, tt_pR, tt_ia, tt_ba, tt_za, tt_iS, tt_bS, tt_zS, tt_aa, tt_aS, tt_len, tt_and, tt_xor, tt_shr, tt_ushr, tt_lcmp, tt_i2b, tt_i2l, tt_l2i, tt_sw, swG, tt_ir, tt_zr, tt_br, tt_lr, tt_ar, tt_vr, tt_cV, tt_cS, tt_min, tt_max, tt_acp, pI, pII, pO, pA, pIA, pIIA, pOA, pOIA, pL, pLL, pLIA, pV, pCP, lI, lO, lL, nth, stL, clL, entA, fitL, rcv, List.take_succ_cons, List.take_zero, List.drop_succ_cons, List.drop_zero, List.reverse_cons, List.reverse_nil, List.nil_append, List.cons_append, List.length_cons, List.length_nil, Option.toList_some, Option.toList_none, gI_sI, gI_sA, gR_sI, gR_sA, gI_sR, gR_sR, hN_sI, hN_sA, hN_sR, isO_sI, isO_sA, isO_sR, isAr_sI, isAr_sA, isAr_sR, hC_sI, hC_sA, hC_sR, hZ_sI, hZ_sA, hZ_sR, MW_sI, MW_sA, true_and, and_true, true_or, or_true, and_self, forall_const, imp_self, implies_true, if_true, if_false, false_and, and_false, false_or, or_false, not_false_eq_true, not_true_eq_false, sI_sI, mr_tape w, mr_text w, mr_words w, mr_wordSize w, mr_subs w, mr_subSize w, mr_asked w, mr_pile w, mr_pileSize w, mr_opened w, mr_openedAt w, mr_begun w, mr_cells w, mr_keptCells w, mr_name w, mr_isLeft w, mr_isDone w, mr_keptLeft w, mr_keptDone w, mr_state w, mr_keptState w, mr_newOf w, mr_oldOf w, mr_spare w, mr_spareDone w, mr_out w, mr_metFrom w, mr_metBy w, mr_far w, mr_low w, mr_lows w, mr_lowSize w, mr_triedRow w, mr_triedColumn w, mr_triedValue w, mr_triedRows w, mr_sheet w, ma_tape w, ma_text w, ma_words w, ma_wordSize w, ma_subs w, ma_subSize w, ma_asked w, ma_pile w, ma_pileSize w, ma_opened w, ma_openedAt w, ma_begun w, ma_cells w, ma_keptCells w, ma_name w, ma_isLeft w, ma_isDone w, ma_keptLeft w, ma_keptDone w, ma_state w, ma_keptState w, ma_newOf w, ma_oldOf w, ma_spare w, ma_spareDone w, ma_out w, ma_metFrom w, ma_metBy w, ma_far w, ma_low w, ma_lows w, ma_lowSize w, ma_triedRow w, ma_triedColumn w, ma_triedValue w, ma_triedRows w, ma_sheet w, ml_tape, ml_text, ml_words, ml_wordSize, ml_subs, ml_subSize, ml_asked, ml_pile, ml_pileSize, ml_opened, ml_openedAt, ml_begun, ml_cells, ml_keptCells, ml_name, ml_isLeft, ml_isDone, ml_keptLeft, ml_keptDone, ml_state, ml_keptState, ml_newOf, ml_oldOf, ml_spare, ml_spareDone, ml_out, ml_metFrom, ml_metBy, ml_far, ml_low, ml_lows, ml_lowSize, ml_triedRow, ml_triedColumn, ml_triedValue, ml_triedRows, ml_sheet, mo_O w]
    rw [if_pos hwh]
    obtain ⟨a1, a2, a3, a4⟩ := Po_at (goodH_Po (h := h))
    have hvr : VV (atM h) r ↔ gI h pMo 32 ≠ 0 ∧ 0 ≤ r ∧ r < gI h pMo_state 0 ∧ gI h pMo_isLeft r ≠ 0 := by
      rw [VV_atM]
      exact ⟨fun z => ⟨hwh.1, z⟩, fun z => z.2⟩
    refine ⟨w, fun _ => ⟨w, by omega, fun q => ⟨w, w, L, Q, (a4 L Q).mpr hX, ?_, hwh.2, fun h1 f1 f2 => ?_⟩, fun q => ⟨w, hpn (fun z => ?_)⟩⟩, fun z => absurd z (by decide)⟩
    · have : FU L (atM (goodH h)) := by rw [a1]; exact hFU
      exact this
    · have hr : VV (atM h) r := hvr.mpr (by
        apply Classical.byContradiction
        intro t
        exact q (if_neg t))
      have f1' : FrP PQ (goodH h) h1 := f1
      have f2' : repF h1 (bsA L (atM (goodH h))) (msA L (atM (goodH h))) := f2
      rw [a1, ← bsA_ms, ← hst] at f2'
      have w0 : MW (goodH h) := w
      have w1 : MW h1 := FrP_MW f1' w0
      have o1 : isO h1 pMo 9 := mo_O w1
      have hr' := VV_atM.mp hr
      have far := bsI_far hI (ixF st.1 r) r ((m1 r).mpr hr) (Nat.le_refl _)
      have ixl := ixF_lt ((m1 r).mpr hr)
      have ef : gI h1 pMo_far r = st.2.2.2 r := f2'.2.2 r ((m1 r).mpr hr)
      have fld : ∀ j, j ≠ 42 → gI h1 pMo j = gI (goodH h) pMo j := fun j hj => f1'.1 pMo j (by unfold PQ; simp (decide := true) [hj])
      simp (decide := true) only [B_Mo_least_0, B_Mo_least_19, B_Mo_least_33, B_Mo_least_60, B_Mo_least_88, Ct_Mo_isWhole, Ct_Mo_no, Ct_Mo_isRow, Ct_Mo_good, Ct_Mo_measured, Ct_Mo_tellColumn, tt_ci, tt_cl, tt_nul, tt_il, tt_al, tt_ll, tt_is, tt_as, tt_ls, tt_inc, tt_add, tt_sub, tt_mul, tt_div, tt_rem, tt_ladd, tt_lmul, tt_ldiv, tt_lrem, tt_zeq, tt_zne, tt_zlt, tt_zge, tt_zgt, tt_zle, tt_ceq, tt_cne, tt_clt, tt_cge, tt_cgt, tt_cle, tt_nn, tt_cut, tt_pop, tt_dup, tt_dup2, tt_gI, tt_gR, tt_pI, tt_pZ, tt_pR, tt_ia, tt_ba, tt_za, tt_iS, tt_bS, tt_zS, tt_aa, tt_aS, tt_len, tt_and, tt_xor, tt_shr, tt_ushr, tt_lcmp, tt_i2b, tt_i2l, tt_l2i, tt_sw, swG, tt_ir, tt_zr, tt_br, tt_lr, tt_ar, tt_vr, tt_cV, tt_cS, tt_min, tt_max, tt_acp, pI, pII, pO, pA, pIA, pIIA, pOA, pOIA, pL, pLL, pLIA, pV, pCP, lI, lO, lL, nth, stL, clL, entA, fitL, rcv, List.take_succ_cons, List.take_zero, List.drop_succ_cons, List.drop_zero, List.reverse_cons, List.reverse_nil, List.nil_append, List.cons_append, List.length_cons, List.length_nil, Option.toList_some, Option.toList_none, gI_sI, gI_sA, gR_sI, gR_sA, gI_sR, gR_sR, hN_sI, hN_sA, hN_sR, isO_sI, isO_sA, isO_sR, isAr_sI, isAr_sA, isAr_sR, hC_sI, hC_sA, hC_sR, hZ_sI, hZ_sA, hZ_sR, MW_sI, MW_sA, true_and, and_true, true_or, or_true, and_self, forall_const, imp_self, implies_true, if_true, if_false, false_and, and_false, false_or, or_false, not_false_eq_true, not_true_eq_false, sI_sI, mr_tape w1, mr_text w1, mr_words w1, mr_wordSize w1, mr_subs w1, mr_subSize w1, mr_asked w1, mr_pile w1, mr_pileSize w1, mr_opened w1, mr_openedAt w1, mr_begun w1, mr_cells w1, mr_keptCells w1, mr_name w1, mr_isLeft w1, mr_isDone w1, mr_keptLeft w1, mr_keptDone w1, mr_state w1, mr_keptState w1, mr_newOf w1, mr_oldOf w1, mr_spare w1, mr_spareDone w1, mr_out w1, mr_metFrom w1, mr_metBy w1, mr_far w1, mr_low w1, mr_lows w1, mr_lowSize w1, mr_triedRow w1, mr_triedColumn w1, mr_triedValue w1, mr_triedRows w1, mr_sheet w1, ma_tape w1, ma_text w1, ma_words w1, ma_wordSize w1, ma_subs w1, ma_subSize w1, ma_asked w1, ma_pile w1, ma_pileSize w1, ma_opened w1, ma_openedAt w1, ma_begun w1, ma_cells w1, ma_keptCells w1, ma_name w1, ma_isLeft w1, ma_isDone w1, ma_keptLeft w1, ma_keptDone w1, ma_state w1, ma_keptState w1, ma_newOf w1, ma_oldOf w1, ma_spare w1, ma_spareDone w1, ma_out w1, ma_metFrom w1, ma_metBy w1, ma_far w1, ma_low w1, ma_lows w1, ma_lowSize w1, ma_triedRow w1, ma_triedColumn w1, ma_triedValue w1, ma_triedRows w1, ma_sheet w1, ml_tape, ml_text, ml_words, ml_wordSize, ml_subs, ml_subSize, ml_asked, ml_pile, ml_pileSize, ml_opened, ml_openedAt, ml_begun, ml_cells, ml_keptCells, ml_name, ml_isLeft, ml_isDone, ml_keptLeft, ml_keptDone, ml_state, ml_keptState, ml_newOf, ml_oldOf, ml_spare, ml_spareDone, ml_out, ml_metFrom, ml_metBy, ml_far, ml_low, ml_lows, ml_lowSize, ml_triedRow, ml_triedColumn, ml_triedValue, ml_triedRows, ml_sheet, mo_O w1, o1, ef]
      refine ⟨by omega, by omega, ⟨by omega, by omega⟩, hr, 0, ?_, by omega, FrP_sI (Or.inr (Or.inr (Or.inr ⟨rfl, rfl⟩))) (FrP_trans (FrP_mono (fun b j z => Or.inr (Or.inl z)) goodH_Po) (FrP_mono (fun b j z => Or.inl z) f1')), ?_, ?_, fun j hj => by omega⟩
      · rw [show st.2.2.2 r - 1 - ((0 : Nat) : Int) = st.2.2.2 r - 1 by omega]; rfl
      · unfold gdH
        simp (decide := true) only [gI_sI, if_false, and_false]
        rw [fld 1 (by decide), fld 2 (by decide), fld 4 (by decide)]
        unfold goodH
        simp (decide := true) only [gI_sI, if_false, if_true, and_false, and_self]
      · refine ⟨fun s hs hs0 => ?_, fun s hs hs0 => ?_, fun s hs => ?_⟩
        · rw [gI_sI, if_neg (fun z => absurd z.1 (by decide))]; exact f2'.1 s hs hs0
        · rw [gI_sI, if_neg (fun z => absurd z.1 (by decide))]; exact f2'.2.1 s hs hs0
        · rw [gI_sI, if_neg (fun z => absurd z.1 (by decide))]; exact f2'.2.2 s hs
    · rw [if_pos (hvr.mp z)] at q
      exact absurd q (by decide)
def PF2 (b : Nat) (j : Int) : Prop := PQ b j ∨ Po b j
def Ct_Mo_farthest : CtT := fun av h post => match av with
  | [.inr (.inl (some t))] => t = pMo ∧ MW h ∧ (¬ (gI h pMo 32 ≠ 0 ∧ gI h pMo_state 6 = 1) → post (some (.inl (-1))) (noH h 6)) ∧ (gI h pMo 32 ≠ 0 ∧ gI h pMo_state 6 = 1 → ∃ (L Q : Int), TX L Q h ∧ FU L (atM h) ∧ ∀ h', FrP PF2 h h' → gdH h' → post (some (.inl (fbF (aV (atM h)) (bsA L (atM h)).2.2.2 (aN (atM h))))) h')
  | _ => False
def B_Mo_farthest_73 : TT := (tt_il 1 tt_ir)
theorem S_Mo_farthest_73 (lc lz : Nat) : Snd md_Mo_farthest lc lz 73 (B_Mo_farthest_73) := (snd_il_n (n := 1) (dget dd_Mo_farthest 42 rfl) rfl (snd_ir (dget dd_Mo_farthest 43 rfl) rfl))
def B_Mo_farthest_67 : TT := (tt_inc 2 1 (tt_cut 31))
theorem S_Mo_farthest_67 (lc lz : Nat) : Snd md_Mo_farthest lc lz 67 (B_Mo_farthest_67) := (snd_inc (dget dd_Mo_farthest 40 rfl) (snd_goto (tg := 31) (dget dd_Mo_farthest 41 rfl) rfl snd_cut))
def B_Mo_farthest_31 : TT := (tt_il 2 (tt_al 0 (tt_gR 9 30 (tt_ci 0 (tt_ia (tt_cge (B_Mo_farthest_73) (tt_al 0 (tt_gR 9 26 (tt_il 2 (tt_za (tt_zeq (B_Mo_farthest_67) (tt_al 0 (tt_gR 9 49 (tt_il 2 (tt_ia (tt_al 0 (tt_gR 9 49 (tt_il 1 (tt_ia (tt_cle (B_Mo_farthest_67) (tt_il 2 (tt_is 1 (B_Mo_farthest_67)))))))))))))))))))))))
theorem S_Mo_farthest_31 (lc lz : Nat) : Snd md_Mo_farthest lc lz 31 (B_Mo_farthest_31) := (snd_il_n (n := 2) (dget dd_Mo_farthest 18 rfl) rfl (snd_al_n (n := 0) (dget dd_Mo_farthest 19 rfl) rfl (snd_gR (kn := 30) fd_Mo_76 rfl (dget dd_Mo_farthest 20 rfl) (snd_iconst (n := 0) (dget dd_Mo_farthest 21 rfl) (inR_d rfl) rfl (snd_ia (dget dd_Mo_farthest 22 rfl) (snd_cge (tg := 73) (dget dd_Mo_farthest 23 rfl) rfl (S_Mo_farthest_73 lc lz) (snd_al_n (n := 0) (dget dd_Mo_farthest 24 rfl) rfl (snd_gR (kn := 26) fd_Mo_63 rfl (dget dd_Mo_farthest 25 rfl) (snd_il_n (n := 2) (dget dd_Mo_farthest 26 rfl) rfl (snd_za (dget dd_Mo_farthest 27 rfl) (snd_zeq (tg := 67) (dget dd_Mo_farthest 28 rfl) rfl (S_Mo_farthest_67 lc lz) (snd_al_n (n := 0) (dget dd_Mo_farthest 29 rfl) rfl (snd_gR (kn := 49) fd_Mo_103 rfl (dget dd_Mo_farthest 30 rfl) (snd_il_n (n := 2) (dget dd_Mo_farthest 31 rfl) rfl (snd_ia (dget dd_Mo_farthest 32 rfl) (snd_al_n (n := 0) (dget dd_Mo_farthest 33 rfl) rfl (snd_gR (kn := 49) fd_Mo_103 rfl (dget dd_Mo_farthest 34 rfl) (snd_il_n (n := 1) (dget dd_Mo_farthest 35 rfl) rfl (snd_ia (dget dd_Mo_farthest 36 rfl) (snd_cle (tg := 67) (dget dd_Mo_farthest 37 rfl) rfl (S_Mo_farthest_67 lc lz) (snd_il_n (n := 2) (dget dd_Mo_farthest 38 rfl) rfl (snd_is_n (n := 1) (dget dd_Mo_farthest 39 rfl) rfl (S_Mo_farthest_67 lc lz)))))))))))))))))))))))
def B_Mo_farthest_19 : TT := (tt_al 0 (tt_cV 9 1 Ct_Mo_good (tt_al 0 (tt_cV 9 1 Ct_Mo_measured (tt_ci 0 (tt_is 1 (tt_ci 0 (tt_is 2 (tt_cut 31)))))))))
theorem S_Mo_farthest_19 (lc lz : Nat) : Snd md_Mo_farthest lc lz 19 (B_Mo_farthest_19) := (snd_al_n (n := 0) (dget dd_Mo_farthest 10 rfl) rfl (snd_cV (n := 0) met_Mo_good mi_Mo_good ki_Mo_good kv_Mo_good ml_Mo_159 rfl (by decide) (dget dd_Mo_farthest 11 rfl) (snd_al_n (n := 0) (dget dd_Mo_farthest 12 rfl) rfl (snd_cV (n := 0) met_Mo_measured mi_Mo_measured ki_Mo_measured kv_Mo_measured ml_Mo_332 rfl (by decide) (dget dd_Mo_farthest 13 rfl) (snd_iconst (n := 0) (dget dd_Mo_farthest 14 rfl) (inR_d rfl) rfl (snd_is_n (n := 1) (dget dd_Mo_farthest 15 rfl) rfl (snd_iconst (n := 0) (dget dd_Mo_farthest 16 rfl) (inR_d rfl) rfl (snd_is_n (n := 2) (dget dd_Mo_farthest 17 rfl) rfl snd_cut))))))))
def B_Mo_farthest_0 : TT := (tt_al 0 (tt_ci 0 (tt_pI 9 4 (tt_al 0 (tt_cV 9 1 Ct_Mo_isWhole (tt_zne (B_Mo_farthest_19) (tt_al 0 (tt_ci 6 (tt_cV 9 2 Ct_Mo_no tt_ir)))))))))
theorem S_Mo_farthest_0 (lc lz : Nat) : Snd md_Mo_farthest lc lz 0 (B_Mo_farthest_0) := (snd_al_n (n := 0) (dget dd_Mo_farthest 0 rfl) rfl (snd_iconst (n := 0) (dget dd_Mo_farthest 1 rfl) (inR_d rfl) rfl (snd_pI (kn := 4) fd_Mo_130 rfl (dget dd_Mo_farthest 2 rfl) (snd_al_n (n := 0) (dget dd_Mo_farthest 3 rfl) rfl (snd_cV (n := 0) met_Mo_isWhole mi_Mo_isWhole ki_Mo_isWhole kv_Mo_isWhole ml_Mo_310 rfl (by decide) (dget dd_Mo_farthest 4 rfl) (snd_zne (tg := 19) (dget dd_Mo_farthest 5 rfl) rfl (S_Mo_farthest_19 lc lz) (snd_al_n (n := 0) (dget dd_Mo_farthest 6 rfl) rfl (snd_bipush (n := 6) (dget dd_Mo_farthest 7 rfl) (inR_d rfl) (by decide) (snd_cV (n := 1) met_Mo_no mi_Mo_no ki_Mo_no kv_Mo_no ml_Mo_221 rfl (by decide) (dget dd_Mo_farthest 8 rfl) (snd_ir (dget dd_Mo_farthest 9 rfl) rfl))))))))))
theorem met_Mo_farthest : MetP y_Mo_farthest md_Mo_farthest (fun _ => 0) (fun _ => 0) Ct_Mo_farthest := by
  refine metL1 (body := B_Mo_farthest_0) (B1 := B_Mo_farthest_31) (by decide) rfl rfl (fun lc lz => S_Mo_farthest_0 lc lz) (fun lc lz => S_Mo_farthest_31 lc lz) ?_
  intro av h post hc hH hav
  unfold Ct_Mo_farthest at hc
  split at hc
  rotate_left
  · exact hc.elim
  rename_i t
  obtain ⟨rfl, w, hp0, hp⟩ := hc
  refine ⟨Nat.le_of_ble_eq_true rfl, ?_⟩
  by_cases hwh : gI h pMo 32 ≠ 0 ∧ gI h pMo_state 6 = 1
  rotate_left
  · refine ⟨fun _ _ => False, fun _ _ _ => 0, fun _ _ z => z.elim, ?_⟩
    simp (decide := true) only [B_Mo_farthest_0, B_Mo_farthest_19, B_Mo_farthest_31, B_Mo_farthest_67, B_Mo_farthest_73, Ct_Mo_isWhole, Ct_Mo_no, Ct_Mo_good, Ct_Mo_measured, tt_ci, tt_cl, tt_nul, tt_il, tt_al, tt_ll, tt_is, tt_as, tt_ls, tt_inc, tt_add, tt_sub, tt_mul, tt_div, tt_rem, tt_ladd, tt_lmul, tt_ldiv, tt_lrem, tt_zeq, tt_zne, tt_zlt, tt_zge, tt_zgt, tt_zle, tt_ceq, tt_cne, tt_clt, tt_cge, tt_cgt, tt_cle, tt_nn, tt_cut, tt_pop, tt_dup, tt_dup2, tt_gI, tt_gR, tt_pI, tt_pZ, tt_pR, tt_ia, tt_ba, tt_za, tt_iS, tt_bS, tt_zS, tt_aa, tt_aS, tt_len, tt_and, tt_xor, tt_shr, tt_ushr, tt_lcmp, tt_i2b, tt_i2l, tt_l2i, tt_sw, swG, tt_ir, tt_zr, tt_br, tt_lr, tt_ar, tt_vr, tt_cV, tt_cS, tt_min, tt_max, tt_acp, pI, pII, pO, pA, pIA, pIIA, pOA, pOIA, pL, pLL, pLIA, pV, pCP, lI, lO, lL, nth, stL, clL, entA, fitL, rcv, List.take_succ_cons, List.take_zero, List.drop_succ_cons, List.drop_zero, List.reverse_cons, List.reverse_nil, List.nil_append, List.cons_append, List.length_cons, List.length_nil, Option.toList_some, Option.toList_none, gI_sI, gI_sA, gR_sI, gR_sA, gI_sR, gR_sR, hN_sI, hN_sA, hN_sR, isO_sI, isO_sA, isO_sR, isAr_sI, isAr_sA, isAr_sR, hC_sI, hC_sA, hC_sR, hZ_sI, hZ_sA, hZ_sR, MW_sI, MW_sA, true_and, and_true, true_or, or_true, and_self, forall_const, imp_self, implies_true, if_true, if_false, false_and, and_false, false_or, or_false, not_false_eq_true, not_true_eq_false, sI_sI, mr_tape w, mr_text w, mr_words w, mr_wordSize w, mr_subs w, mr_subSize w, mr_asked w, mr_pile w, mr_pileSize w, mr_opened w, mr_openedAt w, mr_begun w, mr_cells w, mr_keptCells w, mr_name w, mr_isLeft w, mr_isDone w, mr_keptLeft w, mr_keptDone w, mr_state w, mr_keptState w, mr_newOf w, mr_oldOf w, mr_spare w, mr_spareDone w, mr_out w, mr_metFrom w, mr_metBy w, mr_far w, mr_low w, mr_lows w, mr_lowSize w, mr_triedRow w, mr_triedColumn w, mr_triedValue w, mr_triedRows w, mr_sheet w, ma_tape w, ma_text w, ma_words w, ma_wordSize w, ma_subs w, ma_subSize w, ma_asked w, ma_pile w, ma_pileSize w, ma_opened w, ma_openedAt w, ma_begun w, ma_cells w, ma_keptCells w, ma_name w, ma_isLeft w, ma_isDone w, ma_keptLeft w, ma_keptDone w, ma_state w, ma_keptState w, ma_newOf w, ma_oldOf w, ma_spare w, ma_spareDone w, ma_out w, ma_metFrom w, ma_metBy w, ma_far w, ma_low w, ma_lows w, ma_lowSize w, ma_triedRow w, ma_triedColumn w, ma_triedValue w, ma_triedRows w, ma_sheet w, ml_tape, ml_text, ml_words, ml_wordSize, ml_subs, ml_subSize, ml_asked, ml_pile, ml_pileSize, ml_opened, ml_openedAt, ml_begun, ml_cells, ml_keptCells, ml_name, ml_isLeft, ml_isDone, ml_keptLeft, ml_keptDone, ml_state, ml_keptState, ml_newOf, ml_oldOf, ml_spare, ml_spareDone, ml_out, ml_metFrom, ml_metBy, ml_far, ml_low, ml_lows, ml_lowSize, ml_triedRow, ml_triedColumn, ml_triedValue, ml_triedRows, ml_sheet, mo_O w]
    rw [if_neg hwh]
    exact ⟨w, fun z => absurd rfl z, fun _ => ⟨w, hp0 hwh⟩⟩
  obtain ⟨L, Q, hX, hFU, hp⟩ := hp hwh
  obtain ⟨x1, x2, x3, x4, x5, x6⟩ := id hX
  have sr := st_raw x3
  have hf := hFU (by rw [aS_atM (by decide) (by decide)]; exact hwh.2)
  obtain ⟨m1, m2, m3, m4⟩ := ms_all x3 hf
  have hI := bsA_I (L := L) (a := atM h)
  rw [← bsA_ms] at m1 m2 m3 m4
  obtain ⟨st, hst⟩ : ∃ st, st = bsA L (atM h) := ⟨_, rfl⟩
  rw [← hst] at hI m1 m2 m3 m4 hp
  have eN := aN_eq x3
  rw [aS_atM (by decide) (by decide)] at m3 eN
  have fb : ∀ k : Nat, VV (atM h) (fbF (aV (atM h)) st.2.2.2 k) := by
    intro k
    induction k with
    | zero => exact x3.1.1
    | succ k ih =>
      show VV (atM h) (if aV (atM h) k ≠ 0 ∧ st.2.2.2 (fbF (aV (atM h)) st.2.2.2 k) < st.2.2.2 k then (k : Int) else fbF (aV (atM h)) st.2.2.2 k)
      split
      · rename_i z; exact z.1
      · exact ih
  refine ⟨fun ls h' => ∃ k : Nat, ls = [some (.inr (.inl (some pMo))), some (.inl (fbF (aV (atM h)) st.2.2.2 k)), some (.inl k)] ∧ (k : Int) ≤ gI h pMo_state 0 ∧ FrP PF2 h h' ∧ gdH h' ∧ repF h' st st.1, fun _ ls _ => (2000 - locI ls 2).toNat, ?_, ?_⟩
  · rintro ls h' ⟨k, rfl, hk, hF, hg, hR⟩
    have w1 := FrP_MW hF w
    have es : gI h' pMo_state = gI h pMo_state := FrP_arr hF (fun j z => by unfold PF2 PQ Po at z; simp (decide := true) at z)
    have el : gI h' pMo_isLeft = gI h pMo_isLeft := FrP_arr hF (fun j z => by unfold PF2 PQ Po at z; simp (decide := true) at z)
    have fbk := VV_atM.mp (fb k)
    have ef : gI h' pMo_far (fbF (aV (atM h)) st.2.2.2 k) = st.2.2.2 (fbF (aV (atM h)) st.2.2.2 k) := hR.2.2 _ ((m1 _).mpr (fb k))
    simp (decide := true) only [B_Mo_farthest_0, B_Mo_farthest_19, B_Mo_farthest_31, B_Mo_farthest_67, B_Mo_farthest_73, Ct_Mo_isWhole, Ct_Mo_no, Ct_Mo_good, Ct_Mo_measured, tt_ci, tt_cl, tt_nul, tt_il, tt_al, tt_ll, tt_is, tt_as, tt_ls, tt_inc, tt_add, tt_sub, tt_mul, tt_div, tt_rem, tt_ladd, tt_lmul, tt_ldiv, tt_lrem, tt_zeq, tt_zne, tt_zlt, tt_zge, tt_zgt, tt_zle, tt_ceq, tt_cne, tt_clt, tt_cge, tt_cgt, tt_cle, tt_nn, tt_cut, tt_pop, tt_dup, tt_dup2, tt_gI, tt_gR, tt_pI, tt_pZ, tt_pR, tt_ia, tt_ba, tt_za, tt_iS, tt_bS, tt_zS, tt_aa, tt_aS, tt_len, tt_and, tt_xor, tt_shr, tt_ushr, tt_lcmp, tt_i2b, tt_i2l, tt_l2i, tt_sw, swG, tt_ir, tt_zr, tt_br, tt_lr, tt_ar, tt_vr, tt_cV, tt_cS, tt_min, tt_max, tt_acp, pI, pII, pO, pA, pIA, pIIA, pOA, pOIA, pL, pLL, pLIA, pV, pCP, lI, lO, lL, nth, stL, clL, entA, fitL, rcv, List.take_succ_cons, List.take_zero, List.drop_succ_cons, List.drop_zero, List.reverse_cons, List.reverse_nil, List.nil_append, List.cons_append, List.length_cons, List.length_nil, Option.toList_some, Option.toList_none, gI_sI, gI_sA, gR_sI, gR_sA, gI_sR, gR_sR, hN_sI, hN_sA, hN_sR, isO_sI, isO_sA, isO_sR, isAr_sI, isAr_sA, isAr_sR, hC_sI, hC_sA, hC_sR, hZ_sI, hZ_sA, hZ_sR, MW_sI, MW_sA, true_and, and_true, true_or, or_true, and_self, forall_const, imp_self, implies_true, if_true, if_false, false_and, and_false, false_or, or_false, not_false_eq_true, not_true_eq_false, sI_sI, mr_tape w1, mr_text w1, mr_words w1, mr_wordSize w1, mr_subs w1, mr_subSize w1, mr_asked w1, mr_pile w1, mr_pileSize w1, mr_opened w1, mr_openedAt w1, mr_begun w1, mr_cells w1, mr_keptCells w1, mr_name w1, mr_isLeft w1, mr_isDone w1, mr_keptLeft w1, mr_keptDone w1, mr_state w1, mr_keptState w1, mr_newOf w1, mr_oldOf w1, mr_spare w1, mr_spareDone w1, mr_out w1, mr_metFrom w1, mr_metBy w1, mr_far w1, mr_low w1, mr_lows w1, mr_lowSize w1, mr_triedRow w1, mr_triedColumn w1, mr_triedValue w1, mr_triedRows w1, mr_sheet w1, ma_tape w1, ma_text w1, ma_words w1, ma_wordSize w1, ma_subs w1, ma_subSize w1, ma_asked w1, ma_pile w1, ma_pileSize w1, ma_opened w1, ma_openedAt w1, ma_begun w1, ma_cells w1, ma_keptCells w1, ma_name w1, ma_isLeft w1, ma_isDone w1, ma_keptLeft w1, ma_keptDone w1, ma_state w1, ma_keptState w1, ma_newOf w1, ma_oldOf w1, ma_spare w1, ma_spareDone w1, ma_out w1, ma_metFrom w1, ma_metBy w1, ma_far w1, ma_low w1, ma_lows w1, ma_lowSize w1, ma_triedRow w1, ma_triedColumn w1, ma_triedValue w1, ma_triedRows w1, ma_sheet w1, ml_tape, ml_text, ml_words, ml_wordSize, ml_subs, ml_subSize, ml_asked, ml_pile, ml_pileSize, ml_opened, ml_openedAt, ml_begun, ml_cells, ml_keptCells, ml_name, ml_isLeft, ml_isDone, ml_keptLeft, ml_keptDone, ml_state, ml_keptState, ml_newOf, ml_oldOf, ml_spare, ml_spareDone, ml_out, ml_metFrom, ml_metBy, ml_far, ml_low, ml_lows, ml_lowSize, ml_triedRow, ml_triedColumn, ml_triedValue, ml_triedRows, ml_sheet, mo_O w1, es, el, ef, locI, nth]
    have nx : fbF (aV (atM h)) st.2.2.2 (k + 1) = if aV (atM h) k ≠ 0 ∧ st.2.2.2 (fbF (aV (atM h)) st.2.2.2 k) < st.2.2.2 k then (k : Int) else fbF (aV (atM h)) st.2.2.2 k := rfl
    refine ⟨fun q => ?_, fun q => ⟨by omega, by omega, fun q2 => ⟨⟨by omega, by omega⟩, ⟨k + 1, ?_, by omega, hF, hg, hR⟩, by omega⟩, fun q2 => ?_⟩⟩
    · have e : k = aN (atM h) := by omega
      rw [e]
      exact ⟨hp h' hF hg, hF.2.2.2.1, hF.2.2.2.2⟩
    · rw [nx, if_neg (fun z => (VV_atM.mp z.1).2.2 q2)]
      push_cast
      rfl
    · have hv : VV (atM h) k := VV_atM.mpr ⟨by omega, by omega, q2⟩
      have ek : gI h' pMo_far k = st.2.2.2 k := hR.2.2 _ ((m1 _).mpr hv)
      rw [ek]
      refine ⟨by omega, by omega, fbk.1, by omega, fun q3 => ⟨⟨by omega, by omega⟩, ⟨k + 1, ?_, by omega, hF, hg, hR⟩, by omega⟩, fun q3 => ⟨⟨by omega, by omega⟩, ⟨k + 1, ?_, by omega, hF, hg, hR⟩, by omega⟩⟩
      · rw [nx, if_neg (fun z => by have := z.2; omega)]
        push_cast
        rfl
      · rw [nx, if_pos ⟨hv, by omega⟩]
        push_cast
        rfl
  · simp (decide := true) only [B_Mo_farthest_0, B_Mo_farthest_19, B_Mo_farthest_31, B_Mo_farthest_67, B_Mo_farthest_73, Ct_Mo_isWhole, Ct_Mo_no, Ct_Mo_good, Ct_Mo_measured, tt_ci, tt_cl, tt_nul, tt_il, tt_al, tt_ll, tt_is, tt_as, tt_ls, tt_inc, tt_add, tt_sub, tt_mul, tt_div, tt_rem, tt_ladd, tt_lmul, tt_ldiv, tt_lrem, tt_zeq, tt_zne, tt_zlt, tt_zge, tt_zgt, tt_zle, tt_ceq, tt_cne, tt_clt, tt_cge, tt_cgt, tt_cle, tt_nn, tt_cut, tt_pop, tt_dup, tt_dup2, tt_gI, tt_gR, tt_pI, tt_pZ, tt_pR, tt_ia, tt_ba, tt_za, tt_iS, tt_bS, tt_zS, tt_aa, tt_aS, tt_len, tt_and, tt_xor, tt_shr, tt_ushr, tt_lcmp, tt_i2b, tt_i2l, tt_l2i, tt_sw, swG, tt_ir, tt_zr, tt_br, tt_lr, tt_ar, tt_vr, tt_cV, tt_cS, tt_min, tt_max, tt_acp, pI, pII, pO, pA, pIA, pIIA, pOA, pOIA, pL, pLL, pLIA, pV, pCP, lI, lO, lL, nth, stL, clL, entA, fitL, rcv, List.take_succ_cons, List.take_zero, List.drop_succ_cons, List.drop_zero, List.reverse_cons, List.reverse_nil, List.nil_append, List.cons_append, List.length_cons, List.length_nil, Option.toList_some, Option.toList_none, gI_sI, gI_sA, gR_sI, gR_sA, gI_sR, gR_sR, hN_sI, hN_sA, hN_sR, isO_sI, isO_sA, isO_sR, isAr_sI, isAr_sA, isAr_sR, hC_sI, hC_sA, hC_sR, hZ_sI, hZ_sA, hZ_sR, MW_sI, MW_sA, true_and, and_true, true_or, or_true, and_self, forall_const, imp_self, implies_true, if_true, if_false, false_and, and_false, false_or, or_false, not_false_eq_true, not_true_eq_false, sI_sI, mr_tape w, mr_text w, mr_words w, mr_wordSize w, mr_subs w, mr_subSize w, mr_asked w, mr_pile w, mr_pileSize w, mr_opened w, mr_openedAt w, mr_begun w, mr_cells w, mr_keptCells w, mr_name w, mr_isLeft w, mr_isDone w, mr_keptLeft w, mr_keptDone w, mr_state w, mr_keptState w, mr_newOf w, mr_oldOf w, mr_spare w, mr_spareDone w, mr_out w, mr_metFrom w, mr_metBy w, mr_far w, mr_low w, mr_lows w, mr_lowSize w, mr_triedRow w, mr_triedColumn w, mr_triedValue w, mr_triedRows w, mr_sheet w, ma_tape w, ma_text w, ma_words w, ma_wordSize w, ma_subs w, ma_subSize w, ma_asked w, ma_pile w, ma_pileSize w, ma_opened w, ma_openedAt w, ma_begun w, ma_cells w, ma_keptCells w, ma_name w, ma_isLeft w, ma_isDone w, ma_keptLeft w, ma_keptDone w, ma_state w, ma_keptState w, ma_newOf w, ma_oldOf w, ma_spare w, ma_spareDone w, ma_out w, ma_metFrom w, ma_metBy w, ma_far w, ma_low w, ma_lows w, ma_lowSize w, ma_triedRow w, ma_triedColumn w, ma_triedValue w, ma_triedRows w, ma_sheet w, ml_tape, ml_text, ml_words, ml_wordSize, ml_subs, ml_subSize, ml_asked, ml_pile, ml_pileSize, ml_opened, ml_openedAt, ml_begun, ml_cells, ml_keptCells, ml_name, ml_isLeft, ml_isDone, ml_keptLeft, ml_keptDone, ml_state, ml_keptState, ml_newOf, ml_oldOf, ml_spare, ml_spareDone, ml_out, ml_metFrom, ml_metBy, ml_far, ml_low, ml_lows, ml_lowSize, ml_triedRow, ml_triedColumn, ml_triedValue, ml_triedRows, ml_sheet, mo_O w]
    rw [if_pos hwh]
    obtain ⟨a1, a2, a3, a4⟩ := Po_at (goodH_Po (h := h))
    refine ⟨w, fun _ => ⟨w, w, L, Q, (a4 L Q).mpr hX, ?_, hwh.2, fun h1 f1 f2 => ?_⟩, fun z => absurd z (by decide)⟩
    · have : FU L (atM (goodH h)) := by rw [a1]; exact hFU
      exact this
    · have f1' : FrP PQ (goodH h) h1 := f1
      have f2' : repF h1 (bsA L (atM (goodH h))) (msA L (atM (goodH h))) := f2
      rw [a1, ← bsA_ms, ← hst] at f2'
      have fld : ∀ j, j ≠ 42 → gI h1 pMo j = gI (goodH h) pMo j := fun j hj => f1'.1 pMo j (by unfold PQ; simp (decide := true) [hj])
      refine ⟨0, rfl, by omega, FrP_trans (FrP_mono (fun b j z => Or.inr z) goodH_Po) (FrP_mono (fun b j z => Or.inl z) f1'), ?_, f2'⟩
      unfold gdH
      rw [fld 1 (by decide), fld 2 (by decide), fld 4 (by decide)]
      unfold goodH
      simp (decide := true) only [gI_sI, if_false, if_true, and_false, and_self]
