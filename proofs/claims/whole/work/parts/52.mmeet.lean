/-! THE MODEL'S meet -/
def Pm (b : Nat) (_ : Int) : Prop := b = pMo_newOf ∨ b = pMo_oldOf
theorem rowB_le {E : Int → Int → Int} {r : Int} {st : BS} {c n : Nat} (h : c ≤ n) : (rowB E r c st).1.length ≤ (rowB E r n st).1.length := by
  induction n with
  | zero => rw [Nat.le_zero.mp h]; exact Nat.le_refl _
  | succ n ih =>
    by_cases e : c = n + 1
    · rw [e]; exact Nat.le_refl _
    · have := ih (by omega)
      obtain ⟨m, h1, -⟩ := colB_pre (E := E) (r := r) (c := n) (st := rowB E r n st)
      show _ ≤ (colB E r n (rowB E r n st)).1.length
      rw [h1, List.length_append]
      omega
/-- the arrays hold the rows that were met -/
def repB (h : PH) (rows : Int) (ms : List Int) : Prop := (∀ i : Nat, i < ms.length → gI h pMo_oldOf i = wf ms i) ∧ ∀ s, 0 ≤ s → s < rows → gI h pMo_newOf s = if s ∈ ms then (ixF ms s : Int) else -1
def Ct_Mo_meet : CtT := fun av h post => match av with
  | [.inr (.inl (some t)), .inr (.inl (some b)), .inl rows, .inl f] => t = pMo ∧ MW h ∧ isAr h b 0 ∧ (b ≠ pMo_newOf ∧ b ≠ pMo_oldOf) ∧ ∃ (L : Nat) (P : Int → Prop) (E : Int → Int → Int), gI h pMo 42 = L ∧ L ≤ 10 ∧ 0 ≤ rows ∧ rows ≤ 2000 ∧ P f ∧ (∀ r, P r → 0 ≤ r ∧ r < rows ∧ 10 * r + 10 ≤ lnA b ∧ ∀ c : Nat, c < L → E r c = gI h b (10 * r + c) ∧ P (E r c)) ∧ (∀ k, (allB E L f k).1.length ≤ 300) ∧
      ∀ h', FrP Pm h h' → repB h' rows (bfA E L f).1 → post (some (.inl (bfA E L f).1.length)) h'
  | _ => False
def B_Mo_meet_126 : TT := (tt_il 4 tt_ir)
theorem S_Mo_meet_126 (lc lz : Nat) : Snd md_Mo_meet lc lz 126 (B_Mo_meet_126) := (snd_il (dget dd_Mo_meet 68 rfl) (snd_ir (dget dd_Mo_meet 69 rfl) rfl))
def B_Mo_meet_120 : TT := (tt_inc 5 1 (tt_cut 43))
theorem S_Mo_meet_120 (lc lz : Nat) : Snd md_Mo_meet lc lz 120 (B_Mo_meet_120) := (snd_inc (dget dd_Mo_meet 66 rfl) (snd_goto (tg := 43) (dget dd_Mo_meet 67 rfl) rfl snd_cut))
def B_Mo_meet_114 : TT := (tt_inc 6 1 (tt_cut 53))
theorem S_Mo_meet_114 (lc lz : Nat) : Snd md_Mo_meet lc lz 114 (B_Mo_meet_114) := (snd_inc (dget dd_Mo_meet 64 rfl) (snd_goto (tg := 53) (dget dd_Mo_meet 65 rfl) rfl snd_cut))
def B_Mo_meet_93 : TT := (tt_al 0 (tt_gR 9 40 (tt_il 7 (tt_il 4 (tt_iS (tt_al 0 (tt_gR 9 41 (tt_il 4 (tt_il 7 (tt_iS (tt_inc 4 1 (B_Mo_meet_114))))))))))))
theorem S_Mo_meet_93 (lc lz : Nat) : Snd md_Mo_meet lc lz 93 (B_Mo_meet_93) := (snd_al_n (n := 0) (dget dd_Mo_meet 53 rfl) rfl (snd_gR (kn := 40) fd_Mo_82 rfl (dget dd_Mo_meet 54 rfl) (snd_il (dget dd_Mo_meet 55 rfl) (snd_il (dget dd_Mo_meet 56 rfl) (snd_iS (dget dd_Mo_meet 57 rfl) (snd_al_n (n := 0) (dget dd_Mo_meet 58 rfl) rfl (snd_gR (kn := 41) fd_Mo_85 rfl (dget dd_Mo_meet 59 rfl) (snd_il (dget dd_Mo_meet 60 rfl) (snd_il (dget dd_Mo_meet 61 rfl) (snd_iS (dget dd_Mo_meet 62 rfl) (snd_inc (dget dd_Mo_meet 63 rfl) (S_Mo_meet_114 lc lz))))))))))))
def B_Mo_meet_53 : TT := (tt_il 6 (tt_al 0 (tt_gI 9 42 (tt_cge (B_Mo_meet_120) (tt_al 1 (tt_ci 10 (tt_al 0 (tt_gR 9 41 (tt_il 5 (tt_ia (tt_mul (tt_il 6 (tt_add (tt_ia (tt_is 7 (tt_al 0 (tt_gR 9 40 (tt_il 7 (tt_ia (tt_ci (-1) (tt_ceq (B_Mo_meet_93) (B_Mo_meet_114))))))))))))))))))))))
theorem S_Mo_meet_53 (lc lz : Nat) : Snd md_Mo_meet lc lz 53 (B_Mo_meet_53) := (snd_il (dget dd_Mo_meet 31 rfl) (snd_al_n (n := 0) (dget dd_Mo_meet 32 rfl) rfl (snd_gI (kn := 42) fd_Mo_313 rfl (dget dd_Mo_meet 33 rfl) (snd_cge (tg := 120) (dget dd_Mo_meet 34 rfl) rfl (S_Mo_meet_120 lc lz) (snd_al_n (n := 1) (dget dd_Mo_meet 35 rfl) rfl (snd_bipush (n := 10) (dget dd_Mo_meet 36 rfl) (inR_d rfl) (by decide) (snd_al_n (n := 0) (dget dd_Mo_meet 37 rfl) rfl (snd_gR (kn := 41) fd_Mo_85 rfl (dget dd_Mo_meet 38 rfl) (snd_il (dget dd_Mo_meet 39 rfl) (snd_ia (dget dd_Mo_meet 40 rfl) (snd_mul (dget dd_Mo_meet 41 rfl) (snd_il (dget dd_Mo_meet 42 rfl) (snd_add (dget dd_Mo_meet 43 rfl) (snd_ia (dget dd_Mo_meet 44 rfl) (snd_is (dget dd_Mo_meet 45 rfl) (snd_al_n (n := 0) (dget dd_Mo_meet 46 rfl) rfl (snd_gR (kn := 40) fd_Mo_82 rfl (dget dd_Mo_meet 47 rfl) (snd_il (dget dd_Mo_meet 48 rfl) (snd_ia (dget dd_Mo_meet 49 rfl) (snd_iconst (n := -1) (dget dd_Mo_meet 50 rfl) (inR_d rfl) rfl (snd_ceq (tg := 93) (dget dd_Mo_meet 51 rfl) rfl (S_Mo_meet_93 lc lz) (snd_goto (tg := 114) (dget dd_Mo_meet 52 rfl) rfl (S_Mo_meet_114 lc lz)))))))))))))))))))))))
def B_Mo_meet_43 : TT := (tt_il 5 (tt_il 4 (tt_cge (B_Mo_meet_126) (tt_ci 0 (tt_is 6 (tt_cut 53))))))
theorem S_Mo_meet_43 (lc lz : Nat) : Snd md_Mo_meet lc lz 43 (B_Mo_meet_43) := (snd_il (dget dd_Mo_meet 26 rfl) (snd_il (dget dd_Mo_meet 27 rfl) (snd_cge (tg := 126) (dget dd_Mo_meet 28 rfl) rfl (S_Mo_meet_126 lc lz) (snd_iconst (n := 0) (dget dd_Mo_meet 29 rfl) (inR_d rfl) rfl (snd_is (dget dd_Mo_meet 30 rfl) snd_cut)))))
def B_Mo_meet_23 : TT := (tt_al 0 (tt_gR 9 40 (tt_il 3 (tt_ci 0 (tt_iS (tt_al 0 (tt_gR 9 41 (tt_ci 0 (tt_il 3 (tt_iS (tt_ci 1 (tt_is 4 (tt_ci 0 (tt_is 5 (tt_cut 43)))))))))))))))
theorem S_Mo_meet_23 (lc lz : Nat) : Snd md_Mo_meet lc lz 23 (B_Mo_meet_23) := (snd_al_n (n := 0) (dget dd_Mo_meet 12 rfl) rfl (snd_gR (kn := 40) fd_Mo_82 rfl (dget dd_Mo_meet 13 rfl) (snd_il_n (n := 3) (dget dd_Mo_meet 14 rfl) rfl (snd_iconst (n := 0) (dget dd_Mo_meet 15 rfl) (inR_d rfl) rfl (snd_iS (dget dd_Mo_meet 16 rfl) (snd_al_n (n := 0) (dget dd_Mo_meet 17 rfl) rfl (snd_gR (kn := 41) fd_Mo_85 rfl (dget dd_Mo_meet 18 rfl) (snd_iconst (n := 0) (dget dd_Mo_meet 19 rfl) (inR_d rfl) rfl (snd_il_n (n := 3) (dget dd_Mo_meet 20 rfl) rfl (snd_iS (dget dd_Mo_meet 21 rfl) (snd_iconst (n := 1) (dget dd_Mo_meet 22 rfl) (inR_d rfl) rfl (snd_is (dget dd_Mo_meet 23 rfl) (snd_iconst (n := 0) (dget dd_Mo_meet 24 rfl) (inR_d rfl) rfl (snd_is (dget dd_Mo_meet 25 rfl) snd_cut))))))))))))))
def B_Mo_meet_3 : TT := (tt_il 4 (tt_il 2 (tt_cge (B_Mo_meet_23) (tt_al 0 (tt_gR 9 40 (tt_il 4 (tt_ci (-1) (tt_iS (tt_inc 4 1 (tt_cut 3))))))))))
theorem S_Mo_meet_3 (lc lz : Nat) : Snd md_Mo_meet lc lz 3 (B_Mo_meet_3) := (snd_il (dget dd_Mo_meet 2 rfl) (snd_il_n (n := 2) (dget dd_Mo_meet 3 rfl) rfl (snd_cge (tg := 23) (dget dd_Mo_meet 4 rfl) rfl (S_Mo_meet_23 lc lz) (snd_al_n (n := 0) (dget dd_Mo_meet 5 rfl) rfl (snd_gR (kn := 40) fd_Mo_82 rfl (dget dd_Mo_meet 6 rfl) (snd_il (dget dd_Mo_meet 7 rfl) (snd_iconst (n := -1) (dget dd_Mo_meet 8 rfl) (inR_d rfl) rfl (snd_iS (dget dd_Mo_meet 9 rfl) (snd_inc (dget dd_Mo_meet 10 rfl) (snd_goto (tg := 3) (dget dd_Mo_meet 11 rfl) rfl snd_cut))))))))))
def B_Mo_meet_0 : TT := (tt_ci 0 (tt_is 4 (tt_cut 3)))
theorem S_Mo_meet_0 (lc lz : Nat) : Snd md_Mo_meet lc lz 0 (B_Mo_meet_0) := (snd_iconst (n := 0) (dget dd_Mo_meet 0 rfl) (inR_d rfl) rfl (snd_is (dget dd_Mo_meet 1 rfl) snd_cut))
def muM (pc : Nat) (ls : LSt) (_ : PH) : Nat := if pc = 3 then 100000 + (2000 - locI ls 4).toNat else if pc = 43 then (6015 - 20 * locI ls 5).toNat else (6010 - 20 * locI ls 5 - locI ls 6).toNat
theorem muM_3 {ls : LSt} {h' : PH} : muM 3 ls h' = 100000 + (2000 - locI ls 4).toNat := by unfold muM; rw [if_pos rfl]
theorem muM_43 {ls : LSt} {h' : PH} : muM 43 ls h' = (6015 - 20 * locI ls 5).toNat := by unfold muM; rw [if_neg (by decide), if_pos rfl]
theorem muM_53 {ls : LSt} {h' : PH} : muM 53 ls h' = (6010 - 20 * locI ls 5 - locI ls 6).toNat := by unfold muM; rw [if_neg (by decide), if_neg (by decide)]
theorem arM1 {k c : Int} (h0 : 0 ≤ k) (h1 : k ≤ 299) (h2 : 0 ≤ c) (h3 : c ≤ 10) : (6015 - 20 * (k + 1)).toNat < (6010 - 20 * k - c).toNat := by omega
theorem met_Mo_meet : MetP y_Mo_meet md_Mo_meet (fun _ => 0) (fun _ => 0) Ct_Mo_meet := by
  refine metL3 (body := B_Mo_meet_0) (B1 := B_Mo_meet_3) (B2 := B_Mo_meet_43) (B3 := B_Mo_meet_53) (by decide) rfl rfl (fun lc lz => S_Mo_meet_0 lc lz) (fun lc lz => S_Mo_meet_3 lc lz) (fun lc lz => S_Mo_meet_43 lc lz) (fun lc lz => S_Mo_meet_53 lc lz) (by decide) ?_
  intro av h post hc hH hav
  unfold Ct_Mo_meet at hc
  split at hc
  rotate_left
  · exact hc.elim
  rename_i t b rows f
  obtain ⟨rfl, w, hb, hbn, L, P, E, h42, hL, rw0, rw1, hPf, hP, hlen, hp⟩ := hc
  refine ⟨Nat.le_of_ble_eq_true rfl, ?_⟩
  obtain ⟨mu, hmu⟩ : ∃ mu, mu = muM := ⟨_, rfl⟩
  have hin : ∀ k x, x ∈ (allB E L f k).1 → P x := fun k => allB_in hPf (fun r hr c hc => ((hP r hr).2.2.2 c hc).2)
  refine ⟨fun ls h' => ∃ (r : Int) (x5 x6 x7 : Option PV), ls = [some (.inr (.inl (some pMo))), some (.inr (.inl (some b))), some (.inl rows), some (.inl f), some (.inl r), x5, x6, x7] ∧ 0 ≤ r ∧ r ≤ rows ∧ FrP Pm h h' ∧ (∀ s, 0 ≤ s → s < r → gI h' pMo_newOf s = -1),
    fun ls h' => ∃ (k : Nat) (x6 x7 : Option PV), ls = [some (.inr (.inl (some pMo))), some (.inr (.inl (some b))), some (.inl rows), some (.inl f), some (.inl (allB E L f k).1.length), some (.inl k), x6, x7] ∧ k ≤ (allB E L f k).1.length ∧ FrP Pm h h' ∧ repB h' rows (allB E L f k).1,
    fun ls h' => ∃ (k c : Nat) (x7 : Option PV), ls = [some (.inr (.inl (some pMo))), some (.inr (.inl (some b))), some (.inl rows), some (.inl f), some (.inl (rowB E (wf (allB E L f k).1 k) c (allB E L f k)).1.length), some (.inl k), some (.inl c), x7] ∧ k < (allB E L f k).1.length ∧ c ≤ L ∧ FrP Pm h h' ∧ repB h' rows (rowB E (wf (allB E L f k).1 k) c (allB E L f k)).1, mu, ?_, ?_, ?_, ?_⟩
  · rintro ls h' ⟨r, x5, x6, x7, rfl, r0, r1, hF, hn⟩
    have w1 := FrP_MW hF w
    simp (decide := true) only [B_Mo_meet_0, B_Mo_meet_3, B_Mo_meet_23, B_Mo_meet_43, B_Mo_meet_53, B_Mo_meet_93, B_Mo_meet_114, B_Mo_meet_120, B_Mo_meet_126, tt_ci, tt_cl, tt_nul, tt_il, tt_al, tt_ll, tt_is, tt_as, tt_ls, tt_inc, tt_add, tt_sub, tt_mul, tt_div, tt_rem, tt_ladd, tt_lmul, tt_ldiv, tt_lrem, tt_zeq, tt_zne, tt_zlt, tt_zge, tt_zgt, tt_zle, tt_ceq, tt_cne, tt_clt, tt_cge, tt_cgt, tt_cle, tt_nn, tt_cut, tt_pop, tt_dup, tt_dup2, tt_gI, tt_gR, tt_pI, tt_pZ, tt_pR, tt_ia, tt_ba, tt_za, tt_iS, tt_bS, tt_zS, tt_aa, tt_aS, tt_len, tt_and, tt_xor, tt_shr, tt_ushr, tt_lcmp, tt_i2b, tt_i2l, tt_l2i, tt_sw, swG, tt_ir, tt_zr, tt_br, tt_lr, tt_ar, tt_vr, tt_cV, tt_cS, tt_min, tt_max, tt_acp, pI, pII, pO, pA, pIA, pIIA, pOA, pOIA, pL, pLL, pLIA, pV, pCP, lI, lO, lL, nth, stL, clL, entA, fitL, rcv, List.take_succ_cons, List.take_zero, List.drop_succ_cons, List.drop_zero, List.reverse_cons, List.reverse_nil, List.nil_append, List.cons_append, List.length_cons, List.length_nil, Option.toList_some, Option.toList_none, gI_sI, gI_sA, gR_sI, gR_sA, gI_sR, gR_sR, hN_sI, hN_sA, hN_sR, isO_sI, isO_sA, isO_sR, isAr_sI, isAr_sA, isAr_sR, hC_sI, hC_sA, hC_sR, hZ_sI, hZ_sA, hZ_sR, MW_sI, MW_sA, true_and, and_true, true_or, or_true, and_self, forall_const, imp_self, implies_true, if_true, if_false, false_and, and_false, false_or, or_false, not_false_eq_true, not_true_eq_false, sI_sI, mr_tape w1, mr_text w1, mr_words w1, mr_wordSize w1, mr_subs w1, mr_subSize w1, mr_asked w1, mr_pile w1, mr_pileSize w1, mr_opened w1, mr_openedAt w1, mr_begun w1, mr_cells w1, mr_keptCells w1, mr_name w1, mr_isLeft w1, mr_isDone w1, mr_keptLeft w1, mr_keptDone w1, mr_state w1, mr_keptState w1, mr_newOf w1, mr_oldOf w1, mr_spare w1, mr_spareDone w1, mr_out w1, mr_metFrom w1, mr_metBy w1, mr_far w1, mr_low w1, mr_lows w1, mr_lowSize w1, mr_triedRow w1, mr_triedColumn w1, mr_triedValue w1, mr_triedRows w1, mr_sheet w1, ma_tape w1, ma_text w1, ma_words w1, ma_wordSize w1, ma_subs w1, ma_subSize w1, ma_asked w1, ma_pile w1, ma_pileSize w1, ma_opened w1, ma_openedAt w1, ma_begun w1, ma_cells w1, ma_keptCells w1, ma_name w1, ma_isLeft w1, ma_isDone w1, ma_keptLeft w1, ma_keptDone w1, ma_state w1, ma_keptState w1, ma_newOf w1, ma_oldOf w1, ma_spare w1, ma_spareDone w1, ma_out w1, ma_metFrom w1, ma_metBy w1, ma_far w1, ma_low w1, ma_lows w1, ma_lowSize w1, ma_triedRow w1, ma_triedColumn w1, ma_triedValue w1, ma_triedRows w1, ma_sheet w1, ml_tape, ml_text, ml_words, ml_wordSize, ml_subs, ml_subSize, ml_asked, ml_pile, ml_pileSize, ml_opened, ml_openedAt, ml_begun, ml_cells, ml_keptCells, ml_name, ml_isLeft, ml_isDone, ml_keptLeft, ml_keptDone, ml_state, ml_keptState, ml_newOf, ml_oldOf, ml_spare, ml_spareDone, ml_out, ml_metFrom, ml_metBy, ml_far, ml_low, ml_lows, ml_lowSize, ml_triedRow, ml_triedColumn, ml_triedValue, ml_triedRows, ml_sheet, mo_O w1]
    have hf := hP f hPf
    refine ⟨fun q => ⟨hf.1, by omega, ⟨0, x6, x7, rfl, by omega, FrP_sI (Or.inr rfl) (FrP_sI (Or.inl rfl) hF), ?_, ?_⟩, ?_⟩, fun q => ⟨by omega, by omega, ⟨by omega, by omega⟩, ⟨r + 1, x5, x6, x7, rfl, by omega, by omega, FrP_sI (Or.inl rfl) hF, fun s s0 s1 => ?_⟩, ?_⟩⟩
    · intro i hi
      have : i = 0 := by simp [allB] at hi; omega
      subst this
      simp (decide := true) only [gI_sI, if_true]
      rfl
    · intro s s0 s1
      rw [gI_sI, if_neg (fun z => absurd z.1 (by decide)), gI_sI]
      show _ = if s ∈ [f] then (ixF [f] s : Int) else -1
      by_cases e : s = f
      · rw [if_pos ⟨rfl, e⟩, if_pos (by simp [e]), e]
        show (0 : Int) = ((if f = f then 0 else _ : Nat) : Int)
        rw [if_pos rfl]
        rfl
      · rw [if_neg (fun z => e z.2), if_neg (by simp [e])]
        exact hn s s0 (by omega)
    · rw [hmu, muM_43, muM_3]
      simp only [locI, nth]
      omega
    · split
      · rfl
      · exact hn s s0 (by omega)
    · rw [hmu, muM_3, muM_3]
      simp only [locI, nth]
      omega
  · rintro ls h' ⟨k, x6, x7, rfl, hk, hF, hR⟩
    have w1 := FrP_MW hF w
    have hl := hlen k
    simp (decide := true) only [B_Mo_meet_0, B_Mo_meet_3, B_Mo_meet_23, B_Mo_meet_43, B_Mo_meet_53, B_Mo_meet_93, B_Mo_meet_114, B_Mo_meet_120, B_Mo_meet_126, tt_ci, tt_cl, tt_nul, tt_il, tt_al, tt_ll, tt_is, tt_as, tt_ls, tt_inc, tt_add, tt_sub, tt_mul, tt_div, tt_rem, tt_ladd, tt_lmul, tt_ldiv, tt_lrem, tt_zeq, tt_zne, tt_zlt, tt_zge, tt_zgt, tt_zle, tt_ceq, tt_cne, tt_clt, tt_cge, tt_cgt, tt_cle, tt_nn, tt_cut, tt_pop, tt_dup, tt_dup2, tt_gI, tt_gR, tt_pI, tt_pZ, tt_pR, tt_ia, tt_ba, tt_za, tt_iS, tt_bS, tt_zS, tt_aa, tt_aS, tt_len, tt_and, tt_xor, tt_shr, tt_ushr, tt_lcmp, tt_i2b, tt_i2l, tt_l2i, tt_sw, swG, tt_ir, tt_zr, tt_br, tt_lr, tt_ar, tt_vr, tt_cV, tt_cS, tt_min, tt_max, tt_acp, pI, pII, pO, pA, pIA, pIIA, pOA, pOIA, pL, pLL, pLIA, pV, pCP, lI, lO, lL, nth, stL, clL, entA, fitL, rcv, List.take_succ_cons, List.take_zero, List.drop_succ_cons, List.drop_zero, List.reverse_cons, List.reverse_nil, List.nil_append, List.cons_append, List.length_cons, List.length_nil, Option.toList_some, Option.toList_none, gI_sI, gI_sA, gR_sI, gR_sA, gI_sR, gR_sR, hN_sI, hN_sA, hN_sR, isO_sI, isO_sA, isO_sR, isAr_sI, isAr_sA, isAr_sR, hC_sI, hC_sA, hC_sR, hZ_sI, hZ_sA, hZ_sR, MW_sI, MW_sA, true_and, and_true, true_or, or_true, and_self, forall_const, imp_self, implies_true, if_true, if_false, false_and, and_false, false_or, or_false, not_false_eq_true, not_true_eq_false, sI_sI, mr_tape w1, mr_text w1, mr_words w1, mr_wordSize w1, mr_subs w1, mr_subSize w1, mr_asked w1, mr_pile w1, mr_pileSize w1, mr_opened w1, mr_openedAt w1, mr_begun w1, mr_cells w1, mr_keptCells w1, mr_name w1, mr_isLeft w1, mr_isDone w1, mr_keptLeft w1, mr_keptDone w1, mr_state w1, mr_keptState w1, mr_newOf w1, mr_oldOf w1, mr_spare w1, mr_spareDone w1, mr_out w1, mr_metFrom w1, mr_metBy w1, mr_far w1, mr_low w1, mr_lows w1, mr_lowSize w1, mr_triedRow w1, mr_triedColumn w1, mr_triedValue w1, mr_triedRows w1, mr_sheet w1, ma_tape w1, ma_text w1, ma_words w1, ma_wordSize w1, ma_subs w1, ma_subSize w1, ma_asked w1, ma_pile w1, ma_pileSize w1, ma_opened w1, ma_openedAt w1, ma_begun w1, ma_cells w1, ma_keptCells w1, ma_name w1, ma_isLeft w1, ma_isDone w1, ma_keptLeft w1, ma_keptDone w1, ma_state w1, ma_keptState w1, ma_newOf w1, ma_oldOf w1, ma_spare w1, ma_spareDone w1, ma_out w1, ma_metFrom w1, ma_metBy w1, ma_far w1, ma_low w1, ma_lows w1, ma_lowSize w1, ma_triedRow w1, ma_triedColumn w1, ma_triedValue w1, ma_triedRows w1, ma_sheet w1, ml_tape, ml_text, ml_words, ml_wordSize, ml_subs, ml_subSize, ml_asked, ml_pile, ml_pileSize, ml_opened, ml_openedAt, ml_begun, ml_cells, ml_keptCells, ml_name, ml_isLeft, ml_isDone, ml_keptLeft, ml_keptDone, ml_state, ml_keptState, ml_newOf, ml_oldOf, ml_spare, ml_spareDone, ml_out, ml_metFrom, ml_metBy, ml_far, ml_low, ml_lows, ml_lowSize, ml_triedRow, ml_triedColumn, ml_triedValue, ml_triedRows, ml_sheet, mo_O w1]
    refine ⟨fun q => ?_, fun q => ⟨⟨k, 0, x7, rfl, by omega, by omega, hF, hR⟩, ?_⟩⟩
    · have e : bfA E L f = allB E L f k := bfA_eq (by omega) (by omega)
      rw [← e] at hR ⊢
      exact ⟨hp h' hF hR, hF.2.2.2.1, hF.2.2.2.2⟩
    · rw [hmu, muM_53, muM_43]
      simp only [locI, nth]
      omega
  · rintro ls h' ⟨k, c, x7, rfl, hk, hc, hF, hR⟩
    have w1 := FrP_MW hF w
    have hb1 := FrP_isAr hF hb
    have eb : gI h' b = gI h b := FrP_arr hF (fun j z => z.elim hbn.1 hbn.2)
    have e42 : gI h' pMo 42 = L := by rw [hF.1 pMo 42 (fun z => by unfold Pm at z; simp (decide := true) only [or_self] at z)]; exact h42
    have e1 : allB E L f (k + 1) = rowB E (wf (allB E L f k).1 k) L (allB E L f k) := if_pos hk
    have l1 := hlen (k + 1)
    have l0 := hlen k
    obtain ⟨r, hr⟩ : ∃ r, r = wf (allB E L f k).1 k := ⟨_, rfl⟩
    have hPr : P r := by rw [hr]; exact hin k _ (wf_mem hk)
    have hPr' := hP r hPr
    rw [← hr] at e1 hR ⊢
    have lc := rowB_le (E := E) (r := r) (st := allB E L f k) hc
    rw [e1] at l1
    obtain ⟨m, hm, -⟩ := rowB_pre (E := E) (r := r) (n := c) (st := allB E L f k)
    have hold : gI h' pMo_oldOf k = r := by
      rw [hR.1 k (by rw [hm, List.length_append]; omega), hm, wf_app hk, hr]
    simp (decide := true) only [B_Mo_meet_0, B_Mo_meet_3, B_Mo_meet_23, B_Mo_meet_43, B_Mo_meet_53, B_Mo_meet_93, B_Mo_meet_114, B_Mo_meet_120, B_Mo_meet_126, tt_ci, tt_cl, tt_nul, tt_il, tt_al, tt_ll, tt_is, tt_as, tt_ls, tt_inc, tt_add, tt_sub, tt_mul, tt_div, tt_rem, tt_ladd, tt_lmul, tt_ldiv, tt_lrem, tt_zeq, tt_zne, tt_zlt, tt_zge, tt_zgt, tt_zle, tt_ceq, tt_cne, tt_clt, tt_cge, tt_cgt, tt_cle, tt_nn, tt_cut, tt_pop, tt_dup, tt_dup2, tt_gI, tt_gR, tt_pI, tt_pZ, tt_pR, tt_ia, tt_ba, tt_za, tt_iS, tt_bS, tt_zS, tt_aa, tt_aS, tt_len, tt_and, tt_xor, tt_shr, tt_ushr, tt_lcmp, tt_i2b, tt_i2l, tt_l2i, tt_sw, swG, tt_ir, tt_zr, tt_br, tt_lr, tt_ar, tt_vr, tt_cV, tt_cS, tt_min, tt_max, tt_acp, pI, pII, pO, pA, pIA, pIIA, pOA, pOIA, pL, pLL, pLIA, pV, pCP, lI, lO, lL, nth, stL, clL, entA, fitL, rcv, List.take_succ_cons, List.take_zero, List.drop_succ_cons, List.drop_zero, List.reverse_cons, List.reverse_nil, List.nil_append, List.cons_append, List.length_cons, List.length_nil, Option.toList_some, Option.toList_none, gI_sI, gI_sA, gR_sI, gR_sA, gI_sR, gR_sR, hN_sI, hN_sA, hN_sR, isO_sI, isO_sA, isO_sR, isAr_sI, isAr_sA, isAr_sR, hC_sI, hC_sA, hC_sR, hZ_sI, hZ_sA, hZ_sR, MW_sI, MW_sA, true_and, and_true, true_or, or_true, and_self, forall_const, imp_self, implies_true, if_true, if_false, false_and, and_false, false_or, or_false, not_false_eq_true, not_true_eq_false, sI_sI, mr_tape w1, mr_text w1, mr_words w1, mr_wordSize w1, mr_subs w1, mr_subSize w1, mr_asked w1, mr_pile w1, mr_pileSize w1, mr_opened w1, mr_openedAt w1, mr_begun w1, mr_cells w1, mr_keptCells w1, mr_name w1, mr_isLeft w1, mr_isDone w1, mr_keptLeft w1, mr_keptDone w1, mr_state w1, mr_keptState w1, mr_newOf w1, mr_oldOf w1, mr_spare w1, mr_spareDone w1, mr_out w1, mr_metFrom w1, mr_metBy w1, mr_far w1, mr_low w1, mr_lows w1, mr_lowSize w1, mr_triedRow w1, mr_triedColumn w1, mr_triedValue w1, mr_triedRows w1, mr_sheet w1, ma_tape w1, ma_text w1, ma_words w1, ma_wordSize w1, ma_subs w1, ma_subSize w1, ma_asked w1, ma_pile w1, ma_pileSize w1, ma_opened w1, ma_openedAt w1, ma_begun w1, ma_cells w1, ma_keptCells w1, ma_name w1, ma_isLeft w1, ma_isDone w1, ma_keptLeft w1, ma_keptDone w1, ma_state w1, ma_keptState w1, ma_newOf w1, ma_oldOf w1, ma_spare w1, ma_spareDone w1, ma_out w1, ma_metFrom w1, ma_metBy w1, ma_far w1, ma_low w1, ma_lows w1, ma_lowSize w1, ma_triedRow w1, ma_triedColumn w1, ma_triedValue w1, ma_triedRows w1, ma_sheet w1, ml_tape, ml_text, ml_words, ml_wordSize, ml_subs, ml_subSize, ml_asked, ml_pile, ml_pileSize, ml_opened, ml_openedAt, ml_begun, ml_cells, ml_keptCells, ml_name, ml_isLeft, ml_isDone, ml_keptLeft, ml_keptDone, ml_state, ml_keptState, ml_newOf, ml_oldOf, ml_spare, ml_spareDone, ml_out, ml_metFrom, ml_metBy, ml_far, ml_low, ml_lows, ml_lowSize, ml_triedRow, ml_triedColumn, ml_triedValue, ml_triedRows, ml_sheet, mo_O w1, hb1, eb, e42, hold]
    refine ⟨fun q => ?_, fun q => ?_⟩
    · have ec : c = L := by omega
      subst ec
      rw [← e1] at hR ⊢
      refine ⟨⟨by omega, by omega⟩, ⟨k + 1, _, _, by push_cast; rfl, ?_, hF, hR⟩, ?_⟩
      · obtain ⟨m', hm'⟩ := allB_pre (E := E) (L := c) (f := f) (k := k)
        rw [hm', List.length_append]
        omega
      · rw [hmu, muM_43, muM_53]
        simp only [locI, nth]
        exact arM1 (by omega) (by omega) (by omega) (by omega)
    · have hcl : c < L := by omega
      have hE := hPr'.2.2.2 c hcl
      have hPs := hP _ hE.2
      rw [← hE.1]
      have e2 : rowB E r (c + 1) (allB E L f k) = colB E r c (rowB E r c (allB E L f k)) := rfl
      have lc1 := rowB_le (E := E) (r := r) (st := allB E L f k) (c := c + 1) (n := L) (by omega)
      obtain ⟨st, hst⟩ : ∃ st, st = rowB E r c (allB E L f k) := ⟨_, rfl⟩
      rw [← hst] at e2 hR lc ⊢
      have new := hR.2 (E r c) hPs.1 hPs.2.1
      refine ⟨by omega, by omega, ⟨by omega, by omega⟩, ⟨by omega, by omega⟩, by omega, by omega, hPs.1, by omega, fun q2 => ?_, fun q2 => ?_⟩
      · have nm : E r c ∉ st.1 := by
          intro z
          rw [if_pos z] at new
          omega
        have e3 : colB E r c st = (st.1 ++ [E r c], upI st.2.1 (E r c) r, upI st.2.2.1 (E r c) c, upI st.2.2.2 (E r c) (st.2.2.2 r + 1)) := if_neg nm
        have e4 : (colB E r c st).1 = st.1 ++ [E r c] := by rw [e3]
        have l4 : (colB E r c st).1.length = st.1.length + 1 := by rw [e4, List.length_append]; rfl
        rw [e2, l4] at lc1
        refine ⟨hPs.1, by omega, by omega, by omega, ⟨by omega, by omega⟩, ⟨by omega, by omega⟩, ⟨k, c + 1, some (.inl (E r c)), ?_, hk, by omega, FrP_sI (Or.inr rfl) (FrP_sI (Or.inl rfl) hF), ?_, ?_⟩, ?_⟩
        · rw [← hr, e2, l4]; push_cast; rfl
        · rw [← hr, e2]
          intro i hi
          rw [l4] at hi
          rw [e4]
          by_cases e : i = st.1.length
          · rw [e, wf_last, gI_sI, if_pos ⟨rfl, rfl⟩]
          · rw [wf_app (by omega), gI_sI, if_neg (fun z => e (by have := z.2; omega)), gI_sI, if_neg (fun z => absurd z.1 (by decide))]
            exact hR.1 i (by omega)
        · rw [← hr, e2]
          intro s s0 s1
          rw [e4, gI_sI, if_neg (fun z => absurd z.1 (by decide)), gI_sI]
          by_cases e : s = E r c
          · rw [if_pos ⟨rfl, e⟩, if_pos (by rw [e]; simp), e, ixF_new nm]
          · rw [if_neg (fun z => e z.2), hR.2 s s0 s1]
            by_cases z : s ∈ st.1
            · rw [if_pos z, if_pos (List.mem_append_left _ z), ixF_app z]
            · rw [if_neg z, if_neg (by simp [z, e])]
        · rw [hmu, muM_53, muM_53]
          simp only [locI, nth]
          omega
      · have im : E r c ∈ st.1 := by
          apply Classical.byContradiction
          intro z
          rw [if_neg z] at new
          exact q2 new
        have e3 : colB E r c st = st := if_pos im
        refine ⟨⟨by omega, by omega⟩, ⟨k, c + 1, some (.inl (E r c)), ?_, hk, by omega, hF, ?_⟩, ?_⟩
        · rw [← hr, e2, e3]; push_cast; rfl
        · rw [← hr, e2, e3]; exact hR
        · rw [hmu, muM_53, muM_53]
          simp only [locI, nth]
          omega
  · simp (decide := true) only [B_Mo_meet_0, B_Mo_meet_3, B_Mo_meet_23, B_Mo_meet_43, B_Mo_meet_53, B_Mo_meet_93, B_Mo_meet_114, B_Mo_meet_120, B_Mo_meet_126, tt_ci, tt_cl, tt_nul, tt_il, tt_al, tt_ll, tt_is, tt_as, tt_ls, tt_inc, tt_add, tt_sub, tt_mul, tt_div, tt_rem, tt_ladd, tt_lmul, tt_ldiv, tt_lrem, tt_zeq, tt_zne, tt_zlt, tt_zge, tt_zgt, tt_zle, tt_ceq, tt_cne, tt_clt, tt_cge, tt_cgt, tt_cle, tt_nn, tt_cut, tt_pop, tt_dup, tt_dup2, tt_gI, tt_gR, tt_pI, tt_pZ, tt_pR, tt_ia, tt_ba, tt_za, tt_iS, tt_bS, tt_zS, tt_aa, tt_aS, tt_len, tt_and, tt_xor, tt_shr, tt_ushr, tt_lcmp, tt_i2b, tt_i2l, tt_l2i, tt_sw, swG, tt_ir, tt_zr, tt_br, tt_lr, tt_ar, tt_vr, tt_cV, tt_cS, tt_min, tt_max, tt_acp, pI, pII, pO, pA, pIA, pIIA, pOA, pOIA, pL, pLL, pLIA, pV, pCP, lI, lO, lL, nth, stL, clL, entA, fitL, rcv, List.take_succ_cons, List.take_zero, List.drop_succ_cons, List.drop_zero, List.reverse_cons, List.reverse_nil, List.nil_append, List.cons_append, List.length_cons, List.length_nil, Option.toList_some, Option.toList_none, gI_sI, gI_sA, gR_sI, gR_sA, gI_sR, gR_sR, hN_sI, hN_sA, hN_sR, isO_sI, isO_sA, isO_sR, isAr_sI, isAr_sA, isAr_sR, hC_sI, hC_sA, hC_sR, hZ_sI, hZ_sA, hZ_sR, MW_sI, MW_sA, true_and, and_true, true_or, or_true, and_self, forall_const, imp_self, implies_true, if_true, if_false, false_and, and_false, false_or, or_false, not_false_eq_true, not_true_eq_false, sI_sI, mr_tape w, mr_text w, mr_words w, mr_wordSize w, mr_subs w, mr_subSize w, mr_asked w, mr_pile w, mr_pileSize w, mr_opened w, mr_openedAt w, mr_begun w, mr_cells w, mr_keptCells w, mr_name w, mr_isLeft w, mr_isDone w, mr_keptLeft w, mr_keptDone w, mr_state w, mr_keptState w, mr_newOf w, mr_oldOf w, mr_spare w, mr_spareDone w, mr_out w, mr_metFrom w, mr_metBy w, mr_far w, mr_low w, mr_lows w, mr_lowSize w, mr_triedRow w, mr_triedColumn w, mr_triedValue w, mr_triedRows w, mr_sheet w, ma_tape w, ma_text w, ma_words w, ma_wordSize w, ma_subs w, ma_subSize w, ma_asked w, ma_pile w, ma_pileSize w, ma_opened w, ma_openedAt w, ma_begun w, ma_cells w, ma_keptCells w, ma_name w, ma_isLeft w, ma_isDone w, ma_keptLeft w, ma_keptDone w, ma_state w, ma_keptState w, ma_newOf w, ma_oldOf w, ma_spare w, ma_spareDone w, ma_out w, ma_metFrom w, ma_metBy w, ma_far w, ma_low w, ma_lows w, ma_lowSize w, ma_triedRow w, ma_triedColumn w, ma_triedValue w, ma_triedRows w, ma_sheet w, ml_tape, ml_text, ml_words, ml_wordSize, ml_subs, ml_subSize, ml_asked, ml_pile, ml_pileSize, ml_opened, ml_openedAt, ml_begun, ml_cells, ml_keptCells, ml_name, ml_isLeft, ml_isDone, ml_keptLeft, ml_keptDone, ml_state, ml_keptState, ml_newOf, ml_oldOf, ml_spare, ml_spareDone, ml_out, ml_metFrom, ml_metBy, ml_far, ml_low, ml_lows, ml_lowSize, ml_triedRow, ml_triedColumn, ml_triedValue, ml_triedRows, ml_sheet, mo_O w]
    exact ⟨0, _, _, _, rfl, by omega, rw0, FrP_refl _ h, fun s s0 s1 => by omega⟩
