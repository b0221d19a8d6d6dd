/-! BOTH CLASSES: what a call of the one leaves of the other; step, run, begin -/
def MEq (h h1 : PH) : Prop := ∀ b j, 115 ≤ b → b < 154 → gI h1 b j = gI h b j
theorem MEq_of {P : Nat → Int → Prop} {h h1 : PH} (f : FrQ P h h1) (hP : ∀ b j, P b j → b < 115 ∨ 154 ≤ b) : MEq h h1 := fun b j b0 b1 => f.1 b j (fun z => by have := hP b j z; omega)
theorem MEq_arr {h h1 : PH} (e : MEq h h1) (b : Nat) (b0 : 115 ≤ b) (b1 : b < 154) : gI h1 b = gI h b := funext fun j => e b j b0 b1
theorem atM_me {h h1 : PH} (e : MEq h h1) : atM h1 = atM h := by
  unfold atM
  rw [MEq_arr e pMo_state (by decide) (by decide), MEq_arr e pMo_isLeft (by decide) (by decide), MEq_arr e pMo_cells (by decide) (by decide), MEq_arr e pMo_isDone (by decide) (by decide), MEq_arr e pMo (by decide) (by decide)]
theorem wM_me {h h1 : PH} (e : MEq h h1) : wM h1 = wM h := by
  unfold wM
  rw [MEq_arr e pMo_words (by decide) (by decide), MEq_arr e pMo_wordSize (by decide) (by decide), MEq_arr e pMo (by decide) (by decide)]
theorem uM_me {h h1 : PH} (e : MEq h h1) : uM h1 = uM h := by
  unfold uM
  rw [MEq_arr e pMo_subs (by decide) (by decide), MEq_arr e pMo_subSize (by decide) (by decide), MEq_arr e pMo (by decide) (by decide)]
theorem akW_me {h h1 : PH} (e : MEq h h1) : akW h1 = akW h := by
  unfold akW
  rw [MEq_arr e pMo_asked (by decide) (by decide), MEq_arr e pMo (by decide) (by decide)]
theorem AK_me {h h1 : PH} {L : Int} (e : MEq h h1) (x : AK L h) : AK L h1 := by
  unfold AK at x ⊢
  rw [MEq_arr e pMo_asked (by decide) (by decide), MEq_arr e pMo (by decide) (by decide)]
  exact x
theorem MWd_me {h h1 : PH} {L : Int} (e : MEq h h1) (x : MWd L h) : MWd L h1 := by
  unfold MWd at x ⊢
  rw [MEq_arr e pMo_words (by decide) (by decide), MEq_arr e pMo_wordSize (by decide) (by decide), MEq_arr e pMo_subs (by decide) (by decide), MEq_arr e pMo_subSize (by decide) (by decide), MEq_arr e pMo (by decide) (by decide)]
  exact x
theorem TX_me {h h1 : PH} {L Q : Int} (e : MEq h h1) (x : TX L Q h) : TX L Q h1 := by
  obtain ⟨x1, x2, x3, x4, x5, x6⟩ := x
  exact ⟨by rw [MEq_arr e pMo (by decide) (by decide)]; exact x1, x2, by rw [atM_me e]; exact x3, x4, MWd_me e x5, BB_of (MEq_arr e pMo_isLeft (by decide) (by decide)) (MEq_arr e pMo_isDone (by decide) (by decide)) x6⟩
theorem me_sI {h h1 : PH} {b : Nat} {j v : Int} (e : MEq h h1) (hb : b < 115 ∨ 154 ≤ b) : MEq h (sI h1 b j v) := fun a i a0 a1 => by
  rw [gI_sI, if_neg (fun z => by omega)]; exact e a i a0 a1
theorem me_refl (h : PH) : MEq h h := fun _ _ _ _ => rfl
/-- the component's table, from a heap to another -/
theorem TaR_eq {h h' : PH} {L : Int} {a : AT} (e : ∀ b j, 87 ≤ b → b ≤ 93 → gI h' b j = gI h b j) (x : TaR h L a) : TaR h' L a := by
  have e1 : ∀ b, 87 ≤ b → b ≤ 93 → gI h' b = gI h b := fun b z1 z2 => funext fun j => e b j z1 z2
  unfold TaR at x ⊢
  rw [e1 pTa (by decide) (by decide), e1 pTa_cells (by decide) (by decide), e1 pTa_numbers (by decide) (by decide), e1 pTa_done (by decide) (by decide), e1 pTa_order (by decide) (by decide), e1 pTa_spare (by decide) (by decide), e1 pTa_parents (by decide) (by decide)]
  exact x
theorem S5_mk {k Q : Int} {h : PH} (hb : BB h) (h39 : gI h pMo 39 = 0 ∨ gI h pMo 39 = -1) (t : TaR h (LL h) (atM h)) (hW : WT (LL h) Q (atM h)) (q0 : 0 ≤ Q) (q1 : Q ≤ k) (fu : FU (LL h) (atM h)) (a5 : aS (atM h) 5 ≤ 2000 * k) (c1 : gI h pHo 10 ≠ 0) (c2 : gI h pMo 32 ≠ 0) : S5 k h := by
  refine ⟨hb, ⟨h39, ?_⟩, fun s s0 s1 => t.2.2.2.2 s s0 s1, t.1.2.2.2.2.2.2.2.2.2.1, ⟨fun z => absurd z c1, fun z => absurd z c2⟩, fun _ => ⟨t, fu, a5, Q, q0, q1, hW⟩⟩
  have := hW.2.2.2.2.1
  rw [aS_atM (by decide) (by decide)] at this
  omega
abbrev Ptb (b : Nat) (j : Int) : Prop := (87 ≤ b ∧ b ≤ 103) ∨ (b = 0 ∧ (j = 10 ∨ j = 17)) ∨ (b = 115 ∧ (j = 1 ∨ j = 2 ∨ j = 4 ∨ j = 32 ∨ (34 ≤ j ∧ j ≤ 42))) ∨ b = 128 ∨ (130 ≤ b ∧ b ≤ 132) ∨ b = 135 ∨ (137 ≤ b ∧ b ≤ 140) ∨ (142 ≤ b ∧ b ≤ 144)
theorem tab_fin {P : Nat → Int → Prop} {k : Int} {h h2 : PH} (s : SIM k h) (f : FrQ P h h2) (hP : ∀ b j, P b j → Ptb b j) (g1 : gI h2 pHo 17 = 0) (g2 : gI h2 pMo 1 = 0) (g3 : gI h2 pMo 2 = -1) (x5 : S5 (k + 1) h2) : SIM (k + 1) h2 := by
  have f' : FrQ Ptb h h2 := FrQ_mono hP f
  refine SIM_fr s f' (Or.inl (by intro b j; simp only [Su1, Su2, Su3, Su4, Su5, Su6, Su7, Su8, Su9, Ptb, pHo, pHo_tape, pWs, pWs_e, pWs_0, pWs_0_c, pSs, pSs_e, pSs_0, pSs_0_c, pAsk, pAsk_c, pRe, pRe_sums, pRe_firsts, pAtom, pAtom_c, pRaised, pRaised_c, pSum0, pSum0_c, pFirst0, pFirst0_c, pTa, pTa_cells, pTa_numbers, pTa_done, pTa_order, pTa_spare, pTa_parents, pTa_melting, pFi, pWa, pWa_queue, pWa_origins, pWa_vias, pWa_lengths, pWa_seen, pSingle, pSingle_c, pHo_told, pLo, pLo_cells, pLo_kept, pLo_keptRows, pLo_names, pLo_met, pSh, pSh_cells, pSh_seen, pSh_queue, pMo, pMo_tape, pMo_text, pMo_words, pMo_wordSize, pMo_subs, pMo_subSize, pMo_asked, pMo_pile, pMo_pileSize, pMo_opened, pMo_openedAt, pMo_begun, pMo_cells, pMo_keptCells, pMo_name, pMo_isLeft, pMo_isDone, pMo_keptLeft, pMo_keptDone, pMo_state, pMo_keptState, pMo_newOf, pMo_oldOf, pMo_spare, pMo_spareDone, pMo_out, pMo_metFrom, pMo_metBy, pMo_far, pMo_low, pMo_lows, pMo_lowSize, pMo_triedRow, pMo_triedColumn, pMo_triedValue, pMo_triedRows, pMo_sheet, pLong, pKt, pKt_cells, pKt_numbers, pKt_done, pKt_order, pKt_spare, pKt_parents, pKt_melting] <;> omega)) (Or.inl (by intro b j; simp only [Su1, Su2, Su3, Su4, Su5, Su6, Su7, Su8, Su9, Ptb, pHo, pHo_tape, pWs, pWs_e, pWs_0, pWs_0_c, pSs, pSs_e, pSs_0, pSs_0_c, pAsk, pAsk_c, pRe, pRe_sums, pRe_firsts, pAtom, pAtom_c, pRaised, pRaised_c, pSum0, pSum0_c, pFirst0, pFirst0_c, pTa, pTa_cells, pTa_numbers, pTa_done, pTa_order, pTa_spare, pTa_parents, pTa_melting, pFi, pWa, pWa_queue, pWa_origins, pWa_vias, pWa_lengths, pWa_seen, pSingle, pSingle_c, pHo_told, pLo, pLo_cells, pLo_kept, pLo_keptRows, pLo_names, pLo_met, pSh, pSh_cells, pSh_seen, pSh_queue, pMo, pMo_tape, pMo_text, pMo_words, pMo_wordSize, pMo_subs, pMo_subSize, pMo_asked, pMo_pile, pMo_pileSize, pMo_opened, pMo_openedAt, pMo_begun, pMo_cells, pMo_keptCells, pMo_name, pMo_isLeft, pMo_isDone, pMo_keptLeft, pMo_keptDone, pMo_state, pMo_keptState, pMo_newOf, pMo_oldOf, pMo_spare, pMo_spareDone, pMo_out, pMo_metFrom, pMo_metBy, pMo_far, pMo_low, pMo_lows, pMo_lowSize, pMo_triedRow, pMo_triedColumn, pMo_triedValue, pMo_triedRows, pMo_sheet, pLong, pKt, pKt_cells, pKt_numbers, pKt_done, pKt_order, pKt_spare, pKt_parents, pKt_melting] <;> omega)) (Or.inl (by intro b j; simp only [Su1, Su2, Su3, Su4, Su5, Su6, Su7, Su8, Su9, Ptb, pHo, pHo_tape, pWs, pWs_e, pWs_0, pWs_0_c, pSs, pSs_e, pSs_0, pSs_0_c, pAsk, pAsk_c, pRe, pRe_sums, pRe_firsts, pAtom, pAtom_c, pRaised, pRaised_c, pSum0, pSum0_c, pFirst0, pFirst0_c, pTa, pTa_cells, pTa_numbers, pTa_done, pTa_order, pTa_spare, pTa_parents, pTa_melting, pFi, pWa, pWa_queue, pWa_origins, pWa_vias, pWa_lengths, pWa_seen, pSingle, pSingle_c, pHo_told, pLo, pLo_cells, pLo_kept, pLo_keptRows, pLo_names, pLo_met, pSh, pSh_cells, pSh_seen, pSh_queue, pMo, pMo_tape, pMo_text, pMo_words, pMo_wordSize, pMo_subs, pMo_subSize, pMo_asked, pMo_pile, pMo_pileSize, pMo_opened, pMo_openedAt, pMo_begun, pMo_cells, pMo_keptCells, pMo_name, pMo_isLeft, pMo_isDone, pMo_keptLeft, pMo_keptDone, pMo_state, pMo_keptState, pMo_newOf, pMo_oldOf, pMo_spare, pMo_spareDone, pMo_out, pMo_metFrom, pMo_metBy, pMo_far, pMo_low, pMo_lows, pMo_lowSize, pMo_triedRow, pMo_triedColumn, pMo_triedValue, pMo_triedRows, pMo_sheet, pLong, pKt, pKt_cells, pKt_numbers, pKt_done, pKt_order, pKt_spare, pKt_parents, pKt_melting] <;> omega)) (Or.inr ?_) (Or.inr x5) (Or.inl (by intro b j; simp only [Su1, Su2, Su3, Su4, Su5, Su6, Su7, Su8, Su9, Ptb, pHo, pHo_tape, pWs, pWs_e, pWs_0, pWs_0_c, pSs, pSs_e, pSs_0, pSs_0_c, pAsk, pAsk_c, pRe, pRe_sums, pRe_firsts, pAtom, pAtom_c, pRaised, pRaised_c, pSum0, pSum0_c, pFirst0, pFirst0_c, pTa, pTa_cells, pTa_numbers, pTa_done, pTa_order, pTa_spare, pTa_parents, pTa_melting, pFi, pWa, pWa_queue, pWa_origins, pWa_vias, pWa_lengths, pWa_seen, pSingle, pSingle_c, pHo_told, pLo, pLo_cells, pLo_kept, pLo_keptRows, pLo_names, pLo_met, pSh, pSh_cells, pSh_seen, pSh_queue, pMo, pMo_tape, pMo_text, pMo_words, pMo_wordSize, pMo_subs, pMo_subSize, pMo_asked, pMo_pile, pMo_pileSize, pMo_opened, pMo_openedAt, pMo_begun, pMo_cells, pMo_keptCells, pMo_name, pMo_isLeft, pMo_isDone, pMo_keptLeft, pMo_keptDone, pMo_state, pMo_keptState, pMo_newOf, pMo_oldOf, pMo_spare, pMo_spareDone, pMo_out, pMo_metFrom, pMo_metBy, pMo_far, pMo_low, pMo_lows, pMo_lowSize, pMo_triedRow, pMo_triedColumn, pMo_triedValue, pMo_triedRows, pMo_sheet, pLong, pKt, pKt_cells, pKt_numbers, pKt_done, pKt_order, pKt_spare, pKt_parents, pKt_melting] <;> omega)) (Or.inl (by intro b j; simp only [Su1, Su2, Su3, Su4, Su5, Su6, Su7, Su8, Su9, Ptb, pHo, pHo_tape, pWs, pWs_e, pWs_0, pWs_0_c, pSs, pSs_e, pSs_0, pSs_0_c, pAsk, pAsk_c, pRe, pRe_sums, pRe_firsts, pAtom, pAtom_c, pRaised, pRaised_c, pSum0, pSum0_c, pFirst0, pFirst0_c, pTa, pTa_cells, pTa_numbers, pTa_done, pTa_order, pTa_spare, pTa_parents, pTa_melting, pFi, pWa, pWa_queue, pWa_origins, pWa_vias, pWa_lengths, pWa_seen, pSingle, pSingle_c, pHo_told, pLo, pLo_cells, pLo_kept, pLo_keptRows, pLo_names, pLo_met, pSh, pSh_cells, pSh_seen, pSh_queue, pMo, pMo_tape, pMo_text, pMo_words, pMo_wordSize, pMo_subs, pMo_subSize, pMo_asked, pMo_pile, pMo_pileSize, pMo_opened, pMo_openedAt, pMo_begun, pMo_cells, pMo_keptCells, pMo_name, pMo_isLeft, pMo_isDone, pMo_keptLeft, pMo_keptDone, pMo_state, pMo_keptState, pMo_newOf, pMo_oldOf, pMo_spare, pMo_spareDone, pMo_out, pMo_metFrom, pMo_metBy, pMo_far, pMo_low, pMo_lows, pMo_lowSize, pMo_triedRow, pMo_triedColumn, pMo_triedValue, pMo_triedRows, pMo_sheet, pLong, pKt, pKt_cells, pKt_numbers, pKt_done, pKt_order, pKt_spare, pKt_parents, pKt_melting] <;> omega)) (Or.inl (by intro b j; simp only [Su1, Su2, Su3, Su4, Su5, Su6, Su7, Su8, Su9, Ptb, pHo, pHo_tape, pWs, pWs_e, pWs_0, pWs_0_c, pSs, pSs_e, pSs_0, pSs_0_c, pAsk, pAsk_c, pRe, pRe_sums, pRe_firsts, pAtom, pAtom_c, pRaised, pRaised_c, pSum0, pSum0_c, pFirst0, pFirst0_c, pTa, pTa_cells, pTa_numbers, pTa_done, pTa_order, pTa_spare, pTa_parents, pTa_melting, pFi, pWa, pWa_queue, pWa_origins, pWa_vias, pWa_lengths, pWa_seen, pSingle, pSingle_c, pHo_told, pLo, pLo_cells, pLo_kept, pLo_keptRows, pLo_names, pLo_met, pSh, pSh_cells, pSh_seen, pSh_queue, pMo, pMo_tape, pMo_text, pMo_words, pMo_wordSize, pMo_subs, pMo_subSize, pMo_asked, pMo_pile, pMo_pileSize, pMo_opened, pMo_openedAt, pMo_begun, pMo_cells, pMo_keptCells, pMo_name, pMo_isLeft, pMo_isDone, pMo_keptLeft, pMo_keptDone, pMo_state, pMo_keptState, pMo_newOf, pMo_oldOf, pMo_spare, pMo_spareDone, pMo_out, pMo_metFrom, pMo_metBy, pMo_far, pMo_low, pMo_lows, pMo_lowSize, pMo_triedRow, pMo_triedColumn, pMo_triedValue, pMo_triedRows, pMo_sheet, pLong, pKt, pKt_cells, pKt_numbers, pKt_done, pKt_order, pKt_spare, pKt_parents, pKt_melting] <;> omega)) (Or.inl (by intro b j; simp only [Su1, Su2, Su3, Su4, Su5, Su6, Su7, Su8, Su9, Ptb, pHo, pHo_tape, pWs, pWs_e, pWs_0, pWs_0_c, pSs, pSs_e, pSs_0, pSs_0_c, pAsk, pAsk_c, pRe, pRe_sums, pRe_firsts, pAtom, pAtom_c, pRaised, pRaised_c, pSum0, pSum0_c, pFirst0, pFirst0_c, pTa, pTa_cells, pTa_numbers, pTa_done, pTa_order, pTa_spare, pTa_parents, pTa_melting, pFi, pWa, pWa_queue, pWa_origins, pWa_vias, pWa_lengths, pWa_seen, pSingle, pSingle_c, pHo_told, pLo, pLo_cells, pLo_kept, pLo_keptRows, pLo_names, pLo_met, pSh, pSh_cells, pSh_seen, pSh_queue, pMo, pMo_tape, pMo_text, pMo_words, pMo_wordSize, pMo_subs, pMo_subSize, pMo_asked, pMo_pile, pMo_pileSize, pMo_opened, pMo_openedAt, pMo_begun, pMo_cells, pMo_keptCells, pMo_name, pMo_isLeft, pMo_isDone, pMo_keptLeft, pMo_keptDone, pMo_state, pMo_keptState, pMo_newOf, pMo_oldOf, pMo_spare, pMo_spareDone, pMo_out, pMo_metFrom, pMo_metBy, pMo_far, pMo_low, pMo_lows, pMo_lowSize, pMo_triedRow, pMo_triedColumn, pMo_triedValue, pMo_triedRows, pMo_sheet, pLong, pKt, pKt_cells, pKt_numbers, pKt_done, pKt_order, pKt_spare, pKt_parents, pKt_melting] <;> omega))
  exact S4_ok (by rw [f'.1 pRe 9 (by decide), f'.1 pMo 3 (by decide)]; exact s.2.2.2.2.1.1) g1 g2 g3
theorem okW2_w {h : PH} {L : Int} (x : MWd L h) : okW2 L (wM h) ∧ okW2 L (uM h) := ⟨OKw_mem x.1, OKw_mem x.2.2.1⟩
theorem AX_of {k : Int} {h : PH} (s : SIM k h) (hk : k ≤ 600) {Q : Int} (tx : TX (LL h) Q h) (tr : TaR h (LL h) (atM h)) (a5 : aS (atM h) 5 ≤ 2000 * k) : AX h (LL h) Q (atM h) (wM h) (uM h) := by
  obtain ⟨w1, w2, w3, -⟩ := s.2.2.1
  obtain ⟨o1, o2⟩ := okW2_w w3
  have l1 := s.2.1.1
  exact ⟨⟨by show (2 * _) % 2 = 0; omega, by show 2 ≤ 2 * _; omega, by show 2 * _ ≤ 10; omega⟩, tr, tx.2.2.1, tx.2.2.2.1, w1, w2, o1, o2, by omega⟩
theorem st_M {L : Int} {W U : List (List Int)} {a : AT} (h : aM a = 0 ∨ aM a = -1) : aM (stA L W U a) = 0 ∨ aM (stA L W U a) = -1 := by
  unfold stA
  split
  · exact h
  · exact Or.inr rfl
theorem run_M {L : Int} {W U : List (List Int)} : ∀ {n : Nat} {a : AT}, (aM a = 0 ∨ aM a = -1) → aM (runA L W U n a) = 0 ∨ aM (runA L W U n a) = -1
  | 0, _, h => h
  | n + 1, a, h => by
    unfold runA
    split
    · exact run_M (st_M h)
    · exact h
theorem run_5 {L : Int} {W U : List (List Int)} : ∀ {n : Nat} {a : AT}, aS (runA L W U n a) 5 ≤ aS a 5 + n
  | 0, a => by show aS a 5 ≤ _; omega
  | n + 1, a => by
    unfold runA
    split
    · have := @run_5 L W U n (stA L W U a)
      have := @stA_5 L W U a
      push_cast
      omega
    · push_cast; omega
theorem FU_run {L : Int} {W U : List (List Int)} : ∀ {n : Nat} {a : AT}, FU L a → FU L (runA L W U n a)
  | 0, _, h => h
  | n + 1, a, h => by
    unfold runA
    split
    · exact FU_run (FU_st h)
    · exact h
theorem tab_go {k : Int} {h h1 h2 : PH} {Q : Int} {a' : AT} (s : SIM k h) (z : gI h pHo 10 ≠ 0) (f1 : FrQ Pf h h1) (t1 : TaR h1 (LL h) a') (f2 : FrP Tb (goodH (sI h1 pHo 17 0)) h2) (e2 : atM h2 = a') (x2 : TX (LL h) Q h2) (q0 : 0 ≤ Q) (q1 : Q ≤ k) (m : aM a' = 0 ∨ aM a' = -1) (fu : FU (LL h) a') (a5 : aS a' 5 ≤ 2000 * (k + 1)) : SIM (k + 1) h2 := by
  have z' : gI h pMo 32 ≠ 0 := fun y => z ((ht_iff s).mpr y)
  have f0 : FrQ Pno h1 (goodH (sI h1 pHo 17 0)) := FrQ_sI (by decide) (FrQ_sI (by decide) (FrQ_sI (by decide) (FrQ_sI (by decide) (FrQ_refl Pno h1))))
  have f : FrQ (fun b j => Pf b j ∨ (Pno b j ∨ Tb b j)) h h2 := FrQ_two f1 (FrQ_two f0 (FrQ_of f2))
  have eL : LL h2 = LL h := x2.1.symm
  have g : gI h2 pHo 17 = 0 ∧ gI h2 pMo 1 = 0 ∧ gI h2 pMo 2 = -1 := by
    rw [f2.1 pHo 17 (by unfold Tb; simp (decide := true)), f2.1 pMo 1 (by unfold Tb; simp (decide := true)), f2.1 pMo 2 (by unfold Tb; simp (decide := true))]
    unfold goodH
    simp (decide := true) only [gI_sI, if_true, if_false]
  refine tab_fin s f (by intro b j; simp only [Pf, Pt, Tb, Pno, Ptb, pHo, pHo_tape, pWs, pWs_e, pWs_0, pWs_0_c, pSs, pSs_e, pSs_0, pSs_0_c, pAsk, pAsk_c, pRe, pRe_sums, pRe_firsts, pAtom, pAtom_c, pRaised, pRaised_c, pSum0, pSum0_c, pFirst0, pFirst0_c, pTa, pTa_cells, pTa_numbers, pTa_done, pTa_order, pTa_spare, pTa_parents, pTa_melting, pFi, pWa, pWa_queue, pWa_origins, pWa_vias, pWa_lengths, pWa_seen, pSingle, pSingle_c, pHo_told, pLo, pLo_cells, pLo_kept, pLo_keptRows, pLo_names, pLo_met, pSh, pSh_cells, pSh_seen, pSh_queue, pMo, pMo_tape, pMo_text, pMo_words, pMo_wordSize, pMo_subs, pMo_subSize, pMo_asked, pMo_pile, pMo_pileSize, pMo_opened, pMo_openedAt, pMo_begun, pMo_cells, pMo_keptCells, pMo_name, pMo_isLeft, pMo_isDone, pMo_keptLeft, pMo_keptDone, pMo_state, pMo_keptState, pMo_newOf, pMo_oldOf, pMo_spare, pMo_spareDone, pMo_out, pMo_metFrom, pMo_metBy, pMo_far, pMo_low, pMo_lows, pMo_lowSize, pMo_triedRow, pMo_triedColumn, pMo_triedValue, pMo_triedRows, pMo_sheet, pLong, pKt, pKt_cells, pKt_numbers, pKt_done, pKt_order, pKt_spare, pKt_parents, pKt_melting]; omega) g.1 g.2.1 g.2.2 ?_
  refine S5_mk (Q := Q) x2.2.2.2.2.2 ?_ ?_ ?_ q0 (by omega) ?_ ?_ ?_ ?_
  · have : aM (atM h2) = gI h2 pMo 39 := rfl
    rw [← this, e2]; exact m
  · rw [eL, e2]
    refine TaR_eq (fun b j b0 b1 => ?_) t1
    rw [f2.1 b j (by simp only [Tb, pHo, pHo_tape, pWs, pWs_e, pWs_0, pWs_0_c, pSs, pSs_e, pSs_0, pSs_0_c, pAsk, pAsk_c, pRe, pRe_sums, pRe_firsts, pAtom, pAtom_c, pRaised, pRaised_c, pSum0, pSum0_c, pFirst0, pFirst0_c, pTa, pTa_cells, pTa_numbers, pTa_done, pTa_order, pTa_spare, pTa_parents, pTa_melting, pFi, pWa, pWa_queue, pWa_origins, pWa_vias, pWa_lengths, pWa_seen, pSingle, pSingle_c, pHo_told, pLo, pLo_cells, pLo_kept, pLo_keptRows, pLo_names, pLo_met, pSh, pSh_cells, pSh_seen, pSh_queue, pMo, pMo_tape, pMo_text, pMo_words, pMo_wordSize, pMo_subs, pMo_subSize, pMo_asked, pMo_pile, pMo_pileSize, pMo_opened, pMo_openedAt, pMo_begun, pMo_cells, pMo_keptCells, pMo_name, pMo_isLeft, pMo_isDone, pMo_keptLeft, pMo_keptDone, pMo_state, pMo_keptState, pMo_newOf, pMo_oldOf, pMo_spare, pMo_spareDone, pMo_out, pMo_metFrom, pMo_metBy, pMo_far, pMo_low, pMo_lows, pMo_lowSize, pMo_triedRow, pMo_triedColumn, pMo_triedValue, pMo_triedRows, pMo_sheet, pLong, pKt, pKt_cells, pKt_numbers, pKt_done, pKt_order, pKt_spare, pKt_parents, pKt_melting]; omega), f0.1 b j (by simp only [Pno]; omega)]
  · rw [eL]; exact x2.2.2.1
  · rw [eL, e2]; exact fu
  · rw [e2]; exact a5
  · rw [f.1 pHo 10 (by simp (decide := true) [Pf, Pt, Tb, Pno])]; exact z
  · rw [f.1 pMo 32 (by simp (decide := true) [Pf, Pt, Tb, Pno])]; exact z'
theorem h39_a {k : Int} {h : PH} (s : SIM k h) : aM (atM h) = 0 ∨ aM (atM h) = -1 := s.2.2.2.2.2.1.2.1.1
theorem sim_step {k : Int} {h : PH} (s : SIM k h) (hk : k ≤ 600) (k0 : 0 ≤ k) : SimP Ct_Ho_step Ct_Mo_step [] k h := by
  refine ⟨rfl, s.1.1, fun z => ⟨_, rfl, s.1.2, rfl, s.1.2, fun _ => ⟨rfl, SIM_no s (by decide)⟩, fun y => absurd ((ht_iff s).mp z) y⟩, fun z => ?_⟩
  have z' : gI h pMo 32 ≠ 0 := fun y => z ((ht_iff s).mpr y)
  obtain ⟨Q, q0, q1, tx, tr, fu, a5, a6⟩ := TX_of s hk z'
  refine ⟨LL h, Q, atM h, wM h, uM h, AX_of s hk tx tr a5, fun h1 f1 t1 w1 => ?_⟩
  have me : MEq h (sI h1 pHo 17 0) := me_sI (MEq_of f1 (by intro b j; simp only [Pf, Pt, pHo, pHo_tape, pWs, pWs_e, pWs_0, pWs_0_c, pSs, pSs_e, pSs_0, pSs_0_c, pAsk, pAsk_c, pRe, pRe_sums, pRe_firsts, pAtom, pAtom_c, pRaised, pRaised_c, pSum0, pSum0_c, pFirst0, pFirst0_c, pTa, pTa_cells, pTa_numbers, pTa_done, pTa_order, pTa_spare, pTa_parents, pTa_melting, pFi, pWa, pWa_queue, pWa_origins, pWa_vias, pWa_lengths, pWa_seen, pSingle, pSingle_c, pHo_told, pLo, pLo_cells, pLo_kept, pLo_keptRows, pLo_names, pLo_met, pSh, pSh_cells, pSh_seen, pSh_queue, pMo, pMo_tape, pMo_text, pMo_words, pMo_wordSize, pMo_subs, pMo_subSize, pMo_asked, pMo_pile, pMo_pileSize, pMo_opened, pMo_openedAt, pMo_begun, pMo_cells, pMo_keptCells, pMo_name, pMo_isLeft, pMo_isDone, pMo_keptLeft, pMo_keptDone, pMo_state, pMo_keptState, pMo_newOf, pMo_oldOf, pMo_spare, pMo_spareDone, pMo_out, pMo_metFrom, pMo_metBy, pMo_far, pMo_low, pMo_lows, pMo_lowSize, pMo_triedRow, pMo_triedColumn, pMo_triedValue, pMo_triedRows, pMo_sheet, pLong, pKt, pKt_cells, pKt_numbers, pKt_done, pKt_order, pKt_spare, pKt_parents, pKt_melting]; omega)) (Or.inl (by decide))
  have m1 : MW h1 := FrQ_MW f1 s.1.2
  refine ⟨_, rfl, m1, rfl, m1, fun y => absurd (me pMo 32 (by decide) (by decide) ▸ y) z', fun _ => ⟨LL h, Q, TX_me me tx, by rw [me pMo_state 5 (by decide) (by decide)]; omega, fun h2 f2 e2 x2 => ?_⟩⟩
  rw [atM_me me, wM_me me, uM_me me] at e2 ⊢
  exact ⟨rfl, tab_go s z f1 t1 f2 e2 x2 q0 q1 (st_M (h39_a s)) (FU_st fu) (by have := @stA_5 (LL h) (wM h) (uM h) (atM h); omega)⟩
theorem sim_run {k : Int} {h : PH} (s : SIM k h) (hk : k ≤ 600) (k0 : 0 ≤ k) {n : Int} : SimP Ct_Ho_run Ct_Mo_run [.inl n] k h := by
  refine ⟨rfl, s.1.1, fun z => ⟨_, rfl, s.1.2, rfl, s.1.2, fun _ => ⟨rfl, SIM_no s (by decide)⟩, fun y => absurd ((ht_iff s).mp z) y, fun y => absurd ((ht_iff s).mp z) y⟩, fun z n1 => ?_, fun z n1 n2 => ?_⟩
  · have z' : gI h pMo 32 ≠ 0 := fun y => z ((ht_iff s).mpr y)
    exact ⟨_, rfl, s.1.2, rfl, s.1.2, fun y => absurd y z', fun _ _ => ⟨rfl, SIM_no s (by decide)⟩, fun _ y1 y2 => absurd ⟨y1, y2⟩ n1⟩
  · have z' : gI h pMo 32 ≠ 0 := fun y => z ((ht_iff s).mpr y)
    obtain ⟨Q, q0, q1, tx, tr, fu, a5, a6⟩ := TX_of s hk z'
    refine ⟨LL h, Q, atM h, wM h, uM h, AX_of s hk tx tr a5, by omega, fun h1 f1 t1 w1 => ?_⟩
    have me : MEq h (sI h1 pHo 17 0) := me_sI (MEq_of f1 (by intro b j; simp only [Pf, Pt, pHo, pHo_tape, pWs, pWs_e, pWs_0, pWs_0_c, pSs, pSs_e, pSs_0, pSs_0_c, pAsk, pAsk_c, pRe, pRe_sums, pRe_firsts, pAtom, pAtom_c, pRaised, pRaised_c, pSum0, pSum0_c, pFirst0, pFirst0_c, pTa, pTa_cells, pTa_numbers, pTa_done, pTa_order, pTa_spare, pTa_parents, pTa_melting, pFi, pWa, pWa_queue, pWa_origins, pWa_vias, pWa_lengths, pWa_seen, pSingle, pSingle_c, pHo_told, pLo, pLo_cells, pLo_kept, pLo_keptRows, pLo_names, pLo_met, pSh, pSh_cells, pSh_seen, pSh_queue, pMo, pMo_tape, pMo_text, pMo_words, pMo_wordSize, pMo_subs, pMo_subSize, pMo_asked, pMo_pile, pMo_pileSize, pMo_opened, pMo_openedAt, pMo_begun, pMo_cells, pMo_keptCells, pMo_name, pMo_isLeft, pMo_isDone, pMo_keptLeft, pMo_keptDone, pMo_state, pMo_keptState, pMo_newOf, pMo_oldOf, pMo_spare, pMo_spareDone, pMo_out, pMo_metFrom, pMo_metBy, pMo_far, pMo_low, pMo_lows, pMo_lowSize, pMo_triedRow, pMo_triedColumn, pMo_triedValue, pMo_triedRows, pMo_sheet, pLong, pKt, pKt_cells, pKt_numbers, pKt_done, pKt_order, pKt_spare, pKt_parents, pKt_melting]; omega)) (Or.inl (by decide))
    have m1 : MW h1 := FrQ_MW f1 s.1.2
    refine ⟨_, rfl, m1, rfl, m1, fun y => absurd (me pMo 32 (by decide) (by decide) ▸ y) z', fun _ y => by omega, fun _ _ _ => ⟨LL h, Q, TX_me me tx, by rw [me pMo_state 5 (by decide) (by decide)]; omega, fun h2 f2 e2 x2 => ?_⟩⟩
    rw [atM_me me, wM_me me, uM_me me] at e2 ⊢
    exact ⟨rfl, tab_go s z f1 t1 f2 e2 x2 q0 q1 (run_M (h39_a s)) (FU_run fu) (by have := @run_5 (LL h) (wM h) (uM h) n.toNat (atM h); omega)⟩
