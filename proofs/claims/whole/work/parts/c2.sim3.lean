/-! BOTH CLASSES: drop, letter, cell, row, about, sheet, put -/
theorem wM_pop {g s : Int → Int} {n : Int} (h0 : 0 ≤ n) (h1 : n ≠ 0) : wdsM g s (n - 1) = (wdsM g s n).take (n - 1).toNat := by
  have := @wdsM_take g s (n - 1).toNat
  rw [show (((n - 1).toNat : Nat) : Int) = n - 1 by omega, show n - 1 + 1 = n by omega] at this
  exact this
theorem LR_eqW {h h' : PH} {W : List (List Int)} (e : ∀ b j, 2 ≤ b → b ≤ 27 → gI h' b j = gI h b j) (x : LR h pWs W) : LR h' pWs W := by
  have q2 : lq pWs = 12 := rfl
  have q3 : pWs = 2 := rfl
  obtain ⟨x1, x2, x3⟩ := x
  refine ⟨by rw [e pWs 1 (by decide) (by decide)]; exact x1, x2, fun k hk => ?_⟩
  obtain ⟨y1, y2, y3, y4⟩ := x3 k hk
  refine ⟨by rw [e _ 1 (by omega) (by omega)]; exact y1, y2, fun i hi => by rw [e _ _ (by omega) (by omega)]; exact y3 i hi, y4⟩
theorem LR_eqS {h h' : PH} {W : List (List Int)} (e : ∀ b j, 28 ≤ b → b ≤ 41 → gI h' b j = gI h b j) (x : LR h pSs W) : LR h' pSs W := by
  have q2 : lq pSs = 6 := rfl
  have q3 : pSs = 28 := rfl
  obtain ⟨x1, x2, x3⟩ := x
  refine ⟨by rw [e pSs 1 (by decide) (by decide)]; exact x1, x2, fun k hk => ?_⟩
  obtain ⟨y1, y2, y3, y4⟩ := x3 k hk
  refine ⟨by rw [e _ 1 (by omega) (by omega)]; exact y1, y2, fun i hi => by rw [e _ _ (by omega) (by omega)]; exact y3 i hi, y4⟩
theorem sim_drop {k : Int} {h : PH} (s : SIM k h) {b : Int} (hb : b = 0 ∨ b = 1) : SimP Ct_Ho_drop Ct_Mo_drop [.inl b] k h := by
  obtain ⟨w1, w2, ⟨w3, w4, w5, w6⟩, w7⟩ := s.2.2.1
  have l1 : gI h pWs 1 = gI h pMo 14 := by have := w1.1; unfold wM at this; rw [wdsM_len] at this; have := w3.1; omega
  have l2 : gI h pSs 1 = gI h pMo 15 := by have := w2.1; unfold uM at this; rw [wdsM_len] at this; have := w5.1; omega
  have o1 := w3.1
  have o2 := w5.1
  have s5 := s.2.2.2.2.2.1
  have s6 := s.2.2.2.2.2.2.1
  have fin : ∀ h2, FrQ Pdr h h2 → S2 h2 → gI h2 pHo 10 = 0 → gI h2 pHo 12 = 0 → gI h2 pHo 17 = 0 → gI h2 pMo 32 = 0 → gI h2 pMo 33 = 0 → gI h2 pMo 1 = 0 → gI h2 pMo 2 = -1 → SIM (k + 1) h2 := by
    intro h2 f x2 g5 g6 g7 g12 g13 g14 g15
    have e1 : ∀ b, (b = 87 ∨ b = 90 ∨ b = 131 ∨ b = 132 ∨ b = 133 ∨ b = 134) → gI h2 b = gI h b := fun b hb => funext fun j => f.1 b j (by rcases hb with rfl | rfl | rfl | rfl | rfl | rfl <;> simp (decide := true) [Pdr])
    refine SIM_fr s f (Or.inl (by intro b j; simp only [Su1, Su2, Su3, Su4, Su5, Su6, Su7, Su8, Su9, Pdr, pHo, pHo_tape, pWs, pWs_e, pWs_0, pWs_0_c, pSs, pSs_e, pSs_0, pSs_0_c, pAsk, pAsk_c, pRe, pRe_sums, pRe_firsts, pAtom, pAtom_c, pRaised, pRaised_c, pSum0, pSum0_c, pFirst0, pFirst0_c, pTa, pTa_cells, pTa_numbers, pTa_done, pTa_order, pTa_spare, pTa_parents, pTa_melting, pFi, pWa, pWa_queue, pWa_origins, pWa_vias, pWa_lengths, pWa_seen, pSingle, pSingle_c, pHo_told, pLo, pLo_cells, pLo_kept, pLo_keptRows, pLo_names, pLo_met, pSh, pSh_cells, pSh_seen, pSh_queue, pMo, pMo_tape, pMo_text, pMo_words, pMo_wordSize, pMo_subs, pMo_subSize, pMo_asked, pMo_pile, pMo_pileSize, pMo_opened, pMo_openedAt, pMo_begun, pMo_cells, pMo_keptCells, pMo_name, pMo_isLeft, pMo_isDone, pMo_keptLeft, pMo_keptDone, pMo_state, pMo_keptState, pMo_newOf, pMo_oldOf, pMo_spare, pMo_spareDone, pMo_out, pMo_metFrom, pMo_metBy, pMo_far, pMo_low, pMo_lows, pMo_lowSize, pMo_triedRow, pMo_triedColumn, pMo_triedValue, pMo_triedRows, pMo_sheet, pLong, pKt, pKt_cells, pKt_numbers, pKt_done, pKt_order, pKt_spare, pKt_parents, pKt_melting] <;> omega)) (Or.inr x2) (Or.inl (by intro b j; simp only [Su1, Su2, Su3, Su4, Su5, Su6, Su7, Su8, Su9, Pdr, pHo, pHo_tape, pWs, pWs_e, pWs_0, pWs_0_c, pSs, pSs_e, pSs_0, pSs_0_c, pAsk, pAsk_c, pRe, pRe_sums, pRe_firsts, pAtom, pAtom_c, pRaised, pRaised_c, pSum0, pSum0_c, pFirst0, pFirst0_c, pTa, pTa_cells, pTa_numbers, pTa_done, pTa_order, pTa_spare, pTa_parents, pTa_melting, pFi, pWa, pWa_queue, pWa_origins, pWa_vias, pWa_lengths, pWa_seen, pSingle, pSingle_c, pHo_told, pLo, pLo_cells, pLo_kept, pLo_keptRows, pLo_names, pLo_met, pSh, pSh_cells, pSh_seen, pSh_queue, pMo, pMo_tape, pMo_text, pMo_words, pMo_wordSize, pMo_subs, pMo_subSize, pMo_asked, pMo_pile, pMo_pileSize, pMo_opened, pMo_openedAt, pMo_begun, pMo_cells, pMo_keptCells, pMo_name, pMo_isLeft, pMo_isDone, pMo_keptLeft, pMo_keptDone, pMo_state, pMo_keptState, pMo_newOf, pMo_oldOf, pMo_spare, pMo_spareDone, pMo_out, pMo_metFrom, pMo_metBy, pMo_far, pMo_low, pMo_lows, pMo_lowSize, pMo_triedRow, pMo_triedColumn, pMo_triedValue, pMo_triedRows, pMo_sheet, pLong, pKt, pKt_cells, pKt_numbers, pKt_done, pKt_order, pKt_spare, pKt_parents, pKt_melting] <;> omega)) (Or.inr ?_) (Or.inr ?_) (Or.inr ?_) (Or.inl (by intro b j; simp only [Su1, Su2, Su3, Su4, Su5, Su6, Su7, Su8, Su9, Pdr, pHo, pHo_tape, pWs, pWs_e, pWs_0, pWs_0_c, pSs, pSs_e, pSs_0, pSs_0_c, pAsk, pAsk_c, pRe, pRe_sums, pRe_firsts, pAtom, pAtom_c, pRaised, pRaised_c, pSum0, pSum0_c, pFirst0, pFirst0_c, pTa, pTa_cells, pTa_numbers, pTa_done, pTa_order, pTa_spare, pTa_parents, pTa_melting, pFi, pWa, pWa_queue, pWa_origins, pWa_vias, pWa_lengths, pWa_seen, pSingle, pSingle_c, pHo_told, pLo, pLo_cells, pLo_kept, pLo_keptRows, pLo_names, pLo_met, pSh, pSh_cells, pSh_seen, pSh_queue, pMo, pMo_tape, pMo_text, pMo_words, pMo_wordSize, pMo_subs, pMo_subSize, pMo_asked, pMo_pile, pMo_pileSize, pMo_opened, pMo_openedAt, pMo_begun, pMo_cells, pMo_keptCells, pMo_name, pMo_isLeft, pMo_isDone, pMo_keptLeft, pMo_keptDone, pMo_state, pMo_keptState, pMo_newOf, pMo_oldOf, pMo_spare, pMo_spareDone, pMo_out, pMo_metFrom, pMo_metBy, pMo_far, pMo_low, pMo_lows, pMo_lowSize, pMo_triedRow, pMo_triedColumn, pMo_triedValue, pMo_triedRows, pMo_sheet, pLong, pKt, pKt_cells, pKt_numbers, pKt_done, pKt_order, pKt_spare, pKt_parents, pKt_melting] <;> omega)) (Or.inl (by intro b j; simp only [Su1, Su2, Su3, Su4, Su5, Su6, Su7, Su8, Su9, Pdr, pHo, pHo_tape, pWs, pWs_e, pWs_0, pWs_0_c, pSs, pSs_e, pSs_0, pSs_0_c, pAsk, pAsk_c, pRe, pRe_sums, pRe_firsts, pAtom, pAtom_c, pRaised, pRaised_c, pSum0, pSum0_c, pFirst0, pFirst0_c, pTa, pTa_cells, pTa_numbers, pTa_done, pTa_order, pTa_spare, pTa_parents, pTa_melting, pFi, pWa, pWa_queue, pWa_origins, pWa_vias, pWa_lengths, pWa_seen, pSingle, pSingle_c, pHo_told, pLo, pLo_cells, pLo_kept, pLo_keptRows, pLo_names, pLo_met, pSh, pSh_cells, pSh_seen, pSh_queue, pMo, pMo_tape, pMo_text, pMo_words, pMo_wordSize, pMo_subs, pMo_subSize, pMo_asked, pMo_pile, pMo_pileSize, pMo_opened, pMo_openedAt, pMo_begun, pMo_cells, pMo_keptCells, pMo_name, pMo_isLeft, pMo_isDone, pMo_keptLeft, pMo_keptDone, pMo_state, pMo_keptState, pMo_newOf, pMo_oldOf, pMo_spare, pMo_spareDone, pMo_out, pMo_metFrom, pMo_metBy, pMo_far, pMo_low, pMo_lows, pMo_lowSize, pMo_triedRow, pMo_triedColumn, pMo_triedValue, pMo_triedRows, pMo_sheet, pLong, pKt, pKt_cells, pKt_numbers, pKt_done, pKt_order, pKt_spare, pKt_parents, pKt_melting] <;> omega)) (Or.inl (by intro b j; simp only [Su1, Su2, Su3, Su4, Su5, Su6, Su7, Su8, Su9, Pdr, pHo, pHo_tape, pWs, pWs_e, pWs_0, pWs_0_c, pSs, pSs_e, pSs_0, pSs_0_c, pAsk, pAsk_c, pRe, pRe_sums, pRe_firsts, pAtom, pAtom_c, pRaised, pRaised_c, pSum0, pSum0_c, pFirst0, pFirst0_c, pTa, pTa_cells, pTa_numbers, pTa_done, pTa_order, pTa_spare, pTa_parents, pTa_melting, pFi, pWa, pWa_queue, pWa_origins, pWa_vias, pWa_lengths, pWa_seen, pSingle, pSingle_c, pHo_told, pLo, pLo_cells, pLo_kept, pLo_keptRows, pLo_names, pLo_met, pSh, pSh_cells, pSh_seen, pSh_queue, pMo, pMo_tape, pMo_text, pMo_words, pMo_wordSize, pMo_subs, pMo_subSize, pMo_asked, pMo_pile, pMo_pileSize, pMo_opened, pMo_openedAt, pMo_begun, pMo_cells, pMo_keptCells, pMo_name, pMo_isLeft, pMo_isDone, pMo_keptLeft, pMo_keptDone, pMo_state, pMo_keptState, pMo_newOf, pMo_oldOf, pMo_spare, pMo_spareDone, pMo_out, pMo_metFrom, pMo_metBy, pMo_far, pMo_low, pMo_lows, pMo_lowSize, pMo_triedRow, pMo_triedColumn, pMo_triedValue, pMo_triedRows, pMo_sheet, pLong, pKt, pKt_cells, pKt_numbers, pKt_done, pKt_order, pKt_spare, pKt_parents, pKt_melting] <;> omega))
    · exact S4_ok (by rw [f.1 pRe 9 (by decide), f.1 pMo 3 (by decide)]; exact s.2.2.2.2.1.1) g7 g14 g15
    · refine ⟨BB_of (e1 pMo_isLeft (by decide)) (e1 pMo_isDone (by decide)) s5.1, by rw [f.1 pMo 39 (by decide), f.1 pMo_state 0 (by decide)]; exact s5.2.1, by rw [e1 pTa_done (by decide)]; exact s5.2.2.1, by rw [e1 pTa (by decide)]; exact s5.2.2.2.1, ⟨fun _ => g12, fun _ => g5⟩, fun z => absurd g12 z⟩
    · refine ⟨by unfold KB; rw [e1 pMo_keptLeft (by decide), e1 pMo_keptDone (by decide)]; exact s6.1, ⟨fun _ => g13, fun _ => g6⟩, fun z => absurd g13 z, ?_⟩
      rw [f.2.1 pHo 11 (by unfold Dyn; simp (decide := true)), f.2.2.1]
      exact s6.2.2.2
  rcases hb with rfl | rfl
  · refine ⟨rfl, s.1.1, by show 0 ≤ gI h pWs 1; omega, fun z => ?_, fun z => ?_⟩
    · have z' : gI h pWs 1 = 0 := z
      exact ⟨_, rfl, s.1.2, rfl, s.1.2, Or.inl rfl, o1, o2, fun _ => ⟨rfl, SIM_no s (by decide)⟩, fun y => absurd (show gI h pMo 14 = 0 by omega) y⟩
    · have z' : gI h pWs 1 ≠ 0 := z
      refine ⟨_, rfl, s.1.2, rfl, s.1.2, Or.inl rfl, o1, o2, fun y => absurd (show gI h pMo 14 = 0 from y) (by omega), fun _ => ⟨rfl, ?_⟩⟩
      show SIM (k + 1) (sI (sI (sI (sI (sI (sI (sI (sI (sI (sI h pWs 1 (gI h pWs 1 - 1)) pHo 10 0) pHo 12 0) pHo 17 0) pMo 4 0) pMo 14 (gI h pMo 14 - 1)) pMo 32 0) pMo 33 0) pMo 1 0) pMo 2 (-1))
      have f : FrQ Pdr h (sI (sI (sI (sI (sI (sI (sI (sI (sI (sI h pWs 1 (gI h pWs 1 - 1)) pHo 10 0) pHo 12 0) pHo 17 0) pMo 4 0) pMo 14 (gI h pMo 14 - 1)) pMo 32 0) pMo 33 0) pMo 1 0) pMo 2 (-1)) := by
        repeat' (refine FrQ_sI (by decide) ?_)
        exact FrQ_refl Pdr h
      generalize eh : sI (sI (sI (sI (sI (sI (sI (sI (sI (sI h pWs 1 (gI h pWs 1 - 1)) pHo 10 0) pHo 12 0) pHo 17 0) pMo 4 0) pMo 14 (gI h pMo 14 - 1)) pMo 32 0) pMo 33 0) pMo 1 0) pMo 2 (-1) = h2 at f
      have g : gI h2 pWs 1 = gI h pWs 1 - 1 ∧ gI h2 pMo 14 = gI h pMo 14 - 1 ∧ gI h2 pHo 10 = 0 ∧ gI h2 pHo 12 = 0 ∧ gI h2 pHo 17 = 0 ∧ gI h2 pMo 32 = 0 ∧ gI h2 pMo 33 = 0 ∧ gI h2 pMo 1 = 0 ∧ gI h2 pMo 2 = -1 ∧ gI h2 pMo 15 = gI h pMo 15 ∧ gI h2 pMo 0 = gI h pMo 0 := by
        rw [← eh]
        simp (decide := true) only [gI_sI, if_true, if_false]
      obtain ⟨g1, g2, g3, g4, g5, g6, g7, g8, g9, g10, g11⟩ := g
      have ew : ∀ b j, 2 ≤ b → b ≤ 41 → b ≠ pWs → gI h2 b j = gI h b j := by
        intro b j b2 b3 b4
        rw [← eh]
        simp only [gI_sI, pHo, pHo_tape, pWs, pWs_e, pWs_0, pWs_0_c, pSs, pSs_e, pSs_0, pSs_0_c, pAsk, pAsk_c, pRe, pRe_sums, pRe_firsts, pAtom, pAtom_c, pRaised, pRaised_c, pSum0, pSum0_c, pFirst0, pFirst0_c, pTa, pTa_cells, pTa_numbers, pTa_done, pTa_order, pTa_spare, pTa_parents, pTa_melting, pFi, pWa, pWa_queue, pWa_origins, pWa_vias, pWa_lengths, pWa_seen, pSingle, pSingle_c, pHo_told, pLo, pLo_cells, pLo_kept, pLo_keptRows, pLo_names, pLo_met, pSh, pSh_cells, pSh_seen, pSh_queue, pMo, pMo_tape, pMo_text, pMo_words, pMo_wordSize, pMo_subs, pMo_subSize, pMo_asked, pMo_pile, pMo_pileSize, pMo_opened, pMo_openedAt, pMo_begun, pMo_cells, pMo_keptCells, pMo_name, pMo_isLeft, pMo_isDone, pMo_keptLeft, pMo_keptDone, pMo_state, pMo_keptState, pMo_newOf, pMo_oldOf, pMo_spare, pMo_spareDone, pMo_out, pMo_metFrom, pMo_metBy, pMo_far, pMo_low, pMo_lows, pMo_lowSize, pMo_triedRow, pMo_triedColumn, pMo_triedValue, pMo_triedRows, pMo_sheet, pLong, pKt, pKt_cells, pKt_numbers, pKt_done, pKt_order, pKt_spare, pKt_parents, pKt_melting] at b4 ⊢
        repeat rw [if_neg (by omega)]
      have e4 : ∀ b, (b = 118 ∨ b = 119 ∨ b = 120 ∨ b = 121) → gI h2 b = gI h b := fun b hb => funext fun j => f.1 b j (by rcases hb with rfl | rfl | rfl | rfl <;> simp (decide := true) [Pdr])
      refine fin h2 f ?_ g3 g4 g5 g6 g7 g8 g9
      unfold S2 wM uM MWd LL WZ
      rw [e4 pMo_words (by decide), e4 pMo_wordSize (by decide), e4 pMo_subs (by decide), e4 pMo_subSize (by decide), g2, g10, g11]
      refine ⟨?_, ?_, ⟨⟨by omega, fun i i0 i1 => w3.2 i i0 (by omega)⟩, by omega, w5, w6⟩, w7⟩
      · rw [wM_pop o1 (by omega)]
        refine LR_take (Or.inl rfl) w1 ?_ (by rw [g1]; omega) ew
        rw [wdsM_len]; omega
      · exact LR_eqS (fun b j b2 b3 => ew b j (by omega) b3 (fun z => by have : b = 2 := z; omega)) w2
  · refine ⟨rfl, s.1.1, by show 0 ≤ gI h pSs 1; omega, fun z => ?_, fun z => ?_⟩
    · have z' : gI h pSs 1 = 0 := z
      exact ⟨_, rfl, s.1.2, rfl, s.1.2, Or.inr rfl, o1, o2, fun _ => ⟨rfl, SIM_no s (by decide)⟩, fun y => absurd (show gI h pMo 15 = 0 by omega) y⟩
    · have z' : gI h pSs 1 ≠ 0 := z
      refine ⟨_, rfl, s.1.2, rfl, s.1.2, Or.inr rfl, o1, o2, fun y => absurd (show gI h pMo 15 = 0 from y) (by omega), fun _ => ⟨rfl, ?_⟩⟩
      show SIM (k + 1) (sI (sI (sI (sI (sI (sI (sI (sI (sI (sI h pSs 1 (gI h pSs 1 - 1)) pHo 10 0) pHo 12 0) pHo 17 0) pMo 4 0) pMo 15 (gI h pMo 15 - 1)) pMo 32 0) pMo 33 0) pMo 1 0) pMo 2 (-1))
      have f : FrQ Pdr h (sI (sI (sI (sI (sI (sI (sI (sI (sI (sI h pSs 1 (gI h pSs 1 - 1)) pHo 10 0) pHo 12 0) pHo 17 0) pMo 4 0) pMo 15 (gI h pMo 15 - 1)) pMo 32 0) pMo 33 0) pMo 1 0) pMo 2 (-1)) := by
        repeat' (refine FrQ_sI (by decide) ?_)
        exact FrQ_refl Pdr h
      generalize eh : sI (sI (sI (sI (sI (sI (sI (sI (sI (sI h pSs 1 (gI h pSs 1 - 1)) pHo 10 0) pHo 12 0) pHo 17 0) pMo 4 0) pMo 15 (gI h pMo 15 - 1)) pMo 32 0) pMo 33 0) pMo 1 0) pMo 2 (-1) = h2 at f
      have g : gI h2 pSs 1 = gI h pSs 1 - 1 ∧ gI h2 pMo 15 = gI h pMo 15 - 1 ∧ gI h2 pHo 10 = 0 ∧ gI h2 pHo 12 = 0 ∧ gI h2 pHo 17 = 0 ∧ gI h2 pMo 32 = 0 ∧ gI h2 pMo 33 = 0 ∧ gI h2 pMo 1 = 0 ∧ gI h2 pMo 2 = -1 ∧ gI h2 pMo 14 = gI h pMo 14 ∧ gI h2 pMo 0 = gI h pMo 0 := by
        rw [← eh]
        simp (decide := true) only [gI_sI, if_true, if_false]
      obtain ⟨g1, g2, g3, g4, g5, g6, g7, g8, g9, g10, g11⟩ := g
      have ew : ∀ b j, 2 ≤ b → b ≤ 41 → b ≠ pSs → gI h2 b j = gI h b j := by
        intro b j b2 b3 b4
        rw [← eh]
        simp only [gI_sI, pHo, pHo_tape, pWs, pWs_e, pWs_0, pWs_0_c, pSs, pSs_e, pSs_0, pSs_0_c, pAsk, pAsk_c, pRe, pRe_sums, pRe_firsts, pAtom, pAtom_c, pRaised, pRaised_c, pSum0, pSum0_c, pFirst0, pFirst0_c, pTa, pTa_cells, pTa_numbers, pTa_done, pTa_order, pTa_spare, pTa_parents, pTa_melting, pFi, pWa, pWa_queue, pWa_origins, pWa_vias, pWa_lengths, pWa_seen, pSingle, pSingle_c, pHo_told, pLo, pLo_cells, pLo_kept, pLo_keptRows, pLo_names, pLo_met, pSh, pSh_cells, pSh_seen, pSh_queue, pMo, pMo_tape, pMo_text, pMo_words, pMo_wordSize, pMo_subs, pMo_subSize, pMo_asked, pMo_pile, pMo_pileSize, pMo_opened, pMo_openedAt, pMo_begun, pMo_cells, pMo_keptCells, pMo_name, pMo_isLeft, pMo_isDone, pMo_keptLeft, pMo_keptDone, pMo_state, pMo_keptState, pMo_newOf, pMo_oldOf, pMo_spare, pMo_spareDone, pMo_out, pMo_metFrom, pMo_metBy, pMo_far, pMo_low, pMo_lows, pMo_lowSize, pMo_triedRow, pMo_triedColumn, pMo_triedValue, pMo_triedRows, pMo_sheet, pLong, pKt, pKt_cells, pKt_numbers, pKt_done, pKt_order, pKt_spare, pKt_parents, pKt_melting] at b4 ⊢
        repeat rw [if_neg (by omega)]
      have e4 : ∀ b, (b = 118 ∨ b = 119 ∨ b = 120 ∨ b = 121) → gI h2 b = gI h b := fun b hb => funext fun j => f.1 b j (by rcases hb with rfl | rfl | rfl | rfl <;> simp (decide := true) [Pdr])
      refine fin h2 f ?_ g3 g4 g5 g6 g7 g8 g9
      unfold S2 wM uM MWd LL WZ
      rw [e4 pMo_words (by decide), e4 pMo_wordSize (by decide), e4 pMo_subs (by decide), e4 pMo_subSize (by decide), g10, g2, g11]
      refine ⟨?_, ?_, ⟨w3, w4, ⟨by omega, fun i i0 i1 => w5.2 i i0 (by omega)⟩, by omega⟩, w7⟩
      · exact LR_eqW (fun b j b2 b3 => ew b j b2 (by omega) (fun z => by have : b = 28 := z; omega)) w1
      · rw [wM_pop o2 (by omega)]
        refine LR_take (Or.inr rfl) w2 ?_ (by rw [g1]; omega) ew
        rw [wdsM_len]; omega
