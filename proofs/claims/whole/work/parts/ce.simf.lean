/-! BOTH CLASSES: keep -/
theorem mkA_cong {N N' : Int} {lf lf' : Int → Int} {e e' : Int → Int → Int} {dn dn' S S' : Int → Int} {m : Int} (hN : N' = N) (hl : ∀ x, 0 ≤ x → x < N → lf' x = lf x) (he : ∀ x c, 0 ≤ x → x < N → 0 ≤ c → c < 10 → e' x c = e x c) (hd : ∀ x, 0 ≤ x → x < N → dn' x = dn x) (hS : ∀ k, 0 ≤ k → k < 11 → S' k = S k) : mkA 10 N' lf' e' dn' S' m = mkA 10 N lf e dn S m := by
  subst hN
  have v : cV N' lf' = cV N' lf := by
    funext x
    unfold cV
    by_cases q : 0 ≤ x ∧ x < N'
    · rw [hl x q.1 q.2]
    · rw [if_neg (fun z => q ⟨z.1, z.2.1⟩), if_neg (fun z => q ⟨z.1, z.2.1⟩)]
  have vr : ∀ x, cV N' lf x ≠ 0 → 0 ≤ x ∧ x < N' := fun x hx => by
    unfold cV at hx
    by_cases q : 0 ≤ x ∧ x < N' ∧ lf x ≠ 0
    · exact ⟨q.1, q.2.1⟩
    · exact absurd (if_neg q) hx
  unfold mkA
  rw [v]
  refine Prod.ext rfl (Prod.ext (funext fun x => funext fun c => ?_) (Prod.ext (funext fun x => ?_) (Prod.ext (funext fun k => ?_) rfl)))
  · show kE 10 _ e' x c = kE 10 _ e x c
    unfold kE
    by_cases q : cV N' lf x ≠ 0 ∧ 0 ≤ c ∧ c < 10
    · rw [if_pos q, if_pos q]
      have := vr x q.1
      exact he x c this.1 this.2 q.2.1 q.2.2
    · rw [if_neg q, if_neg q]
  · show cD _ dn' x = cD _ dn x
    unfold cD
    by_cases q : cV N' lf x ≠ 0
    · have := vr x q
      rw [hd x this.1 this.2]
    · rw [if_neg (fun z => q z.1), if_neg (fun z => q z.1)]
  · show cS S' k = cS S k
    unfold cS
    by_cases q : 0 ≤ k ∧ k < 11
    · rw [if_pos q, if_pos q, hS k q.1 q.2]
    · rw [if_neg q, if_neg q]
theorem TaK_M {h : PH} {L : Int} {a b : AT} (e : aV a = aV b ∧ aE a = aE b ∧ aD a = aD b ∧ aS a = aS b) (x : TaK h L a) : TaK h L b := by
  unfold TaK TaG TgS TgE VV at x ⊢
  rw [← e.1, ← e.2.1, ← e.2.2.1, ← e.2.2.2]
  exact x
theorem TS_M {k L m : Int} {a : AT} (x : TS k L a) (m0 : m = 0 ∨ m = -1) : TS k L (setM a m) := by
  obtain ⟨x1, x2, Q, x3, x4, x5⟩ := x
  refine ⟨x1, x2, Q, x3, x4, WT_setM x5 (by omega) ?_⟩
  have := x5.2.2.2.2.1
  omega
theorem MW_of {h h1 : PH} (n : 154 ≤ hN h1) (e : ∀ j, gR h1 pMo j = gR h pMo j) (w : MW h) : MW h1 := by
  unfold MW at w ⊢
  simp only [e]
  exact ⟨n, w.2⟩
abbrev Pkk (b : Nat) (j : Int) : Prop := ((b = 0 ∧ (j = 12 ∨ j = 17)) ∨ 154 ≤ b) ∨ PK b j
theorem keep_core {k : Int} {h h1 h2 : PH} (s : SIM k h) (hk : k ≤ 600) (z : gI h pMo 32 ≠ 0) (kp : KPR h h1) (f2 : FrP PK h1 h2) (gd : gdH h2) (e33 : gI h2 pMo 33 = 1) (e1 : ∀ j, 0 ≤ j → j < 20000 → gI h2 pMo_keptCells j = gI h1 pMo_cells j) (e2 : ∀ j, 0 ≤ j → j < 2000 → gI h2 pMo_keptLeft j = gI h1 pMo_isLeft j ∧ gI h2 pMo_keptDone j = gI h1 pMo_isDone j) (e3 : ∀ j, 0 ≤ j → j < 11 → gI h2 pMo_keptState j = gI h1 pMo_state j) : SIM (k + 1) h2 := by
  obtain ⟨cw1, ckt1, r11, ints, refs, p12, p17, tk, bd⟩ := kp
  have me : MEq h h1 := fun b j b0 b1 => ints b j b1 (fun q => by have : b = 0 := q.1; omega)
  have mw1 : MW h1 := MW_of cw1.1 (fun j => refs pMo j (by decide) (fun q => absurd q.1 (by decide))) s.1.2
  have ag : ∀ b j, ¬ Pkk b j → gI h2 b j = gI h b j := fun b j q => by
    rw [f2.1 b j (fun y => q (Or.inr y)), ints b j (Nat.lt_of_not_le fun y => q (Or.inl (Or.inr y))) (fun y => q (Or.inl (Or.inl y)))]
  have f : FrQ Pkk h ((h2.1, h.2) : PH) := ⟨ag, fun _ _ _ => rfl, rfl, rfl, rfl⟩
  obtain ⟨-, s1, s2, s3, s4, s5, s6, s7, s8, s9⟩ := id s
  have fn : ∀ b j, b < 115 ∨ 154 ≤ b → gI h2 b j = gI h1 b j := fun b j hb => f2.1 b j (by simp only [PK, Po, pHo, pHo_tape, pWs, pWs_e, pWs_0, pWs_0_c, pSs, pSs_e, pSs_0, pSs_0_c, pAsk, pAsk_c, pRe, pRe_sums, pRe_firsts, pAtom, pAtom_c, pRaised, pRaised_c, pSum0, pSum0_c, pFirst0, pFirst0_c, pTa, pTa_cells, pTa_numbers, pTa_done, pTa_order, pTa_spare, pTa_parents, pTa_melting, pFi, pWa, pWa_queue, pWa_origins, pWa_vias, pWa_lengths, pWa_seen, pSingle, pSingle_c, pHo_told, pLo, pLo_cells, pLo_kept, pLo_keptRows, pLo_names, pLo_met, pSh, pSh_cells, pSh_seen, pSh_queue, pMo, pMo_tape, pMo_text, pMo_words, pMo_wordSize, pMo_subs, pMo_subSize, pMo_asked, pMo_pile, pMo_pileSize, pMo_opened, pMo_openedAt, pMo_begun, pMo_cells, pMo_keptCells, pMo_name, pMo_isLeft, pMo_isDone, pMo_keptLeft, pMo_keptDone, pMo_state, pMo_keptState, pMo_newOf, pMo_oldOf, pMo_spare, pMo_spareDone, pMo_out, pMo_metFrom, pMo_metBy, pMo_far, pMo_low, pMo_lows, pMo_lowSize, pMo_triedRow, pMo_triedColumn, pMo_triedValue, pMo_triedRows, pMo_sheet, pLong, pKt, pKt_cells, pKt_numbers, pKt_done, pKt_order, pKt_spare, pKt_parents, pKt_melting]; omega)
  have eL : LL h2 = LL h := by show 2 * gI h2 pMo 0 = 2 * gI h pMo 0; rw [ag pMo 0 (by simp only [Pkk, PK, Po, pHo, pHo_tape, pWs, pWs_e, pWs_0, pWs_0_c, pSs, pSs_e, pSs_0, pSs_0_c, pAsk, pAsk_c, pRe, pRe_sums, pRe_firsts, pAtom, pAtom_c, pRaised, pRaised_c, pSum0, pSum0_c, pFirst0, pFirst0_c, pTa, pTa_cells, pTa_numbers, pTa_done, pTa_order, pTa_spare, pTa_parents, pTa_melting, pFi, pWa, pWa_queue, pWa_origins, pWa_vias, pWa_lengths, pWa_seen, pSingle, pSingle_c, pHo_told, pLo, pLo_cells, pLo_kept, pLo_keptRows, pLo_names, pLo_met, pSh, pSh_cells, pSh_seen, pSh_queue, pMo, pMo_tape, pMo_text, pMo_words, pMo_wordSize, pMo_subs, pMo_subSize, pMo_asked, pMo_pile, pMo_pileSize, pMo_opened, pMo_openedAt, pMo_begun, pMo_cells, pMo_keptCells, pMo_name, pMo_isLeft, pMo_isDone, pMo_keptLeft, pMo_keptDone, pMo_state, pMo_keptState, pMo_newOf, pMo_oldOf, pMo_spare, pMo_spareDone, pMo_out, pMo_metFrom, pMo_metBy, pMo_far, pMo_low, pMo_lows, pMo_lowSize, pMo_triedRow, pMo_triedColumn, pMo_triedValue, pMo_triedRows, pMo_sheet, pLong, pKt, pKt_cells, pKt_numbers, pKt_done, pKt_order, pKt_spare, pKt_parents, pKt_melting]; omega)]
  obtain ⟨Q, q0, q1, tx, tr, fu, a5, a6⟩ := TX_of s hk z
  have N0 : 0 ≤ gI h pMo_state 0 ∧ gI h pMo_state 0 ≤ 2000 := by have := tx.2.2.1.2.2.2.2.1; rw [aS_atM (by decide) (by decide)] at this; omega
  have ea : akM h2 = setM (atM h) (-1) := by
    show mkA 10 _ _ _ _ _ (-1) = mkA 10 _ _ _ _ _ (-1)
    refine mkA_cong ?_ (fun x x0 x1 => ?_) (fun x c x0 x1 c0 c1 => ?_) (fun x x0 x1 => ?_) (fun i i0 i1 => ?_)
    · rw [e3 0 (by decide) (by decide), me pMo_state 0 (by decide) (by decide)]
    · rw [(e2 x x0 (by omega)).1, me pMo_isLeft x (by decide) (by decide)]
    · show gI h2 pMo_keptCells (10 * x + c) = gI h pMo_cells (10 * x + c)
      rw [e1 _ (by omega) (by omega), me pMo_cells _ (by decide) (by decide)]
    · rw [(e2 x x0 (by omega)).2, me pMo_isDone x (by decide) (by decide)]
    · rw [e3 i i0 i1, me pMo_state i (by decide) (by decide)]
  have d1 : ∀ b j, Su1 b j → ¬ Pkk b j := by intro b j; simp only [Su1, Pkk, PK, Po, pHo, pHo_tape, pWs, pWs_e, pWs_0, pWs_0_c, pSs, pSs_e, pSs_0, pSs_0_c, pAsk, pAsk_c, pRe, pRe_sums, pRe_firsts, pAtom, pAtom_c, pRaised, pRaised_c, pSum0, pSum0_c, pFirst0, pFirst0_c, pTa, pTa_cells, pTa_numbers, pTa_done, pTa_order, pTa_spare, pTa_parents, pTa_melting, pFi, pWa, pWa_queue, pWa_origins, pWa_vias, pWa_lengths, pWa_seen, pSingle, pSingle_c, pHo_told, pLo, pLo_cells, pLo_kept, pLo_keptRows, pLo_names, pLo_met, pSh, pSh_cells, pSh_seen, pSh_queue, pMo, pMo_tape, pMo_text, pMo_words, pMo_wordSize, pMo_subs, pMo_subSize, pMo_asked, pMo_pile, pMo_pileSize, pMo_opened, pMo_openedAt, pMo_begun, pMo_cells, pMo_keptCells, pMo_name, pMo_isLeft, pMo_isDone, pMo_keptLeft, pMo_keptDone, pMo_state, pMo_keptState, pMo_newOf, pMo_oldOf, pMo_spare, pMo_spareDone, pMo_out, pMo_metFrom, pMo_metBy, pMo_far, pMo_low, pMo_lows, pMo_lowSize, pMo_triedRow, pMo_triedColumn, pMo_triedValue, pMo_triedRows, pMo_sheet, pLong, pKt, pKt_cells, pKt_numbers, pKt_done, pKt_order, pKt_spare, pKt_parents, pKt_melting]; omega
  have d2 : ∀ b j, Su2 b j → ¬ Pkk b j := by intro b j; simp only [Su2, Pkk, PK, Po, pHo, pHo_tape, pWs, pWs_e, pWs_0, pWs_0_c, pSs, pSs_e, pSs_0, pSs_0_c, pAsk, pAsk_c, pRe, pRe_sums, pRe_firsts, pAtom, pAtom_c, pRaised, pRaised_c, pSum0, pSum0_c, pFirst0, pFirst0_c, pTa, pTa_cells, pTa_numbers, pTa_done, pTa_order, pTa_spare, pTa_parents, pTa_melting, pFi, pWa, pWa_queue, pWa_origins, pWa_vias, pWa_lengths, pWa_seen, pSingle, pSingle_c, pHo_told, pLo, pLo_cells, pLo_kept, pLo_keptRows, pLo_names, pLo_met, pSh, pSh_cells, pSh_seen, pSh_queue, pMo, pMo_tape, pMo_text, pMo_words, pMo_wordSize, pMo_subs, pMo_subSize, pMo_asked, pMo_pile, pMo_pileSize, pMo_opened, pMo_openedAt, pMo_begun, pMo_cells, pMo_keptCells, pMo_name, pMo_isLeft, pMo_isDone, pMo_keptLeft, pMo_keptDone, pMo_state, pMo_keptState, pMo_newOf, pMo_oldOf, pMo_spare, pMo_spareDone, pMo_out, pMo_metFrom, pMo_metBy, pMo_far, pMo_low, pMo_lows, pMo_lowSize, pMo_triedRow, pMo_triedColumn, pMo_triedValue, pMo_triedRows, pMo_sheet, pLong, pKt, pKt_cells, pKt_numbers, pKt_done, pKt_order, pKt_spare, pKt_parents, pKt_melting]; omega
  have d3 : ∀ b j, Su3 b j → ¬ Pkk b j := by intro b j; simp only [Su3, Pkk, PK, Po, pHo, pHo_tape, pWs, pWs_e, pWs_0, pWs_0_c, pSs, pSs_e, pSs_0, pSs_0_c, pAsk, pAsk_c, pRe, pRe_sums, pRe_firsts, pAtom, pAtom_c, pRaised, pRaised_c, pSum0, pSum0_c, pFirst0, pFirst0_c, pTa, pTa_cells, pTa_numbers, pTa_done, pTa_order, pTa_spare, pTa_parents, pTa_melting, pFi, pWa, pWa_queue, pWa_origins, pWa_vias, pWa_lengths, pWa_seen, pSingle, pSingle_c, pHo_told, pLo, pLo_cells, pLo_kept, pLo_keptRows, pLo_names, pLo_met, pSh, pSh_cells, pSh_seen, pSh_queue, pMo, pMo_tape, pMo_text, pMo_words, pMo_wordSize, pMo_subs, pMo_subSize, pMo_asked, pMo_pile, pMo_pileSize, pMo_opened, pMo_openedAt, pMo_begun, pMo_cells, pMo_keptCells, pMo_name, pMo_isLeft, pMo_isDone, pMo_keptLeft, pMo_keptDone, pMo_state, pMo_keptState, pMo_newOf, pMo_oldOf, pMo_spare, pMo_spareDone, pMo_out, pMo_metFrom, pMo_metBy, pMo_far, pMo_low, pMo_lows, pMo_lowSize, pMo_triedRow, pMo_triedColumn, pMo_triedValue, pMo_triedRows, pMo_sheet, pLong, pKt, pKt_cells, pKt_numbers, pKt_done, pKt_order, pKt_spare, pKt_parents, pKt_melting]; omega
  have d5 : ∀ b j, Su5 b j → ¬ Pkk b j := by intro b j; simp only [Su5, Pkk, PK, Po, pHo, pHo_tape, pWs, pWs_e, pWs_0, pWs_0_c, pSs, pSs_e, pSs_0, pSs_0_c, pAsk, pAsk_c, pRe, pRe_sums, pRe_firsts, pAtom, pAtom_c, pRaised, pRaised_c, pSum0, pSum0_c, pFirst0, pFirst0_c, pTa, pTa_cells, pTa_numbers, pTa_done, pTa_order, pTa_spare, pTa_parents, pTa_melting, pFi, pWa, pWa_queue, pWa_origins, pWa_vias, pWa_lengths, pWa_seen, pSingle, pSingle_c, pHo_told, pLo, pLo_cells, pLo_kept, pLo_keptRows, pLo_names, pLo_met, pSh, pSh_cells, pSh_seen, pSh_queue, pMo, pMo_tape, pMo_text, pMo_words, pMo_wordSize, pMo_subs, pMo_subSize, pMo_asked, pMo_pile, pMo_pileSize, pMo_opened, pMo_openedAt, pMo_begun, pMo_cells, pMo_keptCells, pMo_name, pMo_isLeft, pMo_isDone, pMo_keptLeft, pMo_keptDone, pMo_state, pMo_keptState, pMo_newOf, pMo_oldOf, pMo_spare, pMo_spareDone, pMo_out, pMo_metFrom, pMo_metBy, pMo_far, pMo_low, pMo_lows, pMo_lowSize, pMo_triedRow, pMo_triedColumn, pMo_triedValue, pMo_triedRows, pMo_sheet, pLong, pKt, pKt_cells, pKt_numbers, pKt_done, pKt_order, pKt_spare, pKt_parents, pKt_melting]; omega
  have d7 : ∀ b j, Su7 b j → ¬ Pkk b j := by intro b j; simp only [Su7, Pkk, PK, Po, pHo, pHo_tape, pWs, pWs_e, pWs_0, pWs_0_c, pSs, pSs_e, pSs_0, pSs_0_c, pAsk, pAsk_c, pRe, pRe_sums, pRe_firsts, pAtom, pAtom_c, pRaised, pRaised_c, pSum0, pSum0_c, pFirst0, pFirst0_c, pTa, pTa_cells, pTa_numbers, pTa_done, pTa_order, pTa_spare, pTa_parents, pTa_melting, pFi, pWa, pWa_queue, pWa_origins, pWa_vias, pWa_lengths, pWa_seen, pSingle, pSingle_c, pHo_told, pLo, pLo_cells, pLo_kept, pLo_keptRows, pLo_names, pLo_met, pSh, pSh_cells, pSh_seen, pSh_queue, pMo, pMo_tape, pMo_text, pMo_words, pMo_wordSize, pMo_subs, pMo_subSize, pMo_asked, pMo_pile, pMo_pileSize, pMo_opened, pMo_openedAt, pMo_begun, pMo_cells, pMo_keptCells, pMo_name, pMo_isLeft, pMo_isDone, pMo_keptLeft, pMo_keptDone, pMo_state, pMo_keptState, pMo_newOf, pMo_oldOf, pMo_spare, pMo_spareDone, pMo_out, pMo_metFrom, pMo_metBy, pMo_far, pMo_low, pMo_lows, pMo_lowSize, pMo_triedRow, pMo_triedColumn, pMo_triedValue, pMo_triedRows, pMo_sheet, pLong, pKt, pKt_cells, pKt_numbers, pKt_done, pKt_order, pKt_spare, pKt_parents, pKt_melting]; omega
  have d8 : ∀ b j, Su8 b j → ¬ Pkk b j := by intro b j; simp only [Su8, Pkk, PK, Po, pHo, pHo_tape, pWs, pWs_e, pWs_0, pWs_0_c, pSs, pSs_e, pSs_0, pSs_0_c, pAsk, pAsk_c, pRe, pRe_sums, pRe_firsts, pAtom, pAtom_c, pRaised, pRaised_c, pSum0, pSum0_c, pFirst0, pFirst0_c, pTa, pTa_cells, pTa_numbers, pTa_done, pTa_order, pTa_spare, pTa_parents, pTa_melting, pFi, pWa, pWa_queue, pWa_origins, pWa_vias, pWa_lengths, pWa_seen, pSingle, pSingle_c, pHo_told, pLo, pLo_cells, pLo_kept, pLo_keptRows, pLo_names, pLo_met, pSh, pSh_cells, pSh_seen, pSh_queue, pMo, pMo_tape, pMo_text, pMo_words, pMo_wordSize, pMo_subs, pMo_subSize, pMo_asked, pMo_pile, pMo_pileSize, pMo_opened, pMo_openedAt, pMo_begun, pMo_cells, pMo_keptCells, pMo_name, pMo_isLeft, pMo_isDone, pMo_keptLeft, pMo_keptDone, pMo_state, pMo_keptState, pMo_newOf, pMo_oldOf, pMo_spare, pMo_spareDone, pMo_out, pMo_metFrom, pMo_metBy, pMo_far, pMo_low, pMo_lows, pMo_lowSize, pMo_triedRow, pMo_triedColumn, pMo_triedValue, pMo_triedRows, pMo_sheet, pLong, pKt, pKt_cells, pKt_numbers, pKt_done, pKt_order, pKt_spare, pKt_parents, pKt_melting]; omega
  have d9 : ∀ b j, Su9 b j → ¬ Pkk b j := by intro b j; simp only [Su9, Pkk, PK, Po, pHo, pHo_tape, pWs, pWs_e, pWs_0, pWs_0_c, pSs, pSs_e, pSs_0, pSs_0_c, pAsk, pAsk_c, pRe, pRe_sums, pRe_firsts, pAtom, pAtom_c, pRaised, pRaised_c, pSum0, pSum0_c, pFirst0, pFirst0_c, pTa, pTa_cells, pTa_numbers, pTa_done, pTa_order, pTa_spare, pTa_parents, pTa_melting, pFi, pWa, pWa_queue, pWa_origins, pWa_vias, pWa_lengths, pWa_seen, pSingle, pSingle_c, pHo_told, pLo, pLo_cells, pLo_kept, pLo_keptRows, pLo_names, pLo_met, pSh, pSh_cells, pSh_seen, pSh_queue, pMo, pMo_tape, pMo_text, pMo_words, pMo_wordSize, pMo_subs, pMo_subSize, pMo_asked, pMo_pile, pMo_pileSize, pMo_opened, pMo_openedAt, pMo_begun, pMo_cells, pMo_keptCells, pMo_name, pMo_isLeft, pMo_isDone, pMo_keptLeft, pMo_keptDone, pMo_state, pMo_keptState, pMo_newOf, pMo_oldOf, pMo_spare, pMo_spareDone, pMo_out, pMo_metFrom, pMo_metBy, pMo_far, pMo_low, pMo_lows, pMo_lowSize, pMo_triedRow, pMo_triedColumn, pMo_triedValue, pMo_triedRows, pMo_sheet, pLong, pKt, pKt_cells, pKt_numbers, pKt_done, pKt_order, pKt_spare, pKt_parents, pKt_melting]; omega
  refine ⟨⟨FrP_CW f2 cw1, FrQ_MW (FrQ_of f2) mw1⟩, S1_fr (h' := ((h2.1, h.2) : PH)) f d1 s1, S2_fr (h' := ((h2.1, h.2) : PH)) f d2 s2, S3_fr (h' := ((h2.1, h.2) : PH)) f d3 s3, ?_, S5_fr (h' := ((h2.1, h.2) : PH)) (k' := k + 1) (by omega) f d5 s5, ?_, S7_fr (h' := ((h2.1, h.2) : PH)) f d7 s7, S8_fr (h' := ((h2.1, h.2) : PH)) f d8 s8, S9_fr (h' := ((h2.1, h.2) : PH)) f d9 s9⟩
  · exact S4_ok (by rw [ag pRe 9 (by simp only [Pkk, PK, Po, pHo, pHo_tape, pWs, pWs_e, pWs_0, pWs_0_c, pSs, pSs_e, pSs_0, pSs_0_c, pAsk, pAsk_c, pRe, pRe_sums, pRe_firsts, pAtom, pAtom_c, pRaised, pRaised_c, pSum0, pSum0_c, pFirst0, pFirst0_c, pTa, pTa_cells, pTa_numbers, pTa_done, pTa_order, pTa_spare, pTa_parents, pTa_melting, pFi, pWa, pWa_queue, pWa_origins, pWa_vias, pWa_lengths, pWa_seen, pSingle, pSingle_c, pHo_told, pLo, pLo_cells, pLo_kept, pLo_keptRows, pLo_names, pLo_met, pSh, pSh_cells, pSh_seen, pSh_queue, pMo, pMo_tape, pMo_text, pMo_words, pMo_wordSize, pMo_subs, pMo_subSize, pMo_asked, pMo_pile, pMo_pileSize, pMo_opened, pMo_openedAt, pMo_begun, pMo_cells, pMo_keptCells, pMo_name, pMo_isLeft, pMo_isDone, pMo_keptLeft, pMo_keptDone, pMo_state, pMo_keptState, pMo_newOf, pMo_oldOf, pMo_spare, pMo_spareDone, pMo_out, pMo_metFrom, pMo_metBy, pMo_far, pMo_low, pMo_lows, pMo_lowSize, pMo_triedRow, pMo_triedColumn, pMo_triedValue, pMo_triedRows, pMo_sheet, pLong, pKt, pKt_cells, pKt_numbers, pKt_done, pKt_order, pKt_spare, pKt_parents, pKt_melting]; omega), ag pMo 3 (by simp only [Pkk, PK, Po, pHo, pHo_tape, pWs, pWs_e, pWs_0, pWs_0_c, pSs, pSs_e, pSs_0, pSs_0_c, pAsk, pAsk_c, pRe, pRe_sums, pRe_firsts, pAtom, pAtom_c, pRaised, pRaised_c, pSum0, pSum0_c, pFirst0, pFirst0_c, pTa, pTa_cells, pTa_numbers, pTa_done, pTa_order, pTa_spare, pTa_parents, pTa_melting, pFi, pWa, pWa_queue, pWa_origins, pWa_vias, pWa_lengths, pWa_seen, pSingle, pSingle_c, pHo_told, pLo, pLo_cells, pLo_kept, pLo_keptRows, pLo_names, pLo_met, pSh, pSh_cells, pSh_seen, pSh_queue, pMo, pMo_tape, pMo_text, pMo_words, pMo_wordSize, pMo_subs, pMo_subSize, pMo_asked, pMo_pile, pMo_pileSize, pMo_opened, pMo_openedAt, pMo_begun, pMo_cells, pMo_keptCells, pMo_name, pMo_isLeft, pMo_isDone, pMo_keptLeft, pMo_keptDone, pMo_state, pMo_keptState, pMo_newOf, pMo_oldOf, pMo_spare, pMo_spareDone, pMo_out, pMo_metFrom, pMo_metBy, pMo_far, pMo_low, pMo_lows, pMo_lowSize, pMo_triedRow, pMo_triedColumn, pMo_triedValue, pMo_triedRows, pMo_sheet, pLong, pKt, pKt_cells, pKt_numbers, pKt_done, pKt_order, pKt_spare, pKt_parents, pKt_melting]; omega)]; exact s4.1) (by rw [fn pHo 17 (by decide)]; exact p17) gd.1 gd.2.1
  · have r2 : gR h2 pHo 11 = some pKt := (f2.2.1 pHo 11).trans r11
    refine ⟨fun j j0 j1 => ?_, ⟨fun y => ?_, fun y => ?_⟩, fun _ => ⟨r2, ?_, ?_, ?_⟩, fun y => ?_⟩
    · rw [(e2 j j0 j1).1, (e2 j j0 j1).2, me pMo_isLeft j (by decide) (by decide), me pMo_isDone j (by decide) (by decide)]
      exact s5.1 j
    · rw [fn pHo 12 (by decide), p12] at y; exact absurd y (by decide)
    · rw [e33] at y; exact absurd y (by decide)
    · have : gI h2 pKt_done = gI h1 pKt_done := funext fun j => fn _ j (by decide)
      rw [this]; exact bd
    · rw [eL, ea]
      have t1 := TaK_M (b := setM (atM h) (-1)) ⟨rfl, rfl, rfl, rfl⟩ (tk (LL h) (atM h) tx.2.1.2 tr)
      have en : ∀ b, 154 ≤ b → gI h2 b = gI h1 b := fun b hb => funext fun j => fn b j (Or.inr hb)
      unfold TaK at t1 ⊢
      rw [en pKt (by decide), en pKt_cells (by decide), en pKt_numbers (by decide), en pKt_done (by decide), en pKt_order (by decide), en pKt_spare (by decide), en pKt_parents (by decide)]
      exact t1
    · rw [eL, ea]
      exact TS_M ⟨fu, by omega, Q, q0, by omega, tx.2.2.1⟩ (Or.inr rfl)
    · rw [r2] at y; cases y
theorem BB_me {h h1 : PH} (e : MEq h h1) (x : BB h) : BB h1 := BB_of (MEq_arr e pMo_isLeft (by decide) (by decide)) (MEq_arr e pMo_isDone (by decide) (by decide)) x
theorem keep_mo {k : Int} {h h1 : PH} (s : SIM k h) (hk : k ≤ 600) (z : gI h pMo 32 ≠ 0) (kp : KPR h h1) : ∃ v, (some (.inl 1) : Option PV) = some (.inl v) ∧ MW h1 ∧ Ct_Mo_keep [.inr (.inl (some pMo))] h1 (fun r' h2 => r' = some (.inl v) ∧ SIM (k + 1) h2) := by
  have me : MEq h h1 := fun b j b0 b1 => kp.2.2.2.1 b j b1 (fun q => by have : b = 0 := q.1; omega)
  have mw1 : MW h1 := MW_of kp.1.1 (fun j => kp.2.2.2.2.1 pMo j (by decide) (fun q => absurd q.1 (by decide))) s.1.2
  exact ⟨1, rfl, mw1, rfl, mw1, BB_me me s.2.2.2.2.2.1.1, fun y => absurd ((me pMo 32 (by decide) (by decide)).symm.trans y) z, fun _ h2 f2 gd e33 e1 e2 e3 => ⟨rfl, keep_core s hk z kp f2 gd e33 e1 e2 e3⟩⟩
theorem sim_keep1 {k : Int} {h : PH} (s : SIM k h) (hk : k ≤ 600) (z1 : gI h pHo 10 ≠ 0) (z2 : gR h pHo 11 = none) : SimP Ct_Ho_keep Ct_Mo_keep [] k h := by
  have z' : gI h pMo 32 ≠ 0 := fun y => z1 ((ht_iff s).mpr y)
  have s5 := s.2.2.2.2.2.1
  exact ⟨rfl, s.1.1, z1, z2, s.2.2.2.2.2.2.1.2.2.2 z2, s5.2.2.1, s5.2.2.2.1, fun h1 kp _ => keep_mo s hk z' kp⟩
theorem sim_keep2 {k : Int} {h : PH} (s : SIM k h) (hk : k ≤ 600) (z : ¬ (gI h pHo 10 ≠ 0 ∧ gR h pHo 11 = none)) : SimP Ct_Ho_kep2 Ct_Mo_keep [] k h := by
  have s5 := s.2.2.2.2.2.1
  refine ⟨rfl, s.1.1, fun y => ⟨_, rfl, s.1.2, rfl, s.1.2, s5.1, fun _ => ⟨rfl, SIM_no s (by decide)⟩, fun q => absurd ((ht_iff s).mp y) q⟩, fun y => ?_⟩
  have z' : gI h pMo 32 ≠ 0 := fun q => y ((ht_iff s).mpr q)
  rcases s.1.1.2.2.2.2.2.2.2 with q | ⟨q1, q2⟩
  · exact absurd ⟨y, q⟩ z
  · exact ⟨q1, q2, s5.2.2.1, s5.2.2.2.1, fun h1 kp _ => keep_mo s hk z' kp⟩
