/-! BOTH CLASSES: ask -/
abbrev Prx (b : Nat) (j : Int) : Prop := ((b = 0 ∧ (j = 1 ∨ j = 17)) ∨ (44 ≤ b ∧ b ≤ 86) ∨ (b = 42 ∧ j = 1) ∨ b = 43 ∨ (b = 115 ∧ (j = 1 ∨ j = 2 ∨ j = 3 ∨ j = 4 ∨ j = 7 ∨ j = 8 ∨ j = 16 ∨ j = 19)) ∨ b = 122) ∨ ¬ SuA b j
theorem SIM_read {P : Nat → Int → Prop} {k : Int} {h h2 : PH} (s : SIM k h) (f : FrQ P h h2) (hP : ∀ b j, P b j → Prx b j) (x1 : S1 h2) (x3 : S3 h2) (x4 : S4 h2) : SIM (k + 1) h2 := by
  have f' : FrQ Prx h h2 := FrQ_mono hP f
  exact SIM_fr s f' (Or.inr x1) (Or.inl fun b j x y => y.elim (fun a => by clear y; simp only [Su2] at x; omega) (fun n => n (Or.inr (Or.inl x)))) (Or.inr x3) (Or.inr x4) (Or.inl fun b j x y => y.elim (fun a => by clear y; simp only [Su5] at x; omega) (fun n => n (Or.inr (Or.inr (Or.inr (Or.inr (Or.inl x))))))) (Or.inl fun b j x y => y.elim (fun a => by clear y; simp only [Su6] at x; omega) (fun n => n (Or.inr (Or.inr (Or.inr (Or.inr (Or.inr (Or.inl x)))))))) (Or.inl fun b j x y => y.elim (fun a => by clear y; simp only [Su7] at x; omega) (fun n => n (Or.inr (Or.inr (Or.inr (Or.inr (Or.inr (Or.inr (Or.inl x))))))))) (Or.inl fun b j x y => y.elim (fun a => by clear y; simp only [Su8] at x; omega) (fun n => n (Or.inr (Or.inr (Or.inr (Or.inr (Or.inr (Or.inr (Or.inr (Or.inl x)))))))))) (Or.inl fun b j x y => y.elim (fun a => by clear y; simp only [Su9] at x; omega) (fun n => n (Or.inr (Or.inr (Or.inr (Or.inr (Or.inr (Or.inr (Or.inr (Or.inr x))))))))))
theorem S1_mk {h h2 : PH} (s : S1 h) (e0 : gI h2 pMo 0 = gI h pMo 0) (e2 : gI h2 pHo 2 = gI h pHo 2) (t1 : gI h2 pHo_tape = gI h pHo_tape) (t2 : gI h2 pMo_tape = gI h pMo_tape) (e7 : 0 ≤ gI h2 pMo 7 ∧ gI h2 pMo 7 ≤ 400) (e1 : gI h2 pHo 1 = gI h2 pMo 7) : S1 h2 := by
  obtain ⟨a, b, c, d, e, f⟩ := s
  exact ⟨by rw [e0]; exact a, by rw [e0, e2]; exact b, e7, e1, by rw [t2]; exact e, by rw [t1, t2]; exact f⟩
theorem chR_P {h : PH} {n : Int} (e : gI h pHo_tape = gI h pMo_tape) : chR h n = chP h n := by
  funext j
  unfold chR chP
  rw [e]
theorem RDA_me {h h1 : PH} {n : Int} (e : MEq h h1) : RDA h1 n = RDA h n := by
  unfold RDA chP
  rw [MEq_arr e pMo_tape (by decide) (by decide), MEq_arr e pMo (by decide) (by decide)]
theorem seg_eq {g : Int → Int} {w : List Int} (e : ∀ k : Nat, k < w.length → g k = wf w k) : seg g 0 w.length = w := by
  apply List.ext_getElem
  · exact seg_len
  · intro i h1 h2
    have a := @seg_wf g w.length 0 i h2
    rw [show (0 : Int) + (i : Int) = i by omega, e i h2] at a
    have b : wf (seg g 0 w.length) i = (seg g 0 w.length)[i] := by
      show (seg g 0 w.length).getD ((i : Int)).toNat 0 = _
      rw [show ((i : Int)).toNat = i by omega, List.getD_eq_getElem?_getD, List.getElem?_eq_getElem h1]; rfl
    have c : wf w i = w[i] := by
      show w.getD ((i : Int)).toNat 0 = _
      rw [show ((i : Int)).toNat = i by omega, List.getD_eq_getElem?_getD, List.getElem?_eq_getElem h2]; rfl
    rw [← b, ← c, a]
theorem TP_of {k : Int} {h : PH} (s : SIM k h) : TP h := by
  obtain ⟨a, b, c, d, e, f⟩ := s.2.1
  exact ⟨c.2, a.1, a.2, e⟩
theorem TP_me {h h1 : PH} (e : MEq h h1) (x : TP h) : TP h1 := by
  unfold TP at x ⊢
  rw [MEq_arr e pMo_tape (by decide) (by decide), MEq_arr e pMo (by decide) (by decide)]
  exact x
theorem sim_ask {k : Int} {h : PH} (s : SIM k h) {n : Int} : SimP Ct_Ho_ask Ct_Mo_ask [.inl n] k h := by
  obtain ⟨l1, l2, t1, t2, t3, t4⟩ := s.2.1
  obtain ⟨a1, a2, a3, a4⟩ := ak_of s
  have tp := TP_of s
  refine ⟨rfl, s.1.1, by omega, by omega, by omega, by omega, fun z => ⟨_, rfl, s.1.2, rfl, s.1.2, tp, fun h2 v f2 e4 r1 r2 => ?_⟩, fun n0 n1 h1 R hR f1 e1 => ?_⟩
  · have nt : ¬ isTx (sI h pHo 17 1) n := fun y => z ⟨y.1, by have := y.2.1; have e : gI (sI h pHo 17 1) pMo 7 = gI h pMo 7 := rfl; omega⟩
    obtain ⟨⟨rv, ra, rb⟩, r16, ras⟩ := r1 nt
    have e7' : gI (sI h pHo 17 1) pMo 7 = gI h pMo 7 := rfl
    obtain ⟨b1, b2, b3, b4⟩ := ra (by rw [e7']; omega)
    refine ⟨by rw [rv], ?_⟩
    have f0 : FrQ Pno h (sI h pHo 17 1) := FrQ_sI (by decide) (FrQ_refl Pno h)
    have f := FrQ_two f0 (FrQ_of f2)
    have fn : ∀ b j, b < 115 ∨ 154 ≤ b → gI h2 b j = gI (sI h pHo 17 1) b j := fun b j hb => f2.1 b j (by simp only [Pak, Prt, Prd, pHo, pHo_tape, pWs, pWs_e, pWs_0, pWs_0_c, pSs, pSs_e, pSs_0, pSs_0_c, pAsk, pAsk_c, pRe, pRe_sums, pRe_firsts, pAtom, pAtom_c, pRaised, pRaised_c, pSum0, pSum0_c, pFirst0, pFirst0_c, pTa, pTa_cells, pTa_numbers, pTa_done, pTa_order, pTa_spare, pTa_parents, pTa_melting, pFi, pWa, pWa_queue, pWa_origins, pWa_vias, pWa_lengths, pWa_seen, pSingle, pSingle_c, pHo_told, pLo, pLo_cells, pLo_kept, pLo_keptRows, pLo_names, pLo_met, pSh, pSh_cells, pSh_seen, pSh_queue, pMo, pMo_tape, pMo_text, pMo_words, pMo_wordSize, pMo_subs, pMo_subSize, pMo_asked, pMo_pile, pMo_pileSize, pMo_opened, pMo_openedAt, pMo_begun, pMo_cells, pMo_keptCells, pMo_name, pMo_isLeft, pMo_isDone, pMo_keptLeft, pMo_keptDone, pMo_state, pMo_keptState, pMo_newOf, pMo_oldOf, pMo_spare, pMo_spareDone, pMo_out, pMo_metFrom, pMo_metBy, pMo_far, pMo_low, pMo_lows, pMo_lowSize, pMo_triedRow, pMo_triedColumn, pMo_triedValue, pMo_triedRows, pMo_sheet, pLong, pKt, pKt_cells, pKt_numbers, pKt_done, pKt_order, pKt_spare, pKt_parents, pKt_melting]; omega)
    refine SIM_read s f (by intro b j x; simp only [Pno, Pak, Prt, Prd, pHo, pHo_tape, pWs, pWs_e, pWs_0, pWs_0_c, pSs, pSs_e, pSs_0, pSs_0_c, pAsk, pAsk_c, pRe, pRe_sums, pRe_firsts, pAtom, pAtom_c, pRaised, pRaised_c, pSum0, pSum0_c, pFirst0, pFirst0_c, pTa, pTa_cells, pTa_numbers, pTa_done, pTa_order, pTa_spare, pTa_parents, pTa_melting, pFi, pWa, pWa_queue, pWa_origins, pWa_vias, pWa_lengths, pWa_seen, pSingle, pSingle_c, pHo_told, pLo, pLo_cells, pLo_kept, pLo_keptRows, pLo_names, pLo_met, pSh, pSh_cells, pSh_seen, pSh_queue, pMo, pMo_tape, pMo_text, pMo_words, pMo_wordSize, pMo_subs, pMo_subSize, pMo_asked, pMo_pile, pMo_pileSize, pMo_opened, pMo_openedAt, pMo_begun, pMo_cells, pMo_keptCells, pMo_name, pMo_isLeft, pMo_isDone, pMo_keptLeft, pMo_keptDone, pMo_state, pMo_keptState, pMo_newOf, pMo_oldOf, pMo_spare, pMo_spareDone, pMo_out, pMo_metFrom, pMo_metBy, pMo_far, pMo_low, pMo_lows, pMo_lowSize, pMo_triedRow, pMo_triedColumn, pMo_triedValue, pMo_triedRows, pMo_sheet, pLong, pKt, pKt_cells, pKt_numbers, pKt_done, pKt_order, pKt_spare, pKt_parents, pKt_melting] at x; (repeat' (refine Or.elim x ?_ ?_ <;> clear x <;> intro x)) <;> first | exact Or.inl (by omega) | exact Or.inr (by simp only [SuA, Su1, Su2, Su3, Su4, Su5, Su6, Su7, Su8, Su9]; omega)) ?_ ?_ ?_
    · refine S1_mk s.2.1 ?_ ?_ ?_ ?_ ?_ ?_
      · rw [f2.1 pMo 0 (by simp (decide := true) [Pak, Prt, Prd])]; rfl
      · rw [fn pHo 2 (by decide)]; rfl
      · funext j; rw [fn pHo_tape j (by decide)]; rfl
      · funext j; rw [f2.1 pMo_tape j (by simp (decide := true) [Pak, Prt, Prd])]; rfl
      · rw [b4, e7']; exact t1
      · rw [b4, fn pHo 1 (by decide), e7']; exact t2
    · unfold S3 akW AK LL WR
      rw [f2.1 pMo 0 (by simp (decide := true) [Pak, Prt, Prd]), r16, ras, fn pAsk 1 (by decide), show gI h2 (pAsk + 1) = gI h (pAsk + 1) from funext fun j => fn _ j (by decide)]
      exact ⟨a1, a2⟩
    · refine ⟨?_, ?_, fun y => ?_, fun _ => b2⟩
      · rw [b3, fn pRe 9 (by decide)]; exact s.2.2.2.2.1.1
      · rw [b1, fn pHo 17 (by decide), gI_sI, if_pos ⟨rfl, rfl⟩]
      · rw [b1] at y; exact absurd y (by decide)
  have me : MEq h h1 := MEq_of f1 (by intro b j; simp only [Pha, Phr, Prq, Prr, Pw, pHo, pHo_tape, pWs, pWs_e, pWs_0, pWs_0_c, pSs, pSs_e, pSs_0, pSs_0_c, pAsk, pAsk_c, pRe, pRe_sums, pRe_firsts, pAtom, pAtom_c, pRaised, pRaised_c, pSum0, pSum0_c, pFirst0, pFirst0_c, pTa, pTa_cells, pTa_numbers, pTa_done, pTa_order, pTa_spare, pTa_parents, pTa_melting, pFi, pWa, pWa_queue, pWa_origins, pWa_vias, pWa_lengths, pWa_seen, pSingle, pSingle_c, pHo_told, pLo, pLo_cells, pLo_kept, pLo_keptRows, pLo_names, pLo_met, pSh, pSh_cells, pSh_seen, pSh_queue, pMo, pMo_tape, pMo_text, pMo_words, pMo_wordSize, pMo_subs, pMo_subSize, pMo_asked, pMo_pile, pMo_pileSize, pMo_opened, pMo_openedAt, pMo_begun, pMo_cells, pMo_keptCells, pMo_name, pMo_isLeft, pMo_isDone, pMo_keptLeft, pMo_keptDone, pMo_state, pMo_keptState, pMo_newOf, pMo_oldOf, pMo_spare, pMo_spareDone, pMo_out, pMo_metFrom, pMo_metBy, pMo_far, pMo_low, pMo_lows, pMo_lowSize, pMo_triedRow, pMo_triedColumn, pMo_triedValue, pMo_triedRows, pMo_sheet, pLong, pKt, pKt_cells, pKt_numbers, pKt_done, pKt_order, pKt_spare, pKt_parents, pKt_melting]; omega)
  have mw1 : MW h1 := FrQ_MW f1 s.1.2
  have eR : R = RDA h n := by rw [hR, chR_P t4, l2]; rfl
  have e7 : gI h1 pMo 7 = gI h pMo 7 := me pMo 7 (by decide) (by decide)
  have mn7 : 0 ≤ n ∧ n ≤ gI h1 pMo 7 := by omega
  have base : ∀ h2, FrP Pak h1 h2 → gI h2 pMo 7 = 0 → S1 h2 := by
    intro h2 f2 b4
    refine S1_mk s.2.1 ?_ ?_ ?_ ?_ ?_ ?_
    · rw [f2.1 pMo 0 (by simp (decide := true) [Pak, Prt, Prd])]; exact me pMo 0 (by decide) (by decide)
    · rw [f2.1 pHo 2 (by simp (decide := true) [Pak, Prt, Prd])]; exact f1.1 pHo 2 (by simp (decide := true) [Pha, Phr, Prq, Prr, Pw])
    · funext j; rw [f2.1 pHo_tape j (by simp (decide := true) [Pak, Prt, Prd])]; exact f1.1 pHo_tape j (by simp (decide := true) [Pha, Phr, Prq, Prr, Pw])
    · funext j; rw [f2.1 pMo_tape j (by simp (decide := true) [Pak, Prt, Prd])]; exact me pMo_tape j (by decide) (by decide)
    · rw [b4]; decide
    · rw [b4, f2.1 pHo 1 (by simp (decide := true) [Pak, Prt, Prd])]; exact e1
  have fr : ∀ h2, FrP Pak h1 h2 → S1 h2 → S3 h2 → S4 h2 → SIM (k + 1) h2 := fun h2 f2 x1 x3 x4 => SIM_read s (FrQ_two f1 (FrQ_of f2)) (by intro b j x; simp only [Pha, Phr, Prq, Prr, Pw, Pak, Prt, Prd, pHo, pHo_tape, pWs, pWs_e, pWs_0, pWs_0_c, pSs, pSs_e, pSs_0, pSs_0_c, pAsk, pAsk_c, pRe, pRe_sums, pRe_firsts, pAtom, pAtom_c, pRaised, pRaised_c, pSum0, pSum0_c, pFirst0, pFirst0_c, pTa, pTa_cells, pTa_numbers, pTa_done, pTa_order, pTa_spare, pTa_parents, pTa_melting, pFi, pWa, pWa_queue, pWa_origins, pWa_vias, pWa_lengths, pWa_seen, pSingle, pSingle_c, pHo_told, pLo, pLo_cells, pLo_kept, pLo_keptRows, pLo_names, pLo_met, pSh, pSh_cells, pSh_seen, pSh_queue, pMo, pMo_tape, pMo_text, pMo_words, pMo_wordSize, pMo_subs, pMo_subSize, pMo_asked, pMo_pile, pMo_pileSize, pMo_opened, pMo_openedAt, pMo_begun, pMo_cells, pMo_keptCells, pMo_name, pMo_isLeft, pMo_isDone, pMo_keptLeft, pMo_keptDone, pMo_state, pMo_keptState, pMo_newOf, pMo_oldOf, pMo_spare, pMo_spareDone, pMo_out, pMo_metFrom, pMo_metBy, pMo_far, pMo_low, pMo_lows, pMo_lowSize, pMo_triedRow, pMo_triedColumn, pMo_triedValue, pMo_triedRows, pMo_sheet, pLong, pKt, pKt_cells, pKt_numbers, pKt_done, pKt_order, pKt_spare, pKt_parents, pKt_melting] at x; (repeat' (refine Or.elim x ?_ ?_ <;> clear x <;> intro x)) <;> first | exact Or.inl (by omega) | exact Or.inr (by simp only [SuA, Su1, Su2, Su3, Su4, Su5, Su6, Su7, Su8, Su9]; omega)) x1 x3 x4
  have fn : ∀ h2, FrP Pak h1 h2 → ∀ b j, b < 115 ∨ 154 ≤ b → gI h2 b j = gI h1 b j := fun h2 f2 b j hb => f2.1 b j (by simp only [Pak, Prt, Prd, pHo, pHo_tape, pWs, pWs_e, pWs_0, pWs_0_c, pSs, pSs_e, pSs_0, pSs_0_c, pAsk, pAsk_c, pRe, pRe_sums, pRe_firsts, pAtom, pAtom_c, pRaised, pRaised_c, pSum0, pSum0_c, pFirst0, pFirst0_c, pTa, pTa_cells, pTa_numbers, pTa_done, pTa_order, pTa_spare, pTa_parents, pTa_melting, pFi, pWa, pWa_queue, pWa_origins, pWa_vias, pWa_lengths, pWa_seen, pSingle, pSingle_c, pHo_told, pLo, pLo_cells, pLo_kept, pLo_keptRows, pLo_names, pLo_met, pSh, pSh_cells, pSh_seen, pSh_queue, pMo, pMo_tape, pMo_text, pMo_words, pMo_wordSize, pMo_subs, pMo_subSize, pMo_asked, pMo_pile, pMo_pileSize, pMo_opened, pMo_openedAt, pMo_begun, pMo_cells, pMo_keptCells, pMo_name, pMo_isLeft, pMo_isDone, pMo_keptLeft, pMo_keptDone, pMo_state, pMo_keptState, pMo_newOf, pMo_oldOf, pMo_spare, pMo_spareDone, pMo_out, pMo_metFrom, pMo_metBy, pMo_far, pMo_low, pMo_lows, pMo_lowSize, pMo_triedRow, pMo_triedColumn, pMo_triedValue, pMo_triedRows, pMo_sheet, pLong, pKt, pKt_cells, pKt_numbers, pKt_done, pKt_order, pKt_spare, pKt_parents, pKt_melting]; omega)
  refine ⟨fun c0 wr ri c1 c2 c3 => ⟨_, rfl, mw1, rfl, mw1, TP_me me tp, fun h2 v f2 e4 r1 r2 => ?_⟩, fun c0 g1 g2 c1 c2 c3 => ⟨_, rfl, mw1, rfl, mw1, TP_me me tp, fun h2 v f2 e4 r1 r2 => ?_⟩⟩
  · have tx : isTx h1 n := ⟨mn7.1, mn7.2, by rw [RDA_me me, ← eR]; exact c0⟩
    have ew : txW h1 n = rpl R.2.2 0 := by unfold txW; rw [RDA_me me, eR]
    obtain ⟨d1, d2, d3, d4, d5, d6, d7, d8⟩ := r2 tx
    rw [ew] at d1 d6 d7 d8
    refine ⟨by rw [d1], fr h2 f2 (base h2 f2 d5) ?_ ?_⟩
    · have e0 : gI h2 pMo 0 = gI h pMo 0 := by rw [f2.1 pMo 0 (by simp (decide := true) [Pak, Prt, Prd])]; exact me pMo 0 (by decide) (by decide)
      have ea : akW h2 = rpl R.2.2 0 := by
        unfold akW
        rw [d6, show ((rpl R.2.2 0).length : Int).toNat = (rpl R.2.2 0).length by omega]
        exact seg_eq d8
      refine ⟨?_, ?_⟩
      · rw [ea]
        unfold WR at wr ⊢
        rw [fn h2 f2 pAsk 1 (by decide), show gI h2 (pAsk + 1) = gI h1 (pAsk + 1) from funext fun j => fn h2 f2 _ j (by decide)]
        exact wr
      · unfold AK LL
        rw [d6, e0]
        have e0' := me pMo 0 (by decide) (by decide)
        refine ⟨by omega, by have := d7.1; omega, fun i i0 i1 => ?_⟩
        have := d8 i.toNat (by omega)
        rw [show ((i.toNat : Nat) : Int) = i by omega] at this
        rw [this]
        have m := d7.2 (wf (rpl R.2.2 0) i) (by have := @wf_mem (rpl R.2.2 0) i.toNat (by omega); rw [show ((i.toNat : Nat) : Int) = i by omega] at this; exact this)
        rw [e0'] at m
        exact m
    · exact S4_ok (by rw [d4, fn h2 f2 pRe 9 (by decide)]; exact c1) (by rw [fn h2 f2 pHo 17 (by decide)]; exact c3) d2 d3
  · have nt : ¬ isTx h1 n := fun y => c0 (by rw [eR, ← RDA_me me]; exact y.2.2)
    obtain ⟨⟨rv, ra, rb⟩, r16, ras⟩ := r1 nt
    obtain ⟨b1, b2, b3, b4⟩ := rb mn7
    rw [RDA_me me, ← eR] at b2 b3
    refine ⟨by rw [rv], fr h2 f2 (base h2 f2 b4) ?_ ?_⟩
    · unfold S3 akW AK LL WR
      rw [f2.1 pMo 0 (by simp (decide := true) [Pak, Prt, Prd]), r16, ras, fn h2 f2 pAsk 1 (by decide), show gI h2 (pAsk + 1) = gI h1 (pAsk + 1) from funext fun j => fn h2 f2 _ j (by decide), me pMo 0 (by decide) (by decide), me pMo 16 (by decide) (by decide), MEq_arr me pMo_asked (by decide) (by decide), g1, g2]
      exact ⟨a1, a2⟩
    · refine ⟨?_, ?_, fun _ => ?_, fun y => absurd b1 y⟩
      · rw [b3, fn h2 f2 pRe 9 (by decide)]; exact c1
      · rw [b1, fn h2 f2 pHo 17 (by decide)]; exact c3
      · rw [b2, fn h2 f2 pRe 10 (by decide)]; exact c2
