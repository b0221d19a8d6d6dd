/-! BOTH CLASSES: back -/
theorem hk_iff {k : Int} {h : PH} (s : SIM k h) : gI h pHo 12 = 0 ↔ gI h pMo 33 = 0 := s.2.2.2.2.2.2.1.2.1
theorem akM_me {h h1 : PH} (e : MEq h h1) : akM h1 = akM h := by
  unfold akM
  rw [MEq_arr e pMo_keptState (by decide) (by decide), MEq_arr e pMo_keptLeft (by decide) (by decide), MEq_arr e pMo_keptCells (by decide) (by decide), MEq_arr e pMo_keptDone (by decide) (by decide)]
theorem sim_back {k : Int} {h : PH} (s : SIM k h) (hk : k ≤ 600) (k0 : 0 ≤ k) : SimP Ct_Ho_back Ct_Mo_back [] k h := by
  have s6 := s.2.2.2.2.2.2.1
  refine ⟨rfl, s.1.1, fun z => ⟨_, rfl, s.1.2, rfl, s.1.2, fun _ => ⟨rfl, SIM_no s (by decide)⟩, fun y => absurd ((hk_iff s).mp z) y⟩, fun z => ?_⟩
  have z' : gI h pMo 33 ≠ 0 := fun y => z ((hk_iff s).mpr y)
  obtain ⟨r11, bd, tk, ts⟩ := s6.2.2.1 z'
  have ckt : CKt h := by
    rcases s.1.1.2.2.2.2.2.2.2 with q | q
    · rw [q] at r11; cases r11
    · exact q.2
  have l1 := s.2.1.1
  have L10 : LL h ≤ 10 := by show 2 * _ ≤ 10; omega
  refine ⟨r11, ckt, bd, tk.1.2.2.2.2.2.2.2.2.2.1, fun h1 f1 t1 bd1 => ?_⟩
  have me : MEq h (sI (sI h1 pHo 10 1) pHo 17 0) := me_sI (me_sI (MEq_of (FrQ_of f1) (by intro b j; simp only [Pt, pHo, pHo_tape, pWs, pWs_e, pWs_0, pWs_0_c, pSs, pSs_e, pSs_0, pSs_0_c, pAsk, pAsk_c, pRe, pRe_sums, pRe_firsts, pAtom, pAtom_c, pRaised, pRaised_c, pSum0, pSum0_c, pFirst0, pFirst0_c, pTa, pTa_cells, pTa_numbers, pTa_done, pTa_order, pTa_spare, pTa_parents, pTa_melting, pFi, pWa, pWa_queue, pWa_origins, pWa_vias, pWa_lengths, pWa_seen, pSingle, pSingle_c, pHo_told, pLo, pLo_cells, pLo_kept, pLo_keptRows, pLo_names, pLo_met, pSh, pSh_cells, pSh_seen, pSh_queue, pMo, pMo_tape, pMo_text, pMo_words, pMo_wordSize, pMo_subs, pMo_subSize, pMo_asked, pMo_pile, pMo_pileSize, pMo_opened, pMo_openedAt, pMo_begun, pMo_cells, pMo_keptCells, pMo_name, pMo_isLeft, pMo_isDone, pMo_keptLeft, pMo_keptDone, pMo_state, pMo_keptState, pMo_newOf, pMo_oldOf, pMo_spare, pMo_spareDone, pMo_out, pMo_metFrom, pMo_metBy, pMo_far, pMo_low, pMo_lows, pMo_lowSize, pMo_triedRow, pMo_triedColumn, pMo_triedValue, pMo_triedRows, pMo_sheet, pLong, pKt, pKt_cells, pKt_numbers, pKt_done, pKt_order, pKt_spare, pKt_parents, pKt_melting]; omega)) (Or.inl (by decide))) (Or.inl (by decide))
  have mw1 : MW h1 := FrQ_MW (FrQ_of f1) s.1.2
  refine ⟨_, rfl, mw1, rfl, mw1, fun y => absurd ((me pMo 33 (by decide) (by decide)).symm.trans y) z', fun _ => ⟨fun j j0 j1 => by rw [me pMo_keptLeft j (by decide) (by decide), me pMo_keptDone j (by decide) (by decide)]; exact s6.1 j j0 j1, fun h2 f2 gd e32 e1 e2 e3 bb => ⟨rfl, ?_⟩⟩⟩
  have b2 : BB h2 := bb (BB_me me s.2.2.2.2.2.1.1)
  have f0 : FrQ (fun b j => b = 0 ∧ (j = 10 ∨ j = 17)) h1 (sI (sI h1 pHo 10 1) pHo 17 0) := FrQ_sI (by decide) (FrQ_sI (by decide) (FrQ_refl _ h1))
  have f := FrQ_two (FrQ_of f1) (FrQ_two f0 (FrQ_of f2))
  have fn : ∀ b j, b < 115 ∨ 154 ≤ b → gI h2 b j = gI (sI (sI h1 pHo 10 1) pHo 17 0) b j := fun b j hb => f2.1 b j (by simp only [PBk, Po, pHo, pHo_tape, pWs, pWs_e, pWs_0, pWs_0_c, pSs, pSs_e, pSs_0, pSs_0_c, pAsk, pAsk_c, pRe, pRe_sums, pRe_firsts, pAtom, pAtom_c, pRaised, pRaised_c, pSum0, pSum0_c, pFirst0, pFirst0_c, pTa, pTa_cells, pTa_numbers, pTa_done, pTa_order, pTa_spare, pTa_parents, pTa_melting, pFi, pWa, pWa_queue, pWa_origins, pWa_vias, pWa_lengths, pWa_seen, pSingle, pSingle_c, pHo_told, pLo, pLo_cells, pLo_kept, pLo_keptRows, pLo_names, pLo_met, pSh, pSh_cells, pSh_seen, pSh_queue, pMo, pMo_tape, pMo_text, pMo_words, pMo_wordSize, pMo_subs, pMo_subSize, pMo_asked, pMo_pile, pMo_pileSize, pMo_opened, pMo_openedAt, pMo_begun, pMo_cells, pMo_keptCells, pMo_name, pMo_isLeft, pMo_isDone, pMo_keptLeft, pMo_keptDone, pMo_state, pMo_keptState, pMo_newOf, pMo_oldOf, pMo_spare, pMo_spareDone, pMo_out, pMo_metFrom, pMo_metBy, pMo_far, pMo_low, pMo_lows, pMo_lowSize, pMo_triedRow, pMo_triedColumn, pMo_triedValue, pMo_triedRows, pMo_sheet, pLong, pKt, pKt_cells, pKt_numbers, pKt_done, pKt_order, pKt_spare, pKt_parents, pKt_melting]; omega)
  obtain ⟨fu, a5, Q, q0, q1, wt⟩ := ts
  have N0 : 0 ≤ gI h pMo_keptState 0 ∧ gI h pMo_keptState 0 ≤ 2000 := by
    have := wt.2.2.2.2.1
    have e : aS (akM h) 0 = gI h pMo_keptState 0 := rfl
    rw [e] at this
    omega
  have ea : atM h2 = setM (akM h) (gI h2 pMo 39) := by
    show mkA 10 _ _ _ _ _ _ = mkA 10 _ _ _ _ _ _
    refine mkA_cong ?_ (fun x x0 x1 => ?_) (fun x c x0 x1 c0 c1 => ?_) (fun x x0 x1 => ?_) (fun i i0 i1 => ?_)
    · rw [e3 0 (by decide) (by decide), me pMo_keptState 0 (by decide) (by decide)]
    · rw [(e2 x x0 (by omega)).1, me pMo_keptLeft x (by decide) (by decide)]
    · show gI h2 pMo_cells (10 * x + c) = gI h pMo_keptCells (10 * x + c)
      rw [e1 _ (by omega) (by omega), me pMo_keptCells _ (by decide) (by decide)]
    · rw [(e2 x x0 (by omega)).2, me pMo_keptDone x (by decide) (by decide)]
    · rw [e3 i i0 i1, me pMo_keptState i (by decide) (by decide)]
  have e39 : gI h2 pMo 39 = gI h pMo 39 := by rw [f2.1 pMo 39 (by simp (decide := true) [PBk, Po])]; exact me pMo 39 (by decide) (by decide)
  have h39 := s.2.2.2.2.2.1.2.1.1
  rw [e39] at ea
  have eL : LL h2 = LL h := by show 2 * gI h2 pMo 0 = 2 * gI h pMo 0; rw [f2.1 pMo 0 (by simp (decide := true) [PBk, Po]), me pMo 0 (by decide) (by decide)]
  refine tab_fin s f (by intro b j x; simp only [Pt, PBk, Po, pHo, pHo_tape, pWs, pWs_e, pWs_0, pWs_0_c, pSs, pSs_e, pSs_0, pSs_0_c, pAsk, pAsk_c, pRe, pRe_sums, pRe_firsts, pAtom, pAtom_c, pRaised, pRaised_c, pSum0, pSum0_c, pFirst0, pFirst0_c, pTa, pTa_cells, pTa_numbers, pTa_done, pTa_order, pTa_spare, pTa_parents, pTa_melting, pFi, pWa, pWa_queue, pWa_origins, pWa_vias, pWa_lengths, pWa_seen, pSingle, pSingle_c, pHo_told, pLo, pLo_cells, pLo_kept, pLo_keptRows, pLo_names, pLo_met, pSh, pSh_cells, pSh_seen, pSh_queue, pMo, pMo_tape, pMo_text, pMo_words, pMo_wordSize, pMo_subs, pMo_subSize, pMo_asked, pMo_pile, pMo_pileSize, pMo_opened, pMo_openedAt, pMo_begun, pMo_cells, pMo_keptCells, pMo_name, pMo_isLeft, pMo_isDone, pMo_keptLeft, pMo_keptDone, pMo_state, pMo_keptState, pMo_newOf, pMo_oldOf, pMo_spare, pMo_spareDone, pMo_out, pMo_metFrom, pMo_metBy, pMo_far, pMo_low, pMo_lows, pMo_lowSize, pMo_triedRow, pMo_triedColumn, pMo_triedValue, pMo_triedRows, pMo_sheet, pLong, pKt, pKt_cells, pKt_numbers, pKt_done, pKt_order, pKt_spare, pKt_parents, pKt_melting] at x; simp only [Ptb]; (repeat' (refine Or.elim x ?_ ?_ <;> clear x <;> intro x)) <;> omega) (by rw [fn pHo 17 (by decide), gI_sI, if_pos ⟨rfl, rfl⟩]) gd.1 gd.2.1 ?_
  refine S5_mk (Q := Q) b2 (by rw [e39]; exact h39) ?_ ?_ q0 (by omega) ?_ ?_ ?_ (by rw [e32]; decide)
  · rw [eL, ea]
    refine TaR_M (a := akM h) ⟨rfl, rfl, rfl, rfl⟩ ?_
    refine TaR_eq (fun b j b0 b1 => ?_) (t1 (LL h) (akM h) L10 tk)
    rw [fn b j (by omega), f0.1 b j (by omega)]
  · rw [eL, ea]; exact WT_setM wt (by omega) (by have := wt.2.2.2.2.1; omega)
  · rw [eL, ea]; exact fu
  · rw [ea]; show aS (akM h) 5 ≤ _; omega
  · rw [fn pHo 10 (by decide), gI_sI, if_neg (by decide), gI_sI, if_pos ⟨rfl, rfl⟩]; decide
