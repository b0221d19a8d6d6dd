/-! BOTH CLASSES: low, small, size, normal -/
abbrev Plo2 (b : Nat) (j : Int) : Prop := ((b = 0 ∧ j = 17) ∨ (b = 115 ∧ (j = 1 ∨ j = 2 ∨ j = 4 ∨ (53 ≤ j ∧ j ≤ 60))) ∨ (105 ≤ b ∧ b ≤ 110) ∨ b = 146 ∨ b = 147) ∨ ¬ SuA b j
theorem SIM_low {P : Nat → Int → Prop} {k : Int} {h h2 : PH} (s : SIM k h) (f : FrQ P h h2) (hP : ∀ b j, P b j → Plo2 b j) (g1 : gI h2 pHo 17 = 0) (g2 : gI h2 pMo 1 = 0) (g3 : gI h2 pMo 2 = -1) (x8 : S8 h2) : SIM (k + 1) h2 := by
  have f' : FrQ Plo2 h h2 := FrQ_mono hP f
  refine SIM_fr s f' (Or.inl fun b j x y => y.elim (fun a => by clear y; simp only [Su1] at x; omega) (fun n => n (Or.inl x))) (Or.inl fun b j x y => y.elim (fun a => by clear y; simp only [Su2] at x; omega) (fun n => n (Or.inr (Or.inl x)))) (Or.inl fun b j x y => y.elim (fun a => by clear y; simp only [Su3] at x; omega) (fun n => n (Or.inr (Or.inr (Or.inl x))))) (Or.inr ?_) (Or.inl fun b j x y => y.elim (fun a => by clear y; simp only [Su5] at x; omega) (fun n => n (Or.inr (Or.inr (Or.inr (Or.inr (Or.inl x))))))) (Or.inl fun b j x y => y.elim (fun a => by clear y; simp only [Su6] at x; omega) (fun n => n (Or.inr (Or.inr (Or.inr (Or.inr (Or.inr (Or.inl x)))))))) (Or.inl fun b j x y => y.elim (fun a => by clear y; simp only [Su7] at x; omega) (fun n => n (Or.inr (Or.inr (Or.inr (Or.inr (Or.inr (Or.inr (Or.inl x))))))))) (Or.inr x8) (Or.inl fun b j x y => y.elim (fun a => by clear y; simp only [Su9] at x; omega) (fun n => n (Or.inr (Or.inr (Or.inr (Or.inr (Or.inr (Or.inr (Or.inr (Or.inr x))))))))))
  exact S4_ok (by rw [f'.1 pRe 9 (fun y => y.elim (fun a => by simp (decide := true) at a) (fun n => n (Or.inr (Or.inr (Or.inr (Or.inl (by decide))))))), f'.1 pMo 3 (fun y => y.elim (fun a => by simp (decide := true) at a) (fun n => n (Or.inr (Or.inr (Or.inr (Or.inl (by decide)))))))]; exact s.2.2.2.2.1.1) g1 g2 g3
theorem sim_low {k : Int} {h : PH} (s : SIM k h) {n : Int} : SimP Ct_Ho_low Ct_Mo_low [.inl n] k h := by
  have l1 := s.2.1.1
  have l2 := s.2.1.2.1
  obtain ⟨w1, w2, w3, w7⟩ := s.2.2.1
  obtain ⟨o1, o2⟩ := okW2_w w3
  have L2 : 2 ≤ LL h ∧ LL h ≤ 10 := ⟨by show 2 ≤ 2 * _; omega, by show 2 * _ ≤ 10; omega⟩
  have eL : 2 * gI h pHo 2 = LL h := by rw [l2]
  refine ⟨rfl, s.1.1, by omega, by omega, fun z => ⟨_, rfl, s.1.2, rfl, s.1.2, LL h, rfl, L2.1, L2.2, w3, fun _ => ⟨rfl, SIM_no s (by decide)⟩, fun y1 y2 => absurd ⟨y1, y2⟩ z⟩, fun z1 z2 => ?_⟩
  rw [eL]
  refine ⟨wM h, w1, o1, fun h1 f1 k1 => ?_⟩
  have me : MEq h (sI h1 pHo 17 0) := me_sI (MEq_of f1 (by intro b j; simp only [Psr, Pgo, Pcf, Pad, pHo, pHo_tape, pWs, pWs_e, pWs_0, pWs_0_c, pSs, pSs_e, pSs_0, pSs_0_c, pAsk, pAsk_c, pRe, pRe_sums, pRe_firsts, pAtom, pAtom_c, pRaised, pRaised_c, pSum0, pSum0_c, pFirst0, pFirst0_c, pTa, pTa_cells, pTa_numbers, pTa_done, pTa_order, pTa_spare, pTa_parents, pTa_melting, pFi, pWa, pWa_queue, pWa_origins, pWa_vias, pWa_lengths, pWa_seen, pSingle, pSingle_c, pHo_told, pLo, pLo_cells, pLo_kept, pLo_keptRows, pLo_names, pLo_met, pSh, pSh_cells, pSh_seen, pSh_queue, pMo, pMo_tape, pMo_text, pMo_words, pMo_wordSize, pMo_subs, pMo_subSize, pMo_asked, pMo_pile, pMo_pileSize, pMo_opened, pMo_openedAt, pMo_begun, pMo_cells, pMo_keptCells, pMo_name, pMo_isLeft, pMo_isDone, pMo_keptLeft, pMo_keptDone, pMo_state, pMo_keptState, pMo_newOf, pMo_oldOf, pMo_spare, pMo_spareDone, pMo_out, pMo_metFrom, pMo_metBy, pMo_far, pMo_low, pMo_lows, pMo_lowSize, pMo_triedRow, pMo_triedColumn, pMo_triedValue, pMo_triedRows, pMo_sheet, pLong, pKt, pKt_cells, pKt_numbers, pKt_done, pKt_order, pKt_spare, pKt_parents, pKt_melting]; omega)) (Or.inl (by decide))
  have mw1 : MW h1 := FrQ_MW f1 s.1.2
  refine ⟨_, rfl, mw1, rfl, mw1, LL h, by rw [me pMo 0 (by decide) (by decide)], L2.1, L2.2, MWd_me me w3, fun y => absurd ⟨z1, z2⟩ y, fun _ _ h2 f2 k2 e4 e1 e2 _ => ?_⟩
  rw [wM_me me] at k2 ⊢
  refine ⟨rfl, ?_⟩
  have f0 : FrQ Pno h1 (sI h1 pHo 17 0) := FrQ_sI (by decide) (FrQ_refl Pno h1)
  have f := FrQ_two f1 (FrQ_two f0 (FrQ_of f2))
  have e17 : gI h2 pHo 17 = 0 := by rw [f2.1 pHo 17 (by simp (decide := true) [Plw, Pfo, Pmc, Pm]), gI_sI, if_pos ⟨rfl, rfl⟩]
  refine SIM_low s f (by intro b j x; simp only [Psr, Pgo, Pcf, Pad, Pno, Plw, Pfo, Pmc, Pm, pHo, pHo_tape, pWs, pWs_e, pWs_0, pWs_0_c, pSs, pSs_e, pSs_0, pSs_0_c, pAsk, pAsk_c, pRe, pRe_sums, pRe_firsts, pAtom, pAtom_c, pRaised, pRaised_c, pSum0, pSum0_c, pFirst0, pFirst0_c, pTa, pTa_cells, pTa_numbers, pTa_done, pTa_order, pTa_spare, pTa_parents, pTa_melting, pFi, pWa, pWa_queue, pWa_origins, pWa_vias, pWa_lengths, pWa_seen, pSingle, pSingle_c, pHo_told, pLo, pLo_cells, pLo_kept, pLo_keptRows, pLo_names, pLo_met, pSh, pSh_cells, pSh_seen, pSh_queue, pMo, pMo_tape, pMo_text, pMo_words, pMo_wordSize, pMo_subs, pMo_subSize, pMo_asked, pMo_pile, pMo_pileSize, pMo_opened, pMo_openedAt, pMo_begun, pMo_cells, pMo_keptCells, pMo_name, pMo_isLeft, pMo_isDone, pMo_keptLeft, pMo_keptDone, pMo_state, pMo_keptState, pMo_newOf, pMo_oldOf, pMo_spare, pMo_spareDone, pMo_out, pMo_metFrom, pMo_metBy, pMo_far, pMo_low, pMo_lows, pMo_lowSize, pMo_triedRow, pMo_triedColumn, pMo_triedValue, pMo_triedRows, pMo_sheet, pLong, pKt, pKt_cells, pKt_numbers, pKt_done, pKt_order, pKt_spare, pKt_parents, pKt_melting] at x; (repeat' (refine Or.elim x ?_ ?_ <;> clear x <;> intro x)) <;> first | exact Or.inl (by omega) | exact Or.inr (by simp only [SuA, Su1, Su2, Su3, Su4, Su5, Su6, Su7, Su8, Su9]; omega)) e17 e1 e2 ?_
  generalize lowA (wM h) (LL h) n = a at *
  have ec : ∀ b j, 105 ≤ b → b ≤ 110 → gI h2 b j = gI h1 b j := fun b j b0 b1 => by
    rw [f2.1 b j (by simp only [Plw, Pfo, Pmc, Pm, pHo, pHo_tape, pWs, pWs_e, pWs_0, pWs_0_c, pSs, pSs_e, pSs_0, pSs_0_c, pAsk, pAsk_c, pRe, pRe_sums, pRe_firsts, pAtom, pAtom_c, pRaised, pRaised_c, pSum0, pSum0_c, pFirst0, pFirst0_c, pTa, pTa_cells, pTa_numbers, pTa_done, pTa_order, pTa_spare, pTa_parents, pTa_melting, pFi, pWa, pWa_queue, pWa_origins, pWa_vias, pWa_lengths, pWa_seen, pSingle, pSingle_c, pHo_told, pLo, pLo_cells, pLo_kept, pLo_keptRows, pLo_names, pLo_met, pSh, pSh_cells, pSh_seen, pSh_queue, pMo, pMo_tape, pMo_text, pMo_words, pMo_wordSize, pMo_subs, pMo_subSize, pMo_asked, pMo_pile, pMo_pileSize, pMo_opened, pMo_openedAt, pMo_begun, pMo_cells, pMo_keptCells, pMo_name, pMo_isLeft, pMo_isDone, pMo_keptLeft, pMo_keptDone, pMo_state, pMo_keptState, pMo_newOf, pMo_oldOf, pMo_spare, pMo_spareDone, pMo_out, pMo_metFrom, pMo_metBy, pMo_far, pMo_low, pMo_lows, pMo_lowSize, pMo_triedRow, pMo_triedColumn, pMo_triedValue, pMo_triedRows, pMo_sheet, pLong, pKt, pKt_cells, pKt_numbers, pKt_done, pKt_order, pKt_spare, pKt_parents, pKt_melting]; omega), f0.1 b j (by simp only [Pno]; omega)]
  have ea : ∀ b, 105 ≤ b → b ≤ 110 → gI h2 b = gI h1 b := fun b b0 b1 => funext fun j => ec b j b0 b1
  obtain ⟨c1, c2, c3, c4, c5, c6⟩ := k1
  obtain ⟨m1, m2, m3, m4, m5, m6⟩ := k2
  refine ⟨a.2.2, LL h, ?_, m6, by rw [ea pLo (by decide) (by decide)]; exact c5, m5, ⟨by omega, L2.2⟩, fun _ => L2.1, Or.inr ⟨by rw [ea pLo (by decide) (by decide)]; exact c4, m4, by rw [ea pLo (by decide) (by decide), c1, m1], by rw [ea pLo (by decide) (by decide), c2, m2]⟩⟩
  unfold FdC at c6 ⊢
  rw [ea pLo (by decide) (by decide), ea pLo_keptRows (by decide) (by decide), ea pLo_kept (by decide) (by decide)]
  exact c6
theorem sim_size {k : Int} {h : PH} (s : SIM k h) {i : Int} : SimP Ct_Ho_size Ct_Mo_size [.inl i] k h := by
  obtain ⟨l, L, x1, x2, x3, x4, x5, x6, -⟩ := s.2.2.2.2.2.2.2.2.1
  have m4 : m40 l.length ≤ 40 := by unfold m40; split <;> omega
  have m5 : m40 l.length ≤ l.length := by unfold m40; split <;> omega
  refine ⟨rfl, s.1.1, l, L, x1, _, rfl, s.1.2, rfl, s.1.2, by rw [x2.2.1]; exact m4, ?_, SIM_4 s⟩
  rw [x2.2.1]
  by_cases q : 0 ≤ i ∧ i < m40 l.length
  · rw [if_pos q, if_pos q]
    have := ((x2.2.2 i.toNat (by omega)).2 (by omega)).1
    rw [show ((i.toNat : Nat) : Int) = i by omega] at this
    rw [this]
  · rw [if_neg q, if_neg q]
theorem sim_small {k : Int} {h : PH} (s : SIM k h) {i r c : Int} : SimP Ct_Ho_small Ct_Mo_small [.inl i, .inl r, .inl c] k h := by
  obtain ⟨l, L, x1, x2, x3, x4, x5, x6, -⟩ := s.2.2.2.2.2.2.2.2.1
  have m4 : m40 l.length ≤ 40 := by unfold m40; split <;> omega
  have m5 : m40 l.length ≤ l.length := by unfold m40; split <;> omega
  have sz : ∀ j, 0 ≤ j → j < m40 l.length → gI h pMo_lowSize j = (lgD l j.toNat).1 ∧ (lgD l j.toNat).1 ≤ 6 := fun j j0 j1 => by
    have q := x2.2.2 j.toNat (by omega)
    have q2 := (q.2 (by omega)).1
    rw [show ((j.toNat : Nat) : Int) = j by omega] at q2
    exact ⟨q2, q.1.2.1⟩
  refine ⟨rfl, s.1.1, l, L, x1, x3, x5.2, _, rfl, s.1.2, rfl, s.1.2, by rw [x2.2.1]; exact m4, fun j j0 j1 => by rw [x2.2.1] at j1; have := sz j j0 j1; omega, by omega, by omega, ?_, SIM_4 s⟩
  rw [x2.2.1, x4]
  by_cases q : 0 ≤ i ∧ i < m40 l.length
  · have e1 := sz i q.1 q.2
    by_cases y : 0 ≤ r ∧ r < (lgD l i.toNat).1 ∧ 0 ≤ c ∧ c < L
    · rw [if_pos (show 0 ≤ i ∧ i < m40 l.length ∧ 0 ≤ r ∧ r < gI h pMo_lowSize i ∧ 0 ≤ c ∧ c < L from ⟨q.1, q.2, y.1, by omega, y.2.2⟩), if_pos (show (0 ≤ i ∧ i < m40 l.length) ∧ 0 ≤ r ∧ r < (lgD l i.toNat).1 ∧ 0 ≤ c ∧ c < L from ⟨q, y⟩)]
      have := ((x2.2.2 i.toNat (by omega)).2 (by omega)).2 r c y.1 y.2.1 y.2.2.1 y.2.2.2
      rw [show ((i.toNat : Nat) : Int) = i by omega] at this
      rw [this]
    · rw [if_neg (show ¬ (0 ≤ i ∧ i < m40 l.length ∧ 0 ≤ r ∧ r < gI h pMo_lowSize i ∧ 0 ≤ c ∧ c < L) from fun w => y ⟨w.2.2.1, by omega, w.2.2.2.2⟩), if_neg (show ¬ ((0 ≤ i ∧ i < m40 l.length) ∧ 0 ≤ r ∧ r < (lgD l i.toNat).1 ∧ 0 ≤ c ∧ c < L) from fun w => y w.2)]
  · rw [if_neg (show ¬ (0 ≤ i ∧ i < m40 l.length ∧ 0 ≤ r ∧ r < gI h pMo_lowSize i ∧ 0 ≤ c ∧ c < L) from fun w => q ⟨w.1, w.2.1⟩), if_neg (show ¬ ((0 ≤ i ∧ i < m40 l.length) ∧ 0 ≤ r ∧ r < (lgD l i.toNat).1 ∧ 0 ≤ c ∧ c < L) from fun w => q w.1)]
theorem sim_normal {k : Int} {h : PH} (s : SIM k h) {i : Int} : SimP Ct_Ho_normal Ct_Mo_normal [.inl i] k h := by
  obtain ⟨l, L, x1, x2, x3, x4, x5, x6, -⟩ := s.2.2.2.2.2.2.2.2.1
  have lL : l ≠ [] → 2 ≤ L ∧ L ≤ 10 := fun y => ⟨x6 y, x5.2⟩
  refine ⟨rfl, s.1.1, l, L, x1, x3, x5.1, x5.2, fun z => ⟨_, rfl, s.1.2, rfl, s.1.2, l, L, x4.symm, lL, x2, fun h2 v f2 e4 nv => ⟨by rw [nv.1 z], SIM_scr s (FrQ_of f2) (by intro b j x; simp only [Pnm, Pmc, Pm, pHo, pHo_tape, pWs, pWs_e, pWs_0, pWs_0_c, pSs, pSs_e, pSs_0, pSs_0_c, pAsk, pAsk_c, pRe, pRe_sums, pRe_firsts, pAtom, pAtom_c, pRaised, pRaised_c, pSum0, pSum0_c, pFirst0, pFirst0_c, pTa, pTa_cells, pTa_numbers, pTa_done, pTa_order, pTa_spare, pTa_parents, pTa_melting, pFi, pWa, pWa_queue, pWa_origins, pWa_vias, pWa_lengths, pWa_seen, pSingle, pSingle_c, pHo_told, pLo, pLo_cells, pLo_kept, pLo_keptRows, pLo_names, pLo_met, pSh, pSh_cells, pSh_seen, pSh_queue, pMo, pMo_tape, pMo_text, pMo_words, pMo_wordSize, pMo_subs, pMo_subSize, pMo_asked, pMo_pile, pMo_pileSize, pMo_opened, pMo_openedAt, pMo_begun, pMo_cells, pMo_keptCells, pMo_name, pMo_isLeft, pMo_isDone, pMo_keptLeft, pMo_keptDone, pMo_state, pMo_keptState, pMo_newOf, pMo_oldOf, pMo_spare, pMo_spareDone, pMo_out, pMo_metFrom, pMo_metBy, pMo_far, pMo_low, pMo_lows, pMo_lowSize, pMo_triedRow, pMo_triedColumn, pMo_triedValue, pMo_triedRows, pMo_sheet, pLong, pKt, pKt_cells, pKt_numbers, pKt_done, pKt_order, pKt_spare, pKt_parents, pKt_melting] at x; (repeat' (refine Or.elim x ?_ ?_ <;> clear x <;> intro x)) <;> (simp only [SuA, Su1, Su2, Su3, Su4, Su5, Su6, Su7, Su8, Su9]; omega))⟩⟩, fun z1 z2 h1 f1 => ?_⟩
  have me : MEq h h1 := MEq_of (FrQ_of f1) (by intro b j; simp only [Pcf, pHo, pHo_tape, pWs, pWs_e, pWs_0, pWs_0_c, pSs, pSs_e, pSs_0, pSs_0_c, pAsk, pAsk_c, pRe, pRe_sums, pRe_firsts, pAtom, pAtom_c, pRaised, pRaised_c, pSum0, pSum0_c, pFirst0, pFirst0_c, pTa, pTa_cells, pTa_numbers, pTa_done, pTa_order, pTa_spare, pTa_parents, pTa_melting, pFi, pWa, pWa_queue, pWa_origins, pWa_vias, pWa_lengths, pWa_seen, pSingle, pSingle_c, pHo_told, pLo, pLo_cells, pLo_kept, pLo_keptRows, pLo_names, pLo_met, pSh, pSh_cells, pSh_seen, pSh_queue, pMo, pMo_tape, pMo_text, pMo_words, pMo_wordSize, pMo_subs, pMo_subSize, pMo_asked, pMo_pile, pMo_pileSize, pMo_opened, pMo_openedAt, pMo_begun, pMo_cells, pMo_keptCells, pMo_name, pMo_isLeft, pMo_isDone, pMo_keptLeft, pMo_keptDone, pMo_state, pMo_keptState, pMo_newOf, pMo_oldOf, pMo_spare, pMo_spareDone, pMo_out, pMo_metFrom, pMo_metBy, pMo_far, pMo_low, pMo_lows, pMo_lowSize, pMo_triedRow, pMo_triedColumn, pMo_triedValue, pMo_triedRows, pMo_sheet, pLong, pKt, pKt_cells, pKt_numbers, pKt_done, pKt_order, pKt_spare, pKt_parents, pKt_melting]; omega)
  have mw1 : MW h1 := FrQ_MW (FrQ_of f1) s.1.2
  have x2' : FdM h1 l L := by
    unfold FdM at x2 ⊢
    rw [MEq_arr me pMo (by decide) (by decide), MEq_arr me pMo_lowSize (by decide) (by decide), MEq_arr me pMo_lows (by decide) (by decide)]
    exact x2
  have e53 : L = 2 * gI h1 pMo 53 := by rw [me pMo 53 (by decide) (by decide)]; exact x4.symm
  exact ⟨fun y => ⟨_, rfl, mw1, rfl, mw1, l, L, e53, lL, x2', fun h2 v f2 e4 nv => ⟨by rw [(nv.2 z1 z2).1 y], SIM_scr s (FrQ_two (FrQ_of f1) (FrQ_of f2)) (by intro b j x; simp only [Pcf, Pnm, Pmc, Pm, pHo, pHo_tape, pWs, pWs_e, pWs_0, pWs_0_c, pSs, pSs_e, pSs_0, pSs_0_c, pAsk, pAsk_c, pRe, pRe_sums, pRe_firsts, pAtom, pAtom_c, pRaised, pRaised_c, pSum0, pSum0_c, pFirst0, pFirst0_c, pTa, pTa_cells, pTa_numbers, pTa_done, pTa_order, pTa_spare, pTa_parents, pTa_melting, pFi, pWa, pWa_queue, pWa_origins, pWa_vias, pWa_lengths, pWa_seen, pSingle, pSingle_c, pHo_told, pLo, pLo_cells, pLo_kept, pLo_keptRows, pLo_names, pLo_met, pSh, pSh_cells, pSh_seen, pSh_queue, pMo, pMo_tape, pMo_text, pMo_words, pMo_wordSize, pMo_subs, pMo_subSize, pMo_asked, pMo_pile, pMo_pileSize, pMo_opened, pMo_openedAt, pMo_begun, pMo_cells, pMo_keptCells, pMo_name, pMo_isLeft, pMo_isDone, pMo_keptLeft, pMo_keptDone, pMo_state, pMo_keptState, pMo_newOf, pMo_oldOf, pMo_spare, pMo_spareDone, pMo_out, pMo_metFrom, pMo_metBy, pMo_far, pMo_low, pMo_lows, pMo_lowSize, pMo_triedRow, pMo_triedColumn, pMo_triedValue, pMo_triedRows, pMo_sheet, pLong, pKt, pKt_cells, pKt_numbers, pKt_done, pKt_order, pKt_spare, pKt_parents, pKt_melting] at x; (repeat' (refine Or.elim x ?_ ?_ <;> clear x <;> intro x)) <;> (simp only [SuA, Su1, Su2, Su3, Su4, Su5, Su6, Su7, Su8, Su9]; omega))⟩⟩, fun y => ⟨_, rfl, mw1, rfl, mw1, l, L, e53, lL, x2', fun h2 v f2 e4 nv => ⟨by rw [(nv.2 z1 z2).2 y], SIM_scr s (FrQ_two (FrQ_of f1) (FrQ_of f2)) (by intro b j x; simp only [Pcf, Pnm, Pmc, Pm, pHo, pHo_tape, pWs, pWs_e, pWs_0, pWs_0_c, pSs, pSs_e, pSs_0, pSs_0_c, pAsk, pAsk_c, pRe, pRe_sums, pRe_firsts, pAtom, pAtom_c, pRaised, pRaised_c, pSum0, pSum0_c, pFirst0, pFirst0_c, pTa, pTa_cells, pTa_numbers, pTa_done, pTa_order, pTa_spare, pTa_parents, pTa_melting, pFi, pWa, pWa_queue, pWa_origins, pWa_vias, pWa_lengths, pWa_seen, pSingle, pSingle_c, pHo_told, pLo, pLo_cells, pLo_kept, pLo_keptRows, pLo_names, pLo_met, pSh, pSh_cells, pSh_seen, pSh_queue, pMo, pMo_tape, pMo_text, pMo_words, pMo_wordSize, pMo_subs, pMo_subSize, pMo_asked, pMo_pile, pMo_pileSize, pMo_opened, pMo_openedAt, pMo_begun, pMo_cells, pMo_keptCells, pMo_name, pMo_isLeft, pMo_isDone, pMo_keptLeft, pMo_keptDone, pMo_state, pMo_keptState, pMo_newOf, pMo_oldOf, pMo_spare, pMo_spareDone, pMo_out, pMo_metFrom, pMo_metBy, pMo_far, pMo_low, pMo_lows, pMo_lowSize, pMo_triedRow, pMo_triedColumn, pMo_triedValue, pMo_triedRows, pMo_sheet, pLong, pKt, pKt_cells, pKt_numbers, pKt_done, pKt_order, pKt_spare, pKt_parents, pKt_melting] at x; (repeat' (refine Or.elim x ?_ ?_ <;> clear x <;> intro x)) <;> (simp only [SuA, Su1, Su2, Su3, Su4, Su5, Su6, Su7, Su8, Su9]; omega))⟩⟩⟩
