/-! BOTH CLASSES: least, tell -/
abbrev Pot (b : Nat) (j : Int) : Prop := ((b = 0 ∧ (j = 14 ∨ j = 17)) ∨ b = 104 ∨ b = 141 ∨ (b = 115 ∧ (j = 1 ∨ j = 2 ∨ j = 4 ∨ j = 46))) ∨ ¬ SuA b j
theorem SIM_out {P : Nat → Int → Prop} {k : Int} {h h2 : PH} (s : SIM k h) (f : FrQ P h h2) (hP : ∀ b j, P b j → Pot b j) (g1 : gI h2 pHo 17 = 0) (g2 : gI h2 pMo 1 = 0) (g3 : gI h2 pMo 2 = -1) (x7 : S7 h2) : SIM (k + 1) h2 := by
  have f' : FrQ Pot h h2 := FrQ_mono hP f
  refine SIM_fr s f' (Or.inl fun b j x y => y.elim (fun a => by clear y; simp only [Su1] at x; omega) (fun n => n (Or.inl x))) (Or.inl fun b j x y => y.elim (fun a => by clear y; simp only [Su2] at x; omega) (fun n => n (Or.inr (Or.inl x)))) (Or.inl fun b j x y => y.elim (fun a => by clear y; simp only [Su3] at x; omega) (fun n => n (Or.inr (Or.inr (Or.inl x))))) (Or.inr ?_) (Or.inl fun b j x y => y.elim (fun a => by clear y; simp only [Su5] at x; omega) (fun n => n (Or.inr (Or.inr (Or.inr (Or.inr (Or.inl x))))))) (Or.inl fun b j x y => y.elim (fun a => by clear y; simp only [Su6] at x; omega) (fun n => n (Or.inr (Or.inr (Or.inr (Or.inr (Or.inr (Or.inl x)))))))) (Or.inr x7) (Or.inl fun b j x y => y.elim (fun a => by clear y; simp only [Su8] at x; omega) (fun n => n (Or.inr (Or.inr (Or.inr (Or.inr (Or.inr (Or.inr (Or.inr (Or.inl x)))))))))) (Or.inl fun b j x y => y.elim (fun a => by clear y; simp only [Su9] at x; omega) (fun n => n (Or.inr (Or.inr (Or.inr (Or.inr (Or.inr (Or.inr (Or.inr (Or.inr x))))))))))
  exact S4_ok (by rw [f'.1 pRe 9 (fun y => y.elim (fun a => by simp (decide := true) at a) (fun n => n (Or.inr (Or.inr (Or.inr (Or.inl (by decide))))))), f'.1 pMo 3 (fun y => y.elim (fun a => by simp (decide := true) at a) (fun n => n (Or.inr (Or.inr (Or.inr (Or.inl (by decide)))))))]; exact s.2.2.2.2.1.1) g1 g2 g3
theorem S7_mk {h : PH} {n : Int} (e1 : gI h pHo 14 = n) (e2 : gI h pMo 46 = n) (n0 : 0 ≤ n) (n1 : n ≤ 300) (e3 : ∀ j, 0 ≤ j → j < n → gI h pHo_told j = gI h pMo_out j) : S7 h := ⟨by rw [e1, e2], by rw [e2]; exact ⟨n0, n1⟩, by rw [e2]; exact e3⟩
theorem sim_least {k : Int} {h : PH} (s : SIM k h) (hk : k ≤ 600) {r : Int} : SimP Ct_Ho_least Ct_Mo_least [.inl r] k h := by
  have wi := whole_iff s hk
  refine ⟨rfl, s.1.1, fun z => ⟨_, rfl, s.1.2, rfl, s.1.2, fun _ => ⟨rfl, SIM_no s (by decide)⟩, fun y => absurd (wi.mpr y) z⟩, fun z => ?_⟩
  have z' := wi.mp z
  obtain ⟨Q, q0, q1, tx, tr, fu, a5, a6⟩ := TX_of s hk z'.1
  have ful := full_of (k := k) fu z'.2
  refine ⟨LL h, Q, atM h, tr, tx.2.2.1, tx.2.1.1, tx.2.1.2, ful, fun v => ⟨_, rfl, s.1.2, rfl, s.1.2, fun y => absurd z' y, fun _ => ⟨LL h, Q, tx, fu, fun _ => ⟨rfl, SIM_no s (by decide)⟩, fun y => absurd y v⟩⟩, fun v h1 f1 t1 => ?_⟩
  obtain ⟨m1, m2, m3, m4⟩ := ms_all tx.2.2.1 ful
  have hr : r ∈ (bsA (LL h) (atM h)).1 := (m1 r).mpr v
  have far := bsI_far bsA_I _ r hr (Nat.le_refl _)
  have ixl := ixF_lt hr
  have len : ((bsA (LL h) (atM h)).1.length : Int) ≤ 300 := by
    have : ((bsA (LL h) (atM h)).1.length : Int) = aS (atM h) 1 := m3
    have := tx.2.2.1.2.2.2.2.2.1
    omega
  generalize hd : (bsA (LL h) (atM h)).2.2.2 r = n at *
  have n0 : 0 ≤ n ∧ n ≤ 300 := by omega
  have me : MEq h (sI (sI h1 pHo 14 n) pHo 17 0) := me_sI (me_sI (MEq_of (FrQ_of f1) (by intro b j; simp only [Pwt, Pwa, pHo, pHo_tape, pWs, pWs_e, pWs_0, pWs_0_c, pSs, pSs_e, pSs_0, pSs_0_c, pAsk, pAsk_c, pRe, pRe_sums, pRe_firsts, pAtom, pAtom_c, pRaised, pRaised_c, pSum0, pSum0_c, pFirst0, pFirst0_c, pTa, pTa_cells, pTa_numbers, pTa_done, pTa_order, pTa_spare, pTa_parents, pTa_melting, pFi, pWa, pWa_queue, pWa_origins, pWa_vias, pWa_lengths, pWa_seen, pSingle, pSingle_c, pHo_told, pLo, pLo_cells, pLo_kept, pLo_keptRows, pLo_names, pLo_met, pSh, pSh_cells, pSh_seen, pSh_queue, pMo, pMo_tape, pMo_text, pMo_words, pMo_wordSize, pMo_subs, pMo_subSize, pMo_asked, pMo_pile, pMo_pileSize, pMo_opened, pMo_openedAt, pMo_begun, pMo_cells, pMo_keptCells, pMo_name, pMo_isLeft, pMo_isDone, pMo_keptLeft, pMo_keptDone, pMo_state, pMo_keptState, pMo_newOf, pMo_oldOf, pMo_spare, pMo_spareDone, pMo_out, pMo_metFrom, pMo_metBy, pMo_far, pMo_low, pMo_lows, pMo_lowSize, pMo_triedRow, pMo_triedColumn, pMo_triedValue, pMo_triedRows, pMo_sheet, pLong, pKt, pKt_cells, pKt_numbers, pKt_done, pKt_order, pKt_spare, pKt_parents, pKt_melting]; omega)) (Or.inl (by decide))) (Or.inl (by decide))
  have mw1 : MW h1 := FrQ_MW (FrQ_of f1) s.1.2
  have z2 : gI (sI (sI h1 pHo 14 n) pHo 17 0) pMo 32 ≠ 0 ∧ gI (sI (sI h1 pHo 14 n) pHo 17 0) pMo_state 6 = 1 := by rw [me pMo 32 (by decide) (by decide), me pMo_state 6 (by decide) (by decide)]; exact z'
  refine ⟨_, rfl, mw1, rfl, mw1, fun y => absurd z2 y, fun _ => ⟨LL h, Q, TX_me me tx, by rw [atM_me me]; exact fu, fun y => absurd v (by rw [atM_me me] at y; exact y), fun _ h2 f2 gd l2 t2 => ?_⟩⟩
  rw [atM_me me] at l2 t2 ⊢
  rw [hd] at l2 t2 ⊢
  refine ⟨rfl, ?_⟩
  have f0 : FrQ (fun b j => b = 0 ∧ (j = 14 ∨ j = 17)) h1 (sI (sI h1 pHo 14 n) pHo 17 0) := FrQ_sI (by decide) (FrQ_sI (by decide) (FrQ_refl _ h1))
  have f := FrQ_two (FrQ_of f1) (FrQ_two f0 (FrQ_of f2))
  have e17 : gI h2 pHo 17 = 0 := by rw [f2.1 pHo 17 (by simp (decide := true) [PL, PQ, Po]), gI_sI, if_pos ⟨rfl, rfl⟩]
  have e14 : gI h2 pHo 14 = n := by rw [f2.1 pHo 14 (by simp (decide := true) [PL, PQ, Po]), gI_sI, if_neg (by decide), gI_sI, if_pos ⟨rfl, rfl⟩]
  refine SIM_out s f (by intro b j x; simp only [Pwt, Pwa, PL, PQ, Po, pHo, pHo_tape, pWs, pWs_e, pWs_0, pWs_0_c, pSs, pSs_e, pSs_0, pSs_0_c, pAsk, pAsk_c, pRe, pRe_sums, pRe_firsts, pAtom, pAtom_c, pRaised, pRaised_c, pSum0, pSum0_c, pFirst0, pFirst0_c, pTa, pTa_cells, pTa_numbers, pTa_done, pTa_order, pTa_spare, pTa_parents, pTa_melting, pFi, pWa, pWa_queue, pWa_origins, pWa_vias, pWa_lengths, pWa_seen, pSingle, pSingle_c, pHo_told, pLo, pLo_cells, pLo_kept, pLo_keptRows, pLo_names, pLo_met, pSh, pSh_cells, pSh_seen, pSh_queue, pMo, pMo_tape, pMo_text, pMo_words, pMo_wordSize, pMo_subs, pMo_subSize, pMo_asked, pMo_pile, pMo_pileSize, pMo_opened, pMo_openedAt, pMo_begun, pMo_cells, pMo_keptCells, pMo_name, pMo_isLeft, pMo_isDone, pMo_keptLeft, pMo_keptDone, pMo_state, pMo_keptState, pMo_newOf, pMo_oldOf, pMo_spare, pMo_spareDone, pMo_out, pMo_metFrom, pMo_metBy, pMo_far, pMo_low, pMo_lows, pMo_lowSize, pMo_triedRow, pMo_triedColumn, pMo_triedValue, pMo_triedRows, pMo_sheet, pLong, pKt, pKt_cells, pKt_numbers, pKt_done, pKt_order, pKt_spare, pKt_parents, pKt_melting] at x; (repeat' (refine Or.elim x ?_ ?_ <;> clear x <;> intro x)) <;> first | exact Or.inl (by omega) | exact Or.inr (by simp only [SuA, Su1, Su2, Su3, Su4, Su5, Su6, Su7, Su8, Su9]; omega)) e17 gd.1 gd.2.1 (S7_mk e14 l2 n0.1 n0.2 (fun j j0 j1 => ?_))
  have x1 := t1 (n - 1 - j).toNat (by omega)
  have x2 := t2 (n - 1 - j).toNat (by omega)
  rw [show n - 1 - (((n - 1 - j).toNat : Nat) : Int) = j by omega] at x1 x2
  rw [x2, f2.1 pHo_told j (by simp (decide := true) [PL, PQ, Po]), f0.1 pHo_told j (by simp (decide := true)), x1]
  rfl
theorem tWd_me {h h1 : PH} {a i : Int} (me : MEq h h1) : tWd h1 a i = tWd h a i := by
  unfold tWd wrdK subK
  rw [akW_me me, MEq_arr me pMo_words (by decide) (by decide), MEq_arr me pMo_wordSize (by decide) (by decide), MEq_arr me pMo_subs (by decide) (by decide), MEq_arr me pMo_subSize (by decide) (by decide)]
theorem sim_tell {k : Int} {h : PH} (s : SIM k h) {a i : Int} : SimP Ct_Ho_tell Ct_Mo_tell [.inl a, .inl i] k h := by
  obtain ⟨a1, a2, a3, a4⟩ := ak_of s
  obtain ⟨w1, w2, w3, w7⟩ := s.2.2.1
  have l1 := s.2.1.1
  have n14 : ((wM h).length : Int) = gI h pMo 14 := by unfold wM; rw [wdsM_len]; have := w3.1.1; omega
  have n15 : ((uM h).length : Int) = gI h pMo 15 := by unfold uM; rw [wdsM_len]; have := w3.2.2.1.1; omega
  have L10 : LL h ≤ 10 := by show 2 * _ ≤ 10; omega
  refine ⟨rfl, s.1.1, wM h, uM h, akW h, w1, w2, a1, fun z => ⟨_, rfl, s.1.2, rfl, s.1.2, LL h, L10, w3, a2, fun _ => ⟨rfl, SIM_no s (by decide)⟩, fun y => absurd ?_ y⟩, fun u hu h1 f1 t1 => ?_⟩
  · unfold tlBad
    have e14 : gI (sI h pHo 17 4) pMo 14 = gI h pMo 14 := rfl
    have e15 : gI (sI h pHo 17 4) pMo 15 = gI h pMo 15 := rfl
    rw [e14, e15]
    omega
  have nb : ¬ tlBad h a i := by
    unfold tlBad
    omega
  have eu : tWd h a i = u := by
    unfold tWd
    rcases hu with ⟨x0, x1, x2, x3⟩ | ⟨x0, x1, x2, x3⟩ | ⟨x0, x3⟩
    · rw [if_pos x0, x3]; exact (wM_at x1 (by omega)).symm
    · rw [if_neg (by omega), if_pos x0, x3]; exact (wM_at x1 (by omega)).symm
    · rw [if_neg (by omega), if_neg (by omega), x3]
  have ul : u.length ≤ 40 := by
    obtain ⟨o1, o2⟩ := okW2_w w3
    rcases hu with ⟨x0, x1, x2, x3⟩ | ⟨x0, x1, x2, x3⟩ | ⟨x0, x3⟩
    · rw [x3, List.getD_eq_getElem?_getD, List.getElem?_eq_getElem (by omega)]; exact (o1 _ (List.getElem_mem _)).1
    · rw [x3, List.getD_eq_getElem?_getD, List.getElem?_eq_getElem (by omega)]; exact (o2 _ (List.getElem_mem _)).1
    · rw [x3, a4]; have := a2.2.1; omega
  have me : MEq h (sI (sI h1 pHo 14 u.length) pHo 17 0) := me_sI (me_sI (MEq_of (FrQ_of f1) (by intro b j; simp only [Pto, pHo, pHo_tape, pWs, pWs_e, pWs_0, pWs_0_c, pSs, pSs_e, pSs_0, pSs_0_c, pAsk, pAsk_c, pRe, pRe_sums, pRe_firsts, pAtom, pAtom_c, pRaised, pRaised_c, pSum0, pSum0_c, pFirst0, pFirst0_c, pTa, pTa_cells, pTa_numbers, pTa_done, pTa_order, pTa_spare, pTa_parents, pTa_melting, pFi, pWa, pWa_queue, pWa_origins, pWa_vias, pWa_lengths, pWa_seen, pSingle, pSingle_c, pHo_told, pLo, pLo_cells, pLo_kept, pLo_keptRows, pLo_names, pLo_met, pSh, pSh_cells, pSh_seen, pSh_queue, pMo, pMo_tape, pMo_text, pMo_words, pMo_wordSize, pMo_subs, pMo_subSize, pMo_asked, pMo_pile, pMo_pileSize, pMo_opened, pMo_openedAt, pMo_begun, pMo_cells, pMo_keptCells, pMo_name, pMo_isLeft, pMo_isDone, pMo_keptLeft, pMo_keptDone, pMo_state, pMo_keptState, pMo_newOf, pMo_oldOf, pMo_spare, pMo_spareDone, pMo_out, pMo_metFrom, pMo_metBy, pMo_far, pMo_low, pMo_lows, pMo_lowSize, pMo_triedRow, pMo_triedColumn, pMo_triedValue, pMo_triedRows, pMo_sheet, pLong, pKt, pKt_cells, pKt_numbers, pKt_done, pKt_order, pKt_spare, pKt_parents, pKt_melting]; omega)) (Or.inl (by decide))) (Or.inl (by decide))
  have mw1 : MW h1 := FrQ_MW (FrQ_of f1) s.1.2
  have nb2 : ¬ tlBad (sI (sI h1 pHo 14 u.length) pHo 17 0) a i := by
    unfold tlBad at nb ⊢
    rw [me pMo 14 (by decide) (by decide), me pMo 15 (by decide) (by decide)]; exact nb
  have eu2 : tWd (sI (sI h1 pHo 14 u.length) pHo 17 0) a i = u := by
    exact (tWd_me me).trans eu
  refine ⟨_, rfl, mw1, rfl, mw1, LL h, L10, MWd_me me w3, AK_me me a2, fun y => absurd y nb2, fun _ h2 f2 gd l2 t2 => ?_⟩
  rw [eu2] at l2 t2 ⊢
  refine ⟨rfl, ?_⟩
  have f0 : FrQ (fun b j => b = 0 ∧ (j = 14 ∨ j = 17)) h1 (sI (sI h1 pHo 14 u.length) pHo 17 0) := FrQ_sI (by decide) (FrQ_sI (by decide) (FrQ_refl _ h1))
  have f := FrQ_two (FrQ_of f1) (FrQ_two f0 (FrQ_of f2))
  have e17 : gI h2 pHo 17 = 0 := by rw [f2.1 pHo 17 (by simp (decide := true) [PTl, Po]), gI_sI, if_pos ⟨rfl, rfl⟩]
  have e14 : gI h2 pHo 14 = u.length := by rw [f2.1 pHo 14 (by simp (decide := true) [PTl, Po]), gI_sI, if_neg (by decide), gI_sI, if_pos ⟨rfl, rfl⟩]
  refine SIM_out s f (by intro b j x; simp only [Pto, PTl, Po, pHo, pHo_tape, pWs, pWs_e, pWs_0, pWs_0_c, pSs, pSs_e, pSs_0, pSs_0_c, pAsk, pAsk_c, pRe, pRe_sums, pRe_firsts, pAtom, pAtom_c, pRaised, pRaised_c, pSum0, pSum0_c, pFirst0, pFirst0_c, pTa, pTa_cells, pTa_numbers, pTa_done, pTa_order, pTa_spare, pTa_parents, pTa_melting, pFi, pWa, pWa_queue, pWa_origins, pWa_vias, pWa_lengths, pWa_seen, pSingle, pSingle_c, pHo_told, pLo, pLo_cells, pLo_kept, pLo_keptRows, pLo_names, pLo_met, pSh, pSh_cells, pSh_seen, pSh_queue, pMo, pMo_tape, pMo_text, pMo_words, pMo_wordSize, pMo_subs, pMo_subSize, pMo_asked, pMo_pile, pMo_pileSize, pMo_opened, pMo_openedAt, pMo_begun, pMo_cells, pMo_keptCells, pMo_name, pMo_isLeft, pMo_isDone, pMo_keptLeft, pMo_keptDone, pMo_state, pMo_keptState, pMo_newOf, pMo_oldOf, pMo_spare, pMo_spareDone, pMo_out, pMo_metFrom, pMo_metBy, pMo_far, pMo_low, pMo_lows, pMo_lowSize, pMo_triedRow, pMo_triedColumn, pMo_triedValue, pMo_triedRows, pMo_sheet, pLong, pKt, pKt_cells, pKt_numbers, pKt_done, pKt_order, pKt_spare, pKt_parents, pKt_melting] at x; (repeat' (refine Or.elim x ?_ ?_ <;> clear x <;> intro x)) <;> first | exact Or.inl (by omega) | exact Or.inr (by simp only [SuA, Su1, Su2, Su3, Su4, Su5, Su6, Su7, Su8, Su9]; omega)) e17 gd.1 gd.2.1 (S7_mk e14 l2 (by omega) (by omega) (fun j j0 j1 => ?_))
  have x1 := t1 j.toNat (by omega)
  have x2 := t2 j.toNat (by omega)
  rw [show ((j.toNat : Nat) : Int) = j by omega] at x1 x2
  rw [x2, f2.1 pHo_told j (by simp (decide := true) [PTl, Po]), f0.1 pHo_told j (by simp (decide := true)), x1]
  rfl
