/-! BOTH CLASSES: letter, cell, row, about, sheet, put -/
theorem wM_at {g s : Int → Int} {n : Int} {i : Int} (h0 : 0 ≤ i) (h1 : i < n) : (wdsM g s n).getD i.toNat [] = seg g (40 * i) (s i).toNat := by
  unfold wdsM
  rw [List.getD_eq_getElem?_getD, List.getElem?_map, List.getElem?_range (by omega)]
  show seg g (40 * ((i.toNat : Nat) : Int)) (s ((i.toNat : Nat) : Int)).toNat = _
  rw [show ((i.toNat : Nat) : Int) = i by omega]
abbrev Pshe (b : Nat) (j : Int) : Prop := b = 112 ∨ (b = 111 ∧ j = 3) ∨ (b = 0 ∧ j = 17) ∨ (b = 115 ∧ (j = 1 ∨ j = 2 ∨ j = 4 ∨ j = 66)) ∨ b = 152
theorem sim_letter {k : Int} {h : PH} (s : SIM k h) {i c b : Int} (hb : b = 0 ∨ b = 1) : SimP Ct_Ho_letter Ct_Mo_letter [.inl i, .inl c, .inl b] k h := by
  obtain ⟨w1, w2, ⟨w3, w4, w5, w6⟩, w7⟩ := s.2.2.1
  have key : ∀ (g z : Int → Int) (n : Int), OKw (LL h) g z n → (if 0 ≤ i ∧ i < ((wdsM g z n).length : Int) ∧ 0 ≤ c ∧ c < (((wdsM g z n).getD i.toNat []).length : Int) then wf ((wdsM g z n).getD i.toNat []) c else -1) = (if 0 ≤ i ∧ i < n ∧ 0 ≤ c ∧ c < z i then g (40 * i + c) else -1) := by
    intro g z n ho
    rw [wdsM_len]
    by_cases x : 0 ≤ i ∧ i < n
    · obtain ⟨o1, o2⟩ := ho
      have := o2 i x.1 x.2
      rw [wM_at x.1 x.2, seg_len]
      by_cases y : 0 ≤ c ∧ c < z i
      · rw [if_pos ⟨x.1, by omega, y.1, by omega⟩, if_pos ⟨x.1, x.2, y⟩]
        have e := @seg_wf g (z i).toNat (40 * i) c.toNat (by omega)
        rw [show ((c.toNat : Nat) : Int) = c by omega] at e
        exact e.symm
      · rw [if_neg (fun q => y ⟨q.2.2.1, by omega⟩), if_neg (fun q => y q.2.2)]
    · have := ho.1
      rw [if_neg (fun q => x ⟨q.1, by omega⟩), if_neg (fun q => x ⟨q.1, q.2.1⟩)]
  rcases hb with rfl | rfl
  · refine ⟨rfl, s.1.1, wM h, w1, _, rfl, s.1.2, rfl, s.1.2, Or.inl rfl, w4, w6, w7.1, w7.2, ?_, SIM_4 s⟩
    rw [if_pos rfl, ← key _ _ _ w3]; rfl
  · refine ⟨rfl, s.1.1, uM h, w2, _, rfl, s.1.2, rfl, s.1.2, Or.inr rfl, w4, w6, w7.1, w7.2, ?_, SIM_4 s⟩
    rw [if_neg (by decide), ← key _ _ _ w5]; rfl
theorem sim_cell {k : Int} {h : PH} (s : SIM k h) {r c : Int} : SimP Ct_Ho_cell Ct_Mo_cell [.inl r, .inl c] k h := by
  obtain ⟨-, t2, -, -, t5, t6⟩ := s.2.2.2.2.2.1
  obtain ⟨l1, -⟩ := s.2.1
  refine ⟨rfl, s.1.1, fun z => ⟨_, rfl, s.1.2, rfl, s.1.2, t2.2, l1.1, l1.2, by rw [if_neg (fun y => y.1 (t5.mp z))], SIM_4 s⟩, fun z => ?_⟩
  have z' : gI h pMo 32 ≠ 0 := fun y => z (t5.mpr y)
  obtain ⟨x1, -⟩ := t6 z'
  refine ⟨LL h, atM h, x1, by show 2 * _ ≤ _; omega, _, rfl, s.1.2, rfl, s.1.2, t2.2, l1.1, l1.2, ?_, SIM_4 s⟩
  have e0 : aS (atM h) 0 = gI h pMo_state 0 := aS_atM (by decide) (by decide)
  rw [e0]
  by_cases q : 0 ≤ r ∧ r < gI h pMo_state 0 ∧ 0 ≤ c ∧ c < 2 * gI h pMo 0
  · rw [if_pos (show gI h pMo 32 ≠ 0 ∧ 0 ≤ r ∧ r < gI h pMo_state 0 ∧ 0 ≤ c ∧ c < 2 * gI h pMo 0 from ⟨z', q⟩), if_pos (show 0 ≤ c ∧ c < LL h ∧ 0 ≤ r ∧ r < gI h pMo_state 0 from ⟨q.2.2.1, q.2.2.2, q.1, q.2.1⟩)]
    by_cases y : gI h pMo_isLeft r ≠ 0
    · have v : VV (atM h) r := VV_atM.mpr ⟨q.1, q.2.1, y⟩
      rw [if_pos y, if_pos (show aV (atM h) r ≠ 0 from v), aE_atM v q.2.2.1 (by omega)]
    · rw [if_neg y, if_neg (show ¬ aV (atM h) r ≠ 0 from fun v => y (VV_atM.mp v).2.2)]
  · rw [if_neg (show ¬ (gI h pMo 32 ≠ 0 ∧ 0 ≤ r ∧ r < gI h pMo_state 0 ∧ 0 ≤ c ∧ c < 2 * gI h pMo 0) from fun y => q y.2), if_neg (show ¬ (0 ≤ c ∧ c < LL h ∧ 0 ≤ r ∧ r < gI h pMo_state 0) from fun y => q ⟨y.2.2.1, y.2.2.2, y.1, y.2.1⟩)]
theorem TX_of {k : Int} {h : PH} (s : SIM k h) (hk : k ≤ 600) (z : gI h pMo 32 ≠ 0) : ∃ Q, 0 ≤ Q ∧ Q ≤ k ∧ TX (LL h) Q h ∧ TaR h (LL h) (atM h) ∧ FU (LL h) (atM h) ∧ aS (atM h) 5 ≤ 2000 * k ∧ gI h pMo_state 5 ≤ 2000 * k := by
  obtain ⟨t1, t2, -, -, t5, t6⟩ := s.2.2.2.2.2.1
  obtain ⟨l1, -⟩ := s.2.1
  obtain ⟨x1, x2, x3, Q, x4, x5, x6⟩ := t6 z
  exact ⟨Q, x4, x5, ⟨rfl, ⟨by show 2 ≤ 2 * _; omega, by show 2 * _ ≤ _; omega⟩, x6, by omega, s.2.2.1.2.2.1, t1⟩, x1, x2, x3, by rw [← aS_atM (by decide) (by decide)]; exact x3⟩
theorem ht_iff {k : Int} {h : PH} (s : SIM k h) : gI h pHo 10 = 0 ↔ gI h pMo 32 = 0 := s.2.2.2.2.2.1.2.2.2.2.1
theorem e18 {h : PH} {L : Int} (x : TaR h L (atM h)) : gI h pTa 18 = gI h pMo_state 6 := x.1.2.2.2.2.2.1.trans (aS_atM (by decide) (by decide))
theorem sim_about {k : Int} {h : PH} (s : SIM k h) (hk : k ≤ 600) {i : Int} : SimP Ct_Ho_about Ct_Mo_about [.inl i] k h := by
  refine ⟨rfl, s.1.1, fun z => ⟨_, rfl, s.1.2, rfl, s.1.2, fun _ => ⟨rfl, SIM_4 s⟩, fun y => absurd ((ht_iff s).mp z) y⟩, fun z => ?_⟩
  have z' : gI h pMo 32 ≠ 0 := fun y => z ((ht_iff s).mpr y)
  obtain ⟨Q, q0, q1, tx, tr, fu, a5, a6⟩ := TX_of s hk z'
  refine ⟨LL h, Q, atM h, by have := tx.2.1; omega, tx.2.1.2, tr, tx.2.2.1, _, rfl, s.1.2, rfl, s.1.2, fun y => absurd y z', fun _ => ⟨LL h, Q, tx, ?_, SIM_4 s⟩⟩
  unfold abV
  rw [tx.2.2.1.2.2.2.2.2.2.1.1]
theorem rowAt_uniq {f : Int → Int} {N : Nat} {i v v' : Int} (h : rowAt f N i v) (h' : rowAt f N i v') : v = v' := by
  rcases h with ⟨r, r1, r2, r3, rfl⟩ | ⟨q, rfl⟩ <;> rcases h' with ⟨r', r1', r2', r3', rfl⟩ | ⟨q', rfl⟩
  · have := cnN_inj r2 r2' (by omega); rw [this]
  · have := cnN_slt r2 r1; omega
  · have := cnN_slt r2' r1'; omega
  · rfl
theorem sim_row {k : Int} {h : PH} (s : SIM k h) (hk : k ≤ 600) {i : Int} : SimP Ct_Ho_row Ct_Mo_row [.inl i] k h := by
  refine ⟨rfl, s.1.1, fun z => ⟨_, rfl, s.1.2, rfl, s.1.2, fun _ => ⟨rfl, SIM_4 s⟩, fun y => absurd ((ht_iff s).mp z) y⟩, fun z => ?_⟩
  have z' : gI h pMo 32 ≠ 0 := fun y => z ((ht_iff s).mpr y)
  obtain ⟨Q, q0, q1, tx, tr, fu, a5, a6⟩ := TX_of s hk z'
  obtain ⟨g1, g2, g3, g4⟩ := tr
  have wt := tx.2.2.1
  have n0 : (0 : Int) ≤ gI h pMo_state 0 ∧ gI h pMo_state 0 ≤ 2000 := by have := wt.2.2.2.2.1; rw [aS_atM (by decide) (by decide)] at this; omega
  have n3 : gI h pTa 12 ≤ 300 := by rw [g1.2.1]; have := wt.2.2.2.2.2.1; omega
  refine ⟨n3, fun j j0 j1 => ⟨(g2.1 j j0 j1).1, (g2.1 j j0 j1).2.1⟩, _, rfl, s.1.2, rfl, s.1.2, fun y => absurd y z', fun _ => ⟨(gI h pMo_state 0).toNat, by omega, by omega, fun v hv => ⟨?_, SIM_4 s⟩⟩⟩
  have key : rowAt (gI h pMo_isLeft) (gI h pMo_state 0).toNat i (if 0 ≤ i ∧ i < gI h pTa 12 then gI h pTa_numbers (gI h pTa_order i) else -1) := by
    have cc : ∀ m : Nat, m ≤ (gI h pMo_state 0).toNat → cnN (aV (atM h)) m = cnN (gI h pMo_isLeft) m := by
      intro m
      induction m with
      | zero => intro _; rfl
      | succ m ih =>
        intro hm
        by_cases q : gI h pMo_isLeft m ≠ 0
        · rw [cnN_succ q, cnN_succ (show aV (atM h) m ≠ 0 from VV_atM.mpr ⟨by omega, by omega, q⟩), ih (by omega)]
        · rw [cnN_skip (Classical.not_not.mp q), cnN_skip (Classical.not_not.mp (fun v => q (VV_atM.mp v).2.2)), ih (by omega)]
    by_cases q : 0 ≤ i ∧ i < gI h pTa 12
    · rw [if_pos q]
      have r1 := g2.1 i q.1 q.2
      have r2 := TaG_rk g2 g3 q.1 q.2
      have v : VV (atM h) (gI h pTa_numbers (gI h pTa_order i)) := (g3.1 _).mpr ⟨_, TgO_lf g2 q.1 q.2, rfl⟩
      have v2 := VV_atM.mp v
      refine Or.inl ⟨(gI h pTa_numbers (gI h pTa_order i)).toNat, by omega, ?_, ?_, by omega⟩
      · rw [show (((gI h pTa_numbers (gI h pTa_order i)).toNat : Nat) : Int) = gI h pTa_numbers (gI h pTa_order i) by omega]; exact v2.2.2
      · rw [← cc _ (by omega)]; exact r2
    · rw [if_neg q]
      refine Or.inr ⟨?_, rfl⟩
      rw [← cc _ (Nat.le_refl _)]
      have e1 := wt.2.2.2.2.2.1.1
      have en : aN (atM h) = (gI h pMo_state 0).toNat := by show (aS (atM h) 0).toNat = _; rw [aS_atM (by decide) (by decide)]
      rw [en] at e1
      have e2 := g1.2.1
      omega
  rw [rowAt_uniq hv key]
theorem sim_sheet {k : Int} {h : PH} (s : SIM k h) {n : Int} : SimP Ct_Ho_sheet Ct_Mo_sheet [.inl n] k h := by
  refine ⟨rfl, s.1.1, fun z => ⟨_, rfl, s.1.2, rfl, s.1.2, fun y => absurd y z, fun _ => ⟨rfl, SIM_no s (by decide)⟩⟩, fun z1 z2 h1 f1 g1 g2 => ?_⟩
  have m1 : MW h1 := FrQ_MW (FrQ_of f1) s.1.2
  refine ⟨_, rfl, m1, rfl, m1, fun _ => ⟨rfl, ?_⟩, fun y => absurd ⟨z1, z2⟩ y⟩
  have f : FrQ Pshe h (sI (sI (sA (sI (sI (sI h1 pHo 17 0) pMo 4 0) pMo 66 n) pMo_sheet (fun j => if 0 ≤ j ∧ j < 400 then -2 else gI (sI h1 pHo 17 0) pMo_sheet j)) pMo 1 0) pMo 2 (-1)) := by
    refine FrQ_sI (by decide) (FrQ_sI (by decide) (FrQ_of (FrP_sA (fun j => by simp (decide := true) [Pshe]) (FrP_sI (by decide) (FrP_sI (by decide) (FrP_sI (by decide) (FrP_mono (fun b j z => ?_) f1)))))))
    rcases z with z | z
    · exact Or.inl z
    · exact Or.inr (Or.inl z)
  generalize eh : sI (sI (sA (sI (sI (sI h1 pHo 17 0) pMo 4 0) pMo 66 n) pMo_sheet (fun j => if 0 ≤ j ∧ j < 400 then -2 else gI (sI h1 pHo 17 0) pMo_sheet j)) pMo 1 0) pMo 2 (-1) = h2 at f
  have g : gI h2 pHo 17 = 0 ∧ gI h2 pMo 1 = 0 ∧ gI h2 pMo 2 = -1 ∧ gI h2 pMo 66 = n ∧ gI h2 pSh 3 = n := by
    rw [← eh]
    simp (decide := true) only [gI_sI, gI_sA, if_true, if_false, g1]
  refine SIM_fr s f (Or.inl (by intro b j; simp only [Su1, Su2, Su3, Su4, Su5, Su6, Su7, Su8, Su9, Pshe, pHo, pHo_tape, pWs, pWs_e, pWs_0, pWs_0_c, pSs, pSs_e, pSs_0, pSs_0_c, pAsk, pAsk_c, pRe, pRe_sums, pRe_firsts, pAtom, pAtom_c, pRaised, pRaised_c, pSum0, pSum0_c, pFirst0, pFirst0_c, pTa, pTa_cells, pTa_numbers, pTa_done, pTa_order, pTa_spare, pTa_parents, pTa_melting, pFi, pWa, pWa_queue, pWa_origins, pWa_vias, pWa_lengths, pWa_seen, pSingle, pSingle_c, pHo_told, pLo, pLo_cells, pLo_kept, pLo_keptRows, pLo_names, pLo_met, pSh, pSh_cells, pSh_seen, pSh_queue, pMo, pMo_tape, pMo_text, pMo_words, pMo_wordSize, pMo_subs, pMo_subSize, pMo_asked, pMo_pile, pMo_pileSize, pMo_opened, pMo_openedAt, pMo_begun, pMo_cells, pMo_keptCells, pMo_name, pMo_isLeft, pMo_isDone, pMo_keptLeft, pMo_keptDone, pMo_state, pMo_keptState, pMo_newOf, pMo_oldOf, pMo_spare, pMo_spareDone, pMo_out, pMo_metFrom, pMo_metBy, pMo_far, pMo_low, pMo_lows, pMo_lowSize, pMo_triedRow, pMo_triedColumn, pMo_triedValue, pMo_triedRows, pMo_sheet, pLong, pKt, pKt_cells, pKt_numbers, pKt_done, pKt_order, pKt_spare, pKt_parents, pKt_melting] <;> omega)) (Or.inl (by intro b j; simp only [Su1, Su2, Su3, Su4, Su5, Su6, Su7, Su8, Su9, Pshe, pHo, pHo_tape, pWs, pWs_e, pWs_0, pWs_0_c, pSs, pSs_e, pSs_0, pSs_0_c, pAsk, pAsk_c, pRe, pRe_sums, pRe_firsts, pAtom, pAtom_c, pRaised, pRaised_c, pSum0, pSum0_c, pFirst0, pFirst0_c, pTa, pTa_cells, pTa_numbers, pTa_done, pTa_order, pTa_spare, pTa_parents, pTa_melting, pFi, pWa, pWa_queue, pWa_origins, pWa_vias, pWa_lengths, pWa_seen, pSingle, pSingle_c, pHo_told, pLo, pLo_cells, pLo_kept, pLo_keptRows, pLo_names, pLo_met, pSh, pSh_cells, pSh_seen, pSh_queue, pMo, pMo_tape, pMo_text, pMo_words, pMo_wordSize, pMo_subs, pMo_subSize, pMo_asked, pMo_pile, pMo_pileSize, pMo_opened, pMo_openedAt, pMo_begun, pMo_cells, pMo_keptCells, pMo_name, pMo_isLeft, pMo_isDone, pMo_keptLeft, pMo_keptDone, pMo_state, pMo_keptState, pMo_newOf, pMo_oldOf, pMo_spare, pMo_spareDone, pMo_out, pMo_metFrom, pMo_metBy, pMo_far, pMo_low, pMo_lows, pMo_lowSize, pMo_triedRow, pMo_triedColumn, pMo_triedValue, pMo_triedRows, pMo_sheet, pLong, pKt, pKt_cells, pKt_numbers, pKt_done, pKt_order, pKt_spare, pKt_parents, pKt_melting] <;> omega)) (Or.inl (by intro b j; simp only [Su1, Su2, Su3, Su4, Su5, Su6, Su7, Su8, Su9, Pshe, pHo, pHo_tape, pWs, pWs_e, pWs_0, pWs_0_c, pSs, pSs_e, pSs_0, pSs_0_c, pAsk, pAsk_c, pRe, pRe_sums, pRe_firsts, pAtom, pAtom_c, pRaised, pRaised_c, pSum0, pSum0_c, pFirst0, pFirst0_c, pTa, pTa_cells, pTa_numbers, pTa_done, pTa_order, pTa_spare, pTa_parents, pTa_melting, pFi, pWa, pWa_queue, pWa_origins, pWa_vias, pWa_lengths, pWa_seen, pSingle, pSingle_c, pHo_told, pLo, pLo_cells, pLo_kept, pLo_keptRows, pLo_names, pLo_met, pSh, pSh_cells, pSh_seen, pSh_queue, pMo, pMo_tape, pMo_text, pMo_words, pMo_wordSize, pMo_subs, pMo_subSize, pMo_asked, pMo_pile, pMo_pileSize, pMo_opened, pMo_openedAt, pMo_begun, pMo_cells, pMo_keptCells, pMo_name, pMo_isLeft, pMo_isDone, pMo_keptLeft, pMo_keptDone, pMo_state, pMo_keptState, pMo_newOf, pMo_oldOf, pMo_spare, pMo_spareDone, pMo_out, pMo_metFrom, pMo_metBy, pMo_far, pMo_low, pMo_lows, pMo_lowSize, pMo_triedRow, pMo_triedColumn, pMo_triedValue, pMo_triedRows, pMo_sheet, pLong, pKt, pKt_cells, pKt_numbers, pKt_done, pKt_order, pKt_spare, pKt_parents, pKt_melting] <;> omega)) (Or.inr ?_) (Or.inl (by intro b j; simp only [Su1, Su2, Su3, Su4, Su5, Su6, Su7, Su8, Su9, Pshe, pHo, pHo_tape, pWs, pWs_e, pWs_0, pWs_0_c, pSs, pSs_e, pSs_0, pSs_0_c, pAsk, pAsk_c, pRe, pRe_sums, pRe_firsts, pAtom, pAtom_c, pRaised, pRaised_c, pSum0, pSum0_c, pFirst0, pFirst0_c, pTa, pTa_cells, pTa_numbers, pTa_done, pTa_order, pTa_spare, pTa_parents, pTa_melting, pFi, pWa, pWa_queue, pWa_origins, pWa_vias, pWa_lengths, pWa_seen, pSingle, pSingle_c, pHo_told, pLo, pLo_cells, pLo_kept, pLo_keptRows, pLo_names, pLo_met, pSh, pSh_cells, pSh_seen, pSh_queue, pMo, pMo_tape, pMo_text, pMo_words, pMo_wordSize, pMo_subs, pMo_subSize, pMo_asked, pMo_pile, pMo_pileSize, pMo_opened, pMo_openedAt, pMo_begun, pMo_cells, pMo_keptCells, pMo_name, pMo_isLeft, pMo_isDone, pMo_keptLeft, pMo_keptDone, pMo_state, pMo_keptState, pMo_newOf, pMo_oldOf, pMo_spare, pMo_spareDone, pMo_out, pMo_metFrom, pMo_metBy, pMo_far, pMo_low, pMo_lows, pMo_lowSize, pMo_triedRow, pMo_triedColumn, pMo_triedValue, pMo_triedRows, pMo_sheet, pLong, pKt, pKt_cells, pKt_numbers, pKt_done, pKt_order, pKt_spare, pKt_parents, pKt_melting] <;> omega)) (Or.inl (by intro b j; simp only [Su1, Su2, Su3, Su4, Su5, Su6, Su7, Su8, Su9, Pshe, pHo, pHo_tape, pWs, pWs_e, pWs_0, pWs_0_c, pSs, pSs_e, pSs_0, pSs_0_c, pAsk, pAsk_c, pRe, pRe_sums, pRe_firsts, pAtom, pAtom_c, pRaised, pRaised_c, pSum0, pSum0_c, pFirst0, pFirst0_c, pTa, pTa_cells, pTa_numbers, pTa_done, pTa_order, pTa_spare, pTa_parents, pTa_melting, pFi, pWa, pWa_queue, pWa_origins, pWa_vias, pWa_lengths, pWa_seen, pSingle, pSingle_c, pHo_told, pLo, pLo_cells, pLo_kept, pLo_keptRows, pLo_names, pLo_met, pSh, pSh_cells, pSh_seen, pSh_queue, pMo, pMo_tape, pMo_text, pMo_words, pMo_wordSize, pMo_subs, pMo_subSize, pMo_asked, pMo_pile, pMo_pileSize, pMo_opened, pMo_openedAt, pMo_begun, pMo_cells, pMo_keptCells, pMo_name, pMo_isLeft, pMo_isDone, pMo_keptLeft, pMo_keptDone, pMo_state, pMo_keptState, pMo_newOf, pMo_oldOf, pMo_spare, pMo_spareDone, pMo_out, pMo_metFrom, pMo_metBy, pMo_far, pMo_low, pMo_lows, pMo_lowSize, pMo_triedRow, pMo_triedColumn, pMo_triedValue, pMo_triedRows, pMo_sheet, pLong, pKt, pKt_cells, pKt_numbers, pKt_done, pKt_order, pKt_spare, pKt_parents, pKt_melting] <;> omega)) (Or.inl (by intro b j; simp only [Su1, Su2, Su3, Su4, Su5, Su6, Su7, Su8, Su9, Pshe, pHo, pHo_tape, pWs, pWs_e, pWs_0, pWs_0_c, pSs, pSs_e, pSs_0, pSs_0_c, pAsk, pAsk_c, pRe, pRe_sums, pRe_firsts, pAtom, pAtom_c, pRaised, pRaised_c, pSum0, pSum0_c, pFirst0, pFirst0_c, pTa, pTa_cells, pTa_numbers, pTa_done, pTa_order, pTa_spare, pTa_parents, pTa_melting, pFi, pWa, pWa_queue, pWa_origins, pWa_vias, pWa_lengths, pWa_seen, pSingle, pSingle_c, pHo_told, pLo, pLo_cells, pLo_kept, pLo_keptRows, pLo_names, pLo_met, pSh, pSh_cells, pSh_seen, pSh_queue, pMo, pMo_tape, pMo_text, pMo_words, pMo_wordSize, pMo_subs, pMo_subSize, pMo_asked, pMo_pile, pMo_pileSize, pMo_opened, pMo_openedAt, pMo_begun, pMo_cells, pMo_keptCells, pMo_name, pMo_isLeft, pMo_isDone, pMo_keptLeft, pMo_keptDone, pMo_state, pMo_keptState, pMo_newOf, pMo_oldOf, pMo_spare, pMo_spareDone, pMo_out, pMo_metFrom, pMo_metBy, pMo_far, pMo_low, pMo_lows, pMo_lowSize, pMo_triedRow, pMo_triedColumn, pMo_triedValue, pMo_triedRows, pMo_sheet, pLong, pKt, pKt_cells, pKt_numbers, pKt_done, pKt_order, pKt_spare, pKt_parents, pKt_melting] <;> omega)) (Or.inl (by intro b j; simp only [Su1, Su2, Su3, Su4, Su5, Su6, Su7, Su8, Su9, Pshe, pHo, pHo_tape, pWs, pWs_e, pWs_0, pWs_0_c, pSs, pSs_e, pSs_0, pSs_0_c, pAsk, pAsk_c, pRe, pRe_sums, pRe_firsts, pAtom, pAtom_c, pRaised, pRaised_c, pSum0, pSum0_c, pFirst0, pFirst0_c, pTa, pTa_cells, pTa_numbers, pTa_done, pTa_order, pTa_spare, pTa_parents, pTa_melting, pFi, pWa, pWa_queue, pWa_origins, pWa_vias, pWa_lengths, pWa_seen, pSingle, pSingle_c, pHo_told, pLo, pLo_cells, pLo_kept, pLo_keptRows, pLo_names, pLo_met, pSh, pSh_cells, pSh_seen, pSh_queue, pMo, pMo_tape, pMo_text, pMo_words, pMo_wordSize, pMo_subs, pMo_subSize, pMo_asked, pMo_pile, pMo_pileSize, pMo_opened, pMo_openedAt, pMo_begun, pMo_cells, pMo_keptCells, pMo_name, pMo_isLeft, pMo_isDone, pMo_keptLeft, pMo_keptDone, pMo_state, pMo_keptState, pMo_newOf, pMo_oldOf, pMo_spare, pMo_spareDone, pMo_out, pMo_metFrom, pMo_metBy, pMo_far, pMo_low, pMo_lows, pMo_lowSize, pMo_triedRow, pMo_triedColumn, pMo_triedValue, pMo_triedRows, pMo_sheet, pLong, pKt, pKt_cells, pKt_numbers, pKt_done, pKt_order, pKt_spare, pKt_parents, pKt_melting] <;> omega)) (Or.inr ?_)
  · exact S4_ok (by rw [f.1 pRe 9 (by decide), f.1 pMo 3 (by decide)]; exact s.2.2.2.2.1.1) g.1 g.2.1 g.2.2.1
  · refine ⟨by rw [g.2.2.2.1, g.2.2.2.2], by rw [g.2.2.2.1]; exact ⟨z1, z2⟩, fun j j0 j1 => ?_⟩
    have e1 := g2 j j0 j1
    rw [← eh]
    simp (decide := true) only [gI_sI, gI_sA, if_true, if_false, false_and]
    rw [if_pos ⟨j0, j1⟩]; exact e1
theorem sim_put {k : Int} {h : PH} (s : SIM k h) {r c v : Int} : SimP Ct_Ho_put Ct_Mo_put [.inl r, .inl c, .inl v] k h := by
  obtain ⟨q1, q2, q3⟩ := s.2.2.2.2.2.2.2.2.2
  refine ⟨rfl, s.1.1, by omega, fun z => ⟨_, rfl, s.1.2, rfl, s.1.2, by show gI h pMo 66 ≤ 40; omega, fun _ => ⟨rfl, ?_⟩, fun y => absurd (show 0 ≤ r ∧ r < gI h pMo 66 ∧ 0 ≤ c ∧ c ≤ 9 from q1 ▸ z) y⟩, fun z => ⟨_, rfl, s.1.2, rfl, s.1.2, by show gI h pMo 66 ≤ 40; omega, fun y => absurd (show 0 ≤ r ∧ r < gI h pSh 3 ∧ 0 ≤ c ∧ c ≤ 9 from q1.symm ▸ y) z, fun _ => ⟨rfl, SIM_no s (by decide)⟩⟩⟩
  have f : FrQ Pshe h (sI (sI (sI (sI (sI (sI h pSh_cells (10 * r + c) v) pHo 17 0) pMo 4 0) pMo_sheet (10 * r + c) v) pMo 1 0) pMo 2 (-1)) := FrQ_sI (by decide) (FrQ_sI (by decide) (FrQ_sI (by simp (decide := true) [Pshe]) (FrQ_sI (by decide) (FrQ_sI (by decide) (FrQ_sI (by simp (decide := true) [Pshe]) (FrQ_refl Pshe h))))))
  generalize eh : sI (sI (sI (sI (sI (sI h pSh_cells (10 * r + c) v) pHo 17 0) pMo 4 0) pMo_sheet (10 * r + c) v) pMo 1 0) pMo 2 (-1) = h2 at f
  have g : gI h2 pHo 17 = 0 ∧ gI h2 pMo 1 = 0 ∧ gI h2 pMo 2 = -1 ∧ gI h2 pMo 66 = gI h pMo 66 ∧ gI h2 pSh 3 = gI h pSh 3 := by
    rw [← eh]
    simp (decide := true) only [gI_sI, gI_sA, if_true, if_false, false_and]
  refine SIM_fr s f (Or.inl (by intro b j; simp only [Su1, Su2, Su3, Su4, Su5, Su6, Su7, Su8, Su9, Pshe, pHo, pHo_tape, pWs, pWs_e, pWs_0, pWs_0_c, pSs, pSs_e, pSs_0, pSs_0_c, pAsk, pAsk_c, pRe, pRe_sums, pRe_firsts, pAtom, pAtom_c, pRaised, pRaised_c, pSum0, pSum0_c, pFirst0, pFirst0_c, pTa, pTa_cells, pTa_numbers, pTa_done, pTa_order, pTa_spare, pTa_parents, pTa_melting, pFi, pWa, pWa_queue, pWa_origins, pWa_vias, pWa_lengths, pWa_seen, pSingle, pSingle_c, pHo_told, pLo, pLo_cells, pLo_kept, pLo_keptRows, pLo_names, pLo_met, pSh, pSh_cells, pSh_seen, pSh_queue, pMo, pMo_tape, pMo_text, pMo_words, pMo_wordSize, pMo_subs, pMo_subSize, pMo_asked, pMo_pile, pMo_pileSize, pMo_opened, pMo_openedAt, pMo_begun, pMo_cells, pMo_keptCells, pMo_name, pMo_isLeft, pMo_isDone, pMo_keptLeft, pMo_keptDone, pMo_state, pMo_keptState, pMo_newOf, pMo_oldOf, pMo_spare, pMo_spareDone, pMo_out, pMo_metFrom, pMo_metBy, pMo_far, pMo_low, pMo_lows, pMo_lowSize, pMo_triedRow, pMo_triedColumn, pMo_triedValue, pMo_triedRows, pMo_sheet, pLong, pKt, pKt_cells, pKt_numbers, pKt_done, pKt_order, pKt_spare, pKt_parents, pKt_melting] <;> omega)) (Or.inl (by intro b j; simp only [Su1, Su2, Su3, Su4, Su5, Su6, Su7, Su8, Su9, Pshe, pHo, pHo_tape, pWs, pWs_e, pWs_0, pWs_0_c, pSs, pSs_e, pSs_0, pSs_0_c, pAsk, pAsk_c, pRe, pRe_sums, pRe_firsts, pAtom, pAtom_c, pRaised, pRaised_c, pSum0, pSum0_c, pFirst0, pFirst0_c, pTa, pTa_cells, pTa_numbers, pTa_done, pTa_order, pTa_spare, pTa_parents, pTa_melting, pFi, pWa, pWa_queue, pWa_origins, pWa_vias, pWa_lengths, pWa_seen, pSingle, pSingle_c, pHo_told, pLo, pLo_cells, pLo_kept, pLo_keptRows, pLo_names, pLo_met, pSh, pSh_cells, pSh_seen, pSh_queue, pMo, pMo_tape, pMo_text, pMo_words, pMo_wordSize, pMo_subs, pMo_subSize, pMo_asked, pMo_pile, pMo_pileSize, pMo_opened, pMo_openedAt, pMo_begun, pMo_cells, pMo_keptCells, pMo_name, pMo_isLeft, pMo_isDone, pMo_keptLeft, pMo_keptDone, pMo_state, pMo_keptState, pMo_newOf, pMo_oldOf, pMo_spare, pMo_spareDone, pMo_out, pMo_metFrom, pMo_metBy, pMo_far, pMo_low, pMo_lows, pMo_lowSize, pMo_triedRow, pMo_triedColumn, pMo_triedValue, pMo_triedRows, pMo_sheet, pLong, pKt, pKt_cells, pKt_numbers, pKt_done, pKt_order, pKt_spare, pKt_parents, pKt_melting] <;> omega)) (Or.inl (by intro b j; simp only [Su1, Su2, Su3, Su4, Su5, Su6, Su7, Su8, Su9, Pshe, pHo, pHo_tape, pWs, pWs_e, pWs_0, pWs_0_c, pSs, pSs_e, pSs_0, pSs_0_c, pAsk, pAsk_c, pRe, pRe_sums, pRe_firsts, pAtom, pAtom_c, pRaised, pRaised_c, pSum0, pSum0_c, pFirst0, pFirst0_c, pTa, pTa_cells, pTa_numbers, pTa_done, pTa_order, pTa_spare, pTa_parents, pTa_melting, pFi, pWa, pWa_queue, pWa_origins, pWa_vias, pWa_lengths, pWa_seen, pSingle, pSingle_c, pHo_told, pLo, pLo_cells, pLo_kept, pLo_keptRows, pLo_names, pLo_met, pSh, pSh_cells, pSh_seen, pSh_queue, pMo, pMo_tape, pMo_text, pMo_words, pMo_wordSize, pMo_subs, pMo_subSize, pMo_asked, pMo_pile, pMo_pileSize, pMo_opened, pMo_openedAt, pMo_begun, pMo_cells, pMo_keptCells, pMo_name, pMo_isLeft, pMo_isDone, pMo_keptLeft, pMo_keptDone, pMo_state, pMo_keptState, pMo_newOf, pMo_oldOf, pMo_spare, pMo_spareDone, pMo_out, pMo_metFrom, pMo_metBy, pMo_far, pMo_low, pMo_lows, pMo_lowSize, pMo_triedRow, pMo_triedColumn, pMo_triedValue, pMo_triedRows, pMo_sheet, pLong, pKt, pKt_cells, pKt_numbers, pKt_done, pKt_order, pKt_spare, pKt_parents, pKt_melting] <;> omega)) (Or.inr ?_) (Or.inl (by intro b j; simp only [Su1, Su2, Su3, Su4, Su5, Su6, Su7, Su8, Su9, Pshe, pHo, pHo_tape, pWs, pWs_e, pWs_0, pWs_0_c, pSs, pSs_e, pSs_0, pSs_0_c, pAsk, pAsk_c, pRe, pRe_sums, pRe_firsts, pAtom, pAtom_c, pRaised, pRaised_c, pSum0, pSum0_c, pFirst0, pFirst0_c, pTa, pTa_cells, pTa_numbers, pTa_done, pTa_order, pTa_spare, pTa_parents, pTa_melting, pFi, pWa, pWa_queue, pWa_origins, pWa_vias, pWa_lengths, pWa_seen, pSingle, pSingle_c, pHo_told, pLo, pLo_cells, pLo_kept, pLo_keptRows, pLo_names, pLo_met, pSh, pSh_cells, pSh_seen, pSh_queue, pMo, pMo_tape, pMo_text, pMo_words, pMo_wordSize, pMo_subs, pMo_subSize, pMo_asked, pMo_pile, pMo_pileSize, pMo_opened, pMo_openedAt, pMo_begun, pMo_cells, pMo_keptCells, pMo_name, pMo_isLeft, pMo_isDone, pMo_keptLeft, pMo_keptDone, pMo_state, pMo_keptState, pMo_newOf, pMo_oldOf, pMo_spare, pMo_spareDone, pMo_out, pMo_metFrom, pMo_metBy, pMo_far, pMo_low, pMo_lows, pMo_lowSize, pMo_triedRow, pMo_triedColumn, pMo_triedValue, pMo_triedRows, pMo_sheet, pLong, pKt, pKt_cells, pKt_numbers, pKt_done, pKt_order, pKt_spare, pKt_parents, pKt_melting] <;> omega)) (Or.inl (by intro b j; simp only [Su1, Su2, Su3, Su4, Su5, Su6, Su7, Su8, Su9, Pshe, pHo, pHo_tape, pWs, pWs_e, pWs_0, pWs_0_c, pSs, pSs_e, pSs_0, pSs_0_c, pAsk, pAsk_c, pRe, pRe_sums, pRe_firsts, pAtom, pAtom_c, pRaised, pRaised_c, pSum0, pSum0_c, pFirst0, pFirst0_c, pTa, pTa_cells, pTa_numbers, pTa_done, pTa_order, pTa_spare, pTa_parents, pTa_melting, pFi, pWa, pWa_queue, pWa_origins, pWa_vias, pWa_lengths, pWa_seen, pSingle, pSingle_c, pHo_told, pLo, pLo_cells, pLo_kept, pLo_keptRows, pLo_names, pLo_met, pSh, pSh_cells, pSh_seen, pSh_queue, pMo, pMo_tape, pMo_text, pMo_words, pMo_wordSize, pMo_subs, pMo_subSize, pMo_asked, pMo_pile, pMo_pileSize, pMo_opened, pMo_openedAt, pMo_begun, pMo_cells, pMo_keptCells, pMo_name, pMo_isLeft, pMo_isDone, pMo_keptLeft, pMo_keptDone, pMo_state, pMo_keptState, pMo_newOf, pMo_oldOf, pMo_spare, pMo_spareDone, pMo_out, pMo_metFrom, pMo_metBy, pMo_far, pMo_low, pMo_lows, pMo_lowSize, pMo_triedRow, pMo_triedColumn, pMo_triedValue, pMo_triedRows, pMo_sheet, pLong, pKt, pKt_cells, pKt_numbers, pKt_done, pKt_order, pKt_spare, pKt_parents, pKt_melting] <;> omega)) (Or.inl (by intro b j; simp only [Su1, Su2, Su3, Su4, Su5, Su6, Su7, Su8, Su9, Pshe, pHo, pHo_tape, pWs, pWs_e, pWs_0, pWs_0_c, pSs, pSs_e, pSs_0, pSs_0_c, pAsk, pAsk_c, pRe, pRe_sums, pRe_firsts, pAtom, pAtom_c, pRaised, pRaised_c, pSum0, pSum0_c, pFirst0, pFirst0_c, pTa, pTa_cells, pTa_numbers, pTa_done, pTa_order, pTa_spare, pTa_parents, pTa_melting, pFi, pWa, pWa_queue, pWa_origins, pWa_vias, pWa_lengths, pWa_seen, pSingle, pSingle_c, pHo_told, pLo, pLo_cells, pLo_kept, pLo_keptRows, pLo_names, pLo_met, pSh, pSh_cells, pSh_seen, pSh_queue, pMo, pMo_tape, pMo_text, pMo_words, pMo_wordSize, pMo_subs, pMo_subSize, pMo_asked, pMo_pile, pMo_pileSize, pMo_opened, pMo_openedAt, pMo_begun, pMo_cells, pMo_keptCells, pMo_name, pMo_isLeft, pMo_isDone, pMo_keptLeft, pMo_keptDone, pMo_state, pMo_keptState, pMo_newOf, pMo_oldOf, pMo_spare, pMo_spareDone, pMo_out, pMo_metFrom, pMo_metBy, pMo_far, pMo_low, pMo_lows, pMo_lowSize, pMo_triedRow, pMo_triedColumn, pMo_triedValue, pMo_triedRows, pMo_sheet, pLong, pKt, pKt_cells, pKt_numbers, pKt_done, pKt_order, pKt_spare, pKt_parents, pKt_melting] <;> omega)) (Or.inl (by intro b j; simp only [Su1, Su2, Su3, Su4, Su5, Su6, Su7, Su8, Su9, Pshe, pHo, pHo_tape, pWs, pWs_e, pWs_0, pWs_0_c, pSs, pSs_e, pSs_0, pSs_0_c, pAsk, pAsk_c, pRe, pRe_sums, pRe_firsts, pAtom, pAtom_c, pRaised, pRaised_c, pSum0, pSum0_c, pFirst0, pFirst0_c, pTa, pTa_cells, pTa_numbers, pTa_done, pTa_order, pTa_spare, pTa_parents, pTa_melting, pFi, pWa, pWa_queue, pWa_origins, pWa_vias, pWa_lengths, pWa_seen, pSingle, pSingle_c, pHo_told, pLo, pLo_cells, pLo_kept, pLo_keptRows, pLo_names, pLo_met, pSh, pSh_cells, pSh_seen, pSh_queue, pMo, pMo_tape, pMo_text, pMo_words, pMo_wordSize, pMo_subs, pMo_subSize, pMo_asked, pMo_pile, pMo_pileSize, pMo_opened, pMo_openedAt, pMo_begun, pMo_cells, pMo_keptCells, pMo_name, pMo_isLeft, pMo_isDone, pMo_keptLeft, pMo_keptDone, pMo_state, pMo_keptState, pMo_newOf, pMo_oldOf, pMo_spare, pMo_spareDone, pMo_out, pMo_metFrom, pMo_metBy, pMo_far, pMo_low, pMo_lows, pMo_lowSize, pMo_triedRow, pMo_triedColumn, pMo_triedValue, pMo_triedRows, pMo_sheet, pLong, pKt, pKt_cells, pKt_numbers, pKt_done, pKt_order, pKt_spare, pKt_parents, pKt_melting] <;> omega)) (Or.inr ?_)
  · exact S4_ok (by rw [f.1 pRe 9 (by decide), f.1 pMo 3 (by decide)]; exact s.2.2.2.2.1.1) g.1 g.2.1 g.2.2.1
  · refine ⟨by rw [g.2.2.2.1, g.2.2.2.2]; exact q1, by rw [g.2.2.2.1]; exact q2, fun j j0 j1 => ?_⟩
    have e1 := q3 j j0 j1
    rw [← eh]
    simp (decide := true) only [gI_sI, gI_sA, if_true, if_false, false_and, true_and, e1]
