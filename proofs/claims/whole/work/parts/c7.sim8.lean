/-! BOTH CLASSES: power, cycles, farthest, least, lead, is, within -/
theorem sim_farthest {k : Int} {h : PH} (s : SIM k h) (hk : k ≤ 600) : SimP Ct_Ho_farthest Ct_Mo_farthest [] k h := by
  have wi := whole_iff s hk
  refine ⟨rfl, s.1.1, fun z => ⟨_, rfl, s.1.2, rfl, s.1.2, fun _ => ⟨rfl, SIM_no s (by decide)⟩, fun y => absurd (wi.mpr y) z⟩, fun z => ?_⟩
  have z' := wi.mp z
  obtain ⟨Q, q0, q1, tx, tr, fu, a5, a6⟩ := TX_of s hk z'.1
  have ful := full_of (k := k) fu z'.2
  refine ⟨LL h, Q, atM h, tr, tx.2.2.1, tx.2.1.1, tx.2.1.2, ful, fun h1 f1 => ?_⟩
  have me : MEq h (sI h1 pHo 17 0) := me_sI (MEq_of (FrQ_of f1) (by intro b j; simp only [Pwa, pHo, pHo_tape, pWs, pWs_e, pWs_0, pWs_0_c, pSs, pSs_e, pSs_0, pSs_0_c, pAsk, pAsk_c, pRe, pRe_sums, pRe_firsts, pAtom, pAtom_c, pRaised, pRaised_c, pSum0, pSum0_c, pFirst0, pFirst0_c, pTa, pTa_cells, pTa_numbers, pTa_done, pTa_order, pTa_spare, pTa_parents, pTa_melting, pFi, pWa, pWa_queue, pWa_origins, pWa_vias, pWa_lengths, pWa_seen, pSingle, pSingle_c, pHo_told, pLo, pLo_cells, pLo_kept, pLo_keptRows, pLo_names, pLo_met, pSh, pSh_cells, pSh_seen, pSh_queue, pMo, pMo_tape, pMo_text, pMo_words, pMo_wordSize, pMo_subs, pMo_subSize, pMo_asked, pMo_pile, pMo_pileSize, pMo_opened, pMo_openedAt, pMo_begun, pMo_cells, pMo_keptCells, pMo_name, pMo_isLeft, pMo_isDone, pMo_keptLeft, pMo_keptDone, pMo_state, pMo_keptState, pMo_newOf, pMo_oldOf, pMo_spare, pMo_spareDone, pMo_out, pMo_metFrom, pMo_metBy, pMo_far, pMo_low, pMo_lows, pMo_lowSize, pMo_triedRow, pMo_triedColumn, pMo_triedValue, pMo_triedRows, pMo_sheet, pLong, pKt, pKt_cells, pKt_numbers, pKt_done, pKt_order, pKt_spare, pKt_parents, pKt_melting]; omega)) (Or.inl (by decide))
  have m1 : MW h1 := FrQ_MW (FrQ_of f1) s.1.2
  have z2 : gI (sI h1 pHo 17 0) pMo 32 ≠ 0 ∧ gI (sI h1 pHo 17 0) pMo_state 6 = 1 := by rw [me pMo 32 (by decide) (by decide), me pMo_state 6 (by decide) (by decide)]; exact z'
  refine ⟨_, rfl, m1, rfl, m1, fun y => absurd z2 y, fun _ => ⟨LL h, Q, TX_me me tx, by rw [atM_me me]; exact fu, fun h2 f2 gd => ⟨by rw [atM_me me], ?_⟩⟩⟩
  have f0 : FrQ Pno h1 (sI h1 pHo 17 0) := FrQ_sI (by decide) (FrQ_refl Pno h1)
  have f := FrQ_two (FrQ_of f1) (FrQ_two f0 (FrQ_of f2))
  refine SIM_good s f (by intro b j x; simp only [Pwa, Pno, PF2, PQ, Po, pHo, pHo_tape, pWs, pWs_e, pWs_0, pWs_0_c, pSs, pSs_e, pSs_0, pSs_0_c, pAsk, pAsk_c, pRe, pRe_sums, pRe_firsts, pAtom, pAtom_c, pRaised, pRaised_c, pSum0, pSum0_c, pFirst0, pFirst0_c, pTa, pTa_cells, pTa_numbers, pTa_done, pTa_order, pTa_spare, pTa_parents, pTa_melting, pFi, pWa, pWa_queue, pWa_origins, pWa_vias, pWa_lengths, pWa_seen, pSingle, pSingle_c, pHo_told, pLo, pLo_cells, pLo_kept, pLo_keptRows, pLo_names, pLo_met, pSh, pSh_cells, pSh_seen, pSh_queue, pMo, pMo_tape, pMo_text, pMo_words, pMo_wordSize, pMo_subs, pMo_subSize, pMo_asked, pMo_pile, pMo_pileSize, pMo_opened, pMo_openedAt, pMo_begun, pMo_cells, pMo_keptCells, pMo_name, pMo_isLeft, pMo_isDone, pMo_keptLeft, pMo_keptDone, pMo_state, pMo_keptState, pMo_newOf, pMo_oldOf, pMo_spare, pMo_spareDone, pMo_out, pMo_metFrom, pMo_metBy, pMo_far, pMo_low, pMo_lows, pMo_lowSize, pMo_triedRow, pMo_triedColumn, pMo_triedValue, pMo_triedRows, pMo_sheet, pLong, pKt, pKt_cells, pKt_numbers, pKt_done, pKt_order, pKt_spare, pKt_parents, pKt_melting] at x; (repeat' (refine Or.elim x ?_ ?_ <;> clear x <;> intro x)) <;> first | exact Or.inl (by omega) | exact Or.inr (by simp only [SuA, Su1, Su2, Su3, Su4, Su5, Su6, Su7, Su8, Su9]; omega)) ?_ gd.1 gd.2.1
  rw [f2.1 pHo 17 (by simp (decide := true) [PF2, PQ, Po]), gI_sI, if_pos ⟨rfl, rfl⟩]
theorem sim_power {k : Int} {h : PH} (s : SIM k h) (hk : k ≤ 600) : SimP Ct_Ho_power Ct_Mo_power [] k h := by
  have wi := whole_iff s hk
  refine ⟨rfl, s.1.1, fun z => ⟨_, rfl, s.1.2, rfl, s.1.2, fun _ => ⟨rfl, SIM_4 s⟩, fun y => absurd (wi.mpr y) z⟩, fun z => ?_⟩
  have z' := wi.mp z
  obtain ⟨Q, q0, q1, tx, tr, fu, a5, a6⟩ := TX_of s hk z'.1
  have ful := full_of (k := k) fu z'.2
  obtain ⟨r1, r2⟩ := s.2.2.2.1
  have ak : ∀ c, c ∈ akW h → 0 ≤ c ∧ c < LL h := seg_mem (fun i hi => by have := r2.2.2 (0 + i) (by omega) (by have := r2.1; omega); exact this)
  refine ⟨akW h, LL h, Q, atM h, r1, tr, tx.2.2.1, tx.2.1.2, ak, ful, fun h1 f1 => ?_⟩
  have me : MEq h h1 := MEq_of (FrQ_of f1) (by intro b j; simp only [Psn, pHo, pHo_tape, pWs, pWs_e, pWs_0, pWs_0_c, pSs, pSs_e, pSs_0, pSs_0_c, pAsk, pAsk_c, pRe, pRe_sums, pRe_firsts, pAtom, pAtom_c, pRaised, pRaised_c, pSum0, pSum0_c, pFirst0, pFirst0_c, pTa, pTa_cells, pTa_numbers, pTa_done, pTa_order, pTa_spare, pTa_parents, pTa_melting, pFi, pWa, pWa_queue, pWa_origins, pWa_vias, pWa_lengths, pWa_seen, pSingle, pSingle_c, pHo_told, pLo, pLo_cells, pLo_kept, pLo_keptRows, pLo_names, pLo_met, pSh, pSh_cells, pSh_seen, pSh_queue, pMo, pMo_tape, pMo_text, pMo_words, pMo_wordSize, pMo_subs, pMo_subSize, pMo_asked, pMo_pile, pMo_pileSize, pMo_opened, pMo_openedAt, pMo_begun, pMo_cells, pMo_keptCells, pMo_name, pMo_isLeft, pMo_isDone, pMo_keptLeft, pMo_keptDone, pMo_state, pMo_keptState, pMo_newOf, pMo_oldOf, pMo_spare, pMo_spareDone, pMo_out, pMo_metFrom, pMo_metBy, pMo_far, pMo_low, pMo_lows, pMo_lowSize, pMo_triedRow, pMo_triedColumn, pMo_triedValue, pMo_triedRows, pMo_sheet, pLong, pKt, pKt_cells, pKt_numbers, pKt_done, pKt_order, pKt_spare, pKt_parents, pKt_melting]; omega)
  have m1 : MW h1 := FrQ_MW (FrQ_of f1) s.1.2
  have z2 : gI h1 pMo 32 ≠ 0 ∧ gI h1 pMo_state 6 = 1 := by rw [me pMo 32 (by decide) (by decide), me pMo_state 6 (by decide) (by decide)]; exact z'
  refine ⟨_, rfl, m1, rfl, m1, fun y => absurd z2 y, fun _ => ⟨LL h, Q, TX_me me tx, by rw [atM_me me]; exact fu, AK_me me r2, by rw [atM_me me, akW_me me], ?_⟩⟩
  have f0 : FrQ P4 h1 (sI h1 pMo 4 0) := FrQ_sI (by decide) (FrQ_refl P4 h1)
  exact SIM_scr s (FrQ_two (FrQ_of f1) f0) (by intro b j x; simp only [Psn, P4, pHo, pHo_tape, pWs, pWs_e, pWs_0, pWs_0_c, pSs, pSs_e, pSs_0, pSs_0_c, pAsk, pAsk_c, pRe, pRe_sums, pRe_firsts, pAtom, pAtom_c, pRaised, pRaised_c, pSum0, pSum0_c, pFirst0, pFirst0_c, pTa, pTa_cells, pTa_numbers, pTa_done, pTa_order, pTa_spare, pTa_parents, pTa_melting, pFi, pWa, pWa_queue, pWa_origins, pWa_vias, pWa_lengths, pWa_seen, pSingle, pSingle_c, pHo_told, pLo, pLo_cells, pLo_kept, pLo_keptRows, pLo_names, pLo_met, pSh, pSh_cells, pSh_seen, pSh_queue, pMo, pMo_tape, pMo_text, pMo_words, pMo_wordSize, pMo_subs, pMo_subSize, pMo_asked, pMo_pile, pMo_pileSize, pMo_opened, pMo_openedAt, pMo_begun, pMo_cells, pMo_keptCells, pMo_name, pMo_isLeft, pMo_isDone, pMo_keptLeft, pMo_keptDone, pMo_state, pMo_keptState, pMo_newOf, pMo_oldOf, pMo_spare, pMo_spareDone, pMo_out, pMo_metFrom, pMo_metBy, pMo_far, pMo_low, pMo_lows, pMo_lowSize, pMo_triedRow, pMo_triedColumn, pMo_triedValue, pMo_triedRows, pMo_sheet, pLong, pKt, pKt_cells, pKt_numbers, pKt_done, pKt_order, pKt_spare, pKt_parents, pKt_melting] at x; (repeat' (refine Or.elim x ?_ ?_ <;> clear x <;> intro x)) <;> (simp only [SuA, Su1, Su2, Su3, Su4, Su5, Su6, Su7, Su8, Su9]; omega))
theorem sim_cycles {k : Int} {h : PH} (s : SIM k h) (hk : k ≤ 600) {e l : Int} : SimP Ct_Ho_cycles Ct_Mo_cycles [.inl e, .inl l] k h := by
  have wi := whole_iff s hk
  have l1 := s.2.1.1
  have l2 := s.2.1.2.1
  refine ⟨rfl, s.1.1, by omega, fun z => ⟨_, rfl, s.1.2, rfl, s.1.2, fun _ => ⟨rfl, SIM_no s (by decide)⟩, fun y y1 y2 => absurd z ?_⟩, fun z e0 e1 => ?_⟩
  · have y' : gI h pHo 10 ≠ 0 ∧ gI h pTa 18 = 1 := wi.mpr y
    have y3 : e < gI h pMo 0 := y2
    rintro (x | x | x)
    · exact x y'
    · omega
    · omega
  have z' := wi.mp z
  obtain ⟨Q, q0, q1, tx, tr, fu, a5, a6⟩ := TX_of s hk z'.1
  have ful := full_of (k := k) fu z'.2
  refine ⟨LL h, Q, atM h, tr, tx.2.2.1, tx.2.1.2, ful, by show 2 * e < 2 * _; omega, fun h1 f1 => ?_⟩
  have me : MEq h (sI h1 pHo 17 0) := me_sI (MEq_of (FrQ_of f1) (by intro b j; simp only [Pcc, Pw, pHo, pHo_tape, pWs, pWs_e, pWs_0, pWs_0_c, pSs, pSs_e, pSs_0, pSs_0_c, pAsk, pAsk_c, pRe, pRe_sums, pRe_firsts, pAtom, pAtom_c, pRaised, pRaised_c, pSum0, pSum0_c, pFirst0, pFirst0_c, pTa, pTa_cells, pTa_numbers, pTa_done, pTa_order, pTa_spare, pTa_parents, pTa_melting, pFi, pWa, pWa_queue, pWa_origins, pWa_vias, pWa_lengths, pWa_seen, pSingle, pSingle_c, pHo_told, pLo, pLo_cells, pLo_kept, pLo_keptRows, pLo_names, pLo_met, pSh, pSh_cells, pSh_seen, pSh_queue, pMo, pMo_tape, pMo_text, pMo_words, pMo_wordSize, pMo_subs, pMo_subSize, pMo_asked, pMo_pile, pMo_pileSize, pMo_opened, pMo_openedAt, pMo_begun, pMo_cells, pMo_keptCells, pMo_name, pMo_isLeft, pMo_isDone, pMo_keptLeft, pMo_keptDone, pMo_state, pMo_keptState, pMo_newOf, pMo_oldOf, pMo_spare, pMo_spareDone, pMo_out, pMo_metFrom, pMo_metBy, pMo_far, pMo_low, pMo_lows, pMo_lowSize, pMo_triedRow, pMo_triedColumn, pMo_triedValue, pMo_triedRows, pMo_sheet, pLong, pKt, pKt_cells, pKt_numbers, pKt_done, pKt_order, pKt_spare, pKt_parents, pKt_melting]; omega)) (Or.inl (by decide))
  have m1 : MW h1 := FrQ_MW (FrQ_of f1) s.1.2
  have z2 : gI (sI h1 pHo 17 0) pMo 32 ≠ 0 ∧ gI (sI h1 pHo 17 0) pMo_state 6 = 1 := by rw [me pMo 32 (by decide) (by decide), me pMo_state 6 (by decide) (by decide)]; exact z'
  have e2 : gI (sI h1 pHo 17 0) pMo 0 = gI h pMo 0 := me pMo 0 (by decide) (by decide)
  refine ⟨_, rfl, m1, rfl, m1, fun y => ?_, fun _ _ _ => ⟨LL h, Q, TX_me me tx, by rw [atM_me me]; exact fu, by rw [atM_me me], ?_⟩⟩
  · rcases y with y | y | y
    · exact absurd z2 y
    · omega
    · rw [e2] at y; omega
  have f0 : FrQ Pno h1 (goodH (sI h1 pHo 17 0)) := FrQ_sI (by decide) (FrQ_sI (by decide) (FrQ_sI (by decide) (FrQ_sI (by decide) (FrQ_refl Pno h1))))
  refine SIM_good s (FrQ_two (FrQ_of f1) f0) (by intro b j x; simp only [Pcc, Pw, Pno, pHo, pHo_tape, pWs, pWs_e, pWs_0, pWs_0_c, pSs, pSs_e, pSs_0, pSs_0_c, pAsk, pAsk_c, pRe, pRe_sums, pRe_firsts, pAtom, pAtom_c, pRaised, pRaised_c, pSum0, pSum0_c, pFirst0, pFirst0_c, pTa, pTa_cells, pTa_numbers, pTa_done, pTa_order, pTa_spare, pTa_parents, pTa_melting, pFi, pWa, pWa_queue, pWa_origins, pWa_vias, pWa_lengths, pWa_seen, pSingle, pSingle_c, pHo_told, pLo, pLo_cells, pLo_kept, pLo_keptRows, pLo_names, pLo_met, pSh, pSh_cells, pSh_seen, pSh_queue, pMo, pMo_tape, pMo_text, pMo_words, pMo_wordSize, pMo_subs, pMo_subSize, pMo_asked, pMo_pile, pMo_pileSize, pMo_opened, pMo_openedAt, pMo_begun, pMo_cells, pMo_keptCells, pMo_name, pMo_isLeft, pMo_isDone, pMo_keptLeft, pMo_keptDone, pMo_state, pMo_keptState, pMo_newOf, pMo_oldOf, pMo_spare, pMo_spareDone, pMo_out, pMo_metFrom, pMo_metBy, pMo_far, pMo_low, pMo_lows, pMo_lowSize, pMo_triedRow, pMo_triedColumn, pMo_triedValue, pMo_triedRows, pMo_sheet, pLong, pKt, pKt_cells, pKt_numbers, pKt_done, pKt_order, pKt_spare, pKt_parents, pKt_melting] at x; (repeat' (refine Or.elim x ?_ ?_ <;> clear x <;> intro x)) <;> first | exact Or.inl (by omega) | exact Or.inr (by simp only [SuA, Su1, Su2, Su3, Su4, Su5, Su6, Su7, Su8, Su9]; omega)) ?_ ?_ ?_ <;> (unfold goodH; simp (decide := true) only [gI_sI, if_true, if_false])
theorem ak_of {k : Int} {h : PH} (s : SIM k h) : WR h pAsk (akW h) ∧ AK (LL h) h ∧ (∀ c, c ∈ akW h → 0 ≤ c ∧ c < LL h) ∧ (akW h).length = (gI h pMo 16).toNat := by
  obtain ⟨r1, r2⟩ := s.2.2.2.1
  exact ⟨r1, r2, seg_mem (fun i hi => by have := r2.2.2 (0 + i) (by omega) (by have := r2.1; omega); exact this), seg_len⟩
theorem sim_lead {k : Int} {h : PH} (s : SIM k h) (hk : k ≤ 600) {r : Int} : SimP Ct_Ho_lead Ct_Mo_lead [.inl r] k h := by
  obtain ⟨a1, a2, a3, a4⟩ := ak_of s
  have t2 := s.2.2.2.2.2.1.2.1.2
  refine ⟨rfl, s.1.1, fun z => ⟨_, rfl, s.1.2, rfl, s.1.2, t2, fun _ => ⟨rfl, SIM_4 s⟩, fun y => absurd ((ht_iff s).mp z) y.1⟩, fun z => ?_⟩
  have z' : gI h pMo 32 ≠ 0 := fun y => z ((ht_iff s).mpr y)
  obtain ⟨Q, q0, q1, tx, tr, fu, a5, a6⟩ := TX_of s hk z'
  refine ⟨akW h, LL h, atM h, a1, tr, tx.2.1.2, a3, fun v => ⟨_, rfl, s.1.2, rfl, s.1.2, t2, fun _ => ⟨rfl, SIM_4 s⟩, fun y => absurd (VV_atM.mpr y.2) v⟩, fun v => ⟨_, rfl, s.1.2, rfl, s.1.2, t2, fun y => absurd ⟨z', VV_atM.mp v⟩ y, fun _ => ?_⟩⟩
  refine ⟨VV (atM h), LL h, (gI h pMo 16).toNat, v, TX_clo tx, tx.2.1.2, by have := a2.1; omega, by have := a2.2.1; omega, fun i i0 i1 => a2.2.2 i i0 (by omega), ?_, SIM_4 s⟩
  rw [fwd_ld tx a2 v, lwF_ld]
theorem sim_within {k : Int} {h : PH} (s : SIM k h) (hk : k ≤ 600) : SimP Ct_Ho_within Ct_Mo_within [] k h := by
  obtain ⟨a1, a2, a3, a4⟩ := ak_of s
  refine ⟨rfl, s.1.1, fun z => ⟨_, rfl, s.1.2, rfl, s.1.2, fun _ => ⟨rfl, SIM_4 s⟩, fun y => absurd ((ht_iff s).mp z) y⟩, fun z => ?_⟩
  have z' : gI h pMo 32 ≠ 0 := fun y => z ((ht_iff s).mpr y)
  obtain ⟨Q, q0, q1, tx, tr, fu, a5, a6⟩ := TX_of s hk z'
  have v0 : VV (atM h) 0 := tx.2.2.1.1.1
  refine ⟨akW h, LL h, atM h, a1, tr, tx.2.1.2, a3, _, rfl, s.1.2, rfl, s.1.2, fun y => absurd y z', fun _ => ⟨VV (atM h), LL h, (gI h pMo 16).toNat, v0, TX_clo tx, tx.2.1.2, by have := a2.1; omega, by have := a2.2.1; omega, fun i i0 i1 => a2.2.2 i i0 (by omega), ?_, SIM_4 s⟩⟩
  rw [fwd_ld tx a2 v0, lwF_ld, e18 tr]
theorem sim_is {k : Int} {h : PH} (s : SIM k h) (hk : k ≤ 600) : SimP Ct_Ho_is Ct_Mo_is [] k h := by
  obtain ⟨a1, a2, a3, a4⟩ := ak_of s
  have n16 : akW h = [] ↔ gI h pMo 16 = 0 := by
    rw [← List.length_eq_zero_iff, a4]
    have := a2.1
    omega
  have mx : gI h pMo 32 ≠ 0 → ∃ (L Q : Int), TX L Q h ∧ AK L h := fun z => by
    obtain ⟨Q, q0, q1, tx, -⟩ := TX_of s hk z
    exact ⟨LL h, Q, tx, a2⟩
  have wi := whole_iff s hk
  have e15 : gI h pSs 1 = gI h pMo 15 := by
    obtain ⟨w1, w2, ⟨w3, w4, w5, w6⟩, w7⟩ := s.2.2.1
    have := w2.1
    unfold uM at this
    rw [wdsM_len] at this
    have := w5.1
    omega
  refine ⟨rfl, s.1.1, akW h, a1, fun z => ⟨_, rfl, s.1.2, rfl, s.1.2, mx, fun v hv => ⟨by rw [hv.1 (n16.mp z)], SIM_4 s⟩⟩, fun z y => ⟨_, rfl, s.1.2, rfl, s.1.2, mx, fun v hv => ⟨?_, SIM_4 s⟩⟩, fun z y => ?_⟩
  · have y' := (ht_iff s).mp y
    rw [(hv.2.2 (fun q => z (n16.mpr q)) (fun q => q.1 y')).2 (fun q => q.1 y')]
  · have y' : gI h pMo 32 ≠ 0 := fun q => y ((ht_iff s).mpr q)
    obtain ⟨Q, q0, q1, tx, tr, fu, a5, a6⟩ := TX_of s hk y'
    have z' : gI h pMo 16 ≠ 0 := fun q => z (n16.mpr q)
    refine ⟨LL h, atM h, tr, tx.2.1.2, a3, fun c1 c2 => ⟨_, rfl, s.1.2, rfl, s.1.2, mx, fun v hv => ⟨?_, SIM_4 s⟩⟩, fun c1 => ⟨_, rfl, s.1.2, rfl, s.1.2, mx, fun v hv => ⟨?_, SIM_4 s⟩⟩⟩
    · obtain ⟨r, r1, r2⟩ := c2
      rw [lwF_ld] at r2
      rw [(hv.2.1 z' (wi.mp ⟨y, c1⟩)).1 ⟨r, r1, r2⟩]
    · rw [lwF_ld, e15]
      by_cases c2 : gI h pTa 18 = 1
      · have nm : ¬ mvA (atM h) (akW h) := fun ⟨r, r1, r2⟩ => c1 ⟨c2, r, r1, by rw [lwF_ld]; exact r2⟩
        rw [(hv.2.1 z' (wi.mp ⟨y, c2⟩)).2 nm]
        have l0 : ldA (atM h) (akW h) 0 = 0 := Classical.byContradiction fun q => nm ⟨0, tx.2.2.1.1.1, q⟩
        by_cases c3 : gI h pMo 15 = 0
        · rw [if_pos c3, if_pos ⟨c3, l0⟩]
        · rw [if_neg c3, if_neg (fun q => c3 q.1)]
      · have nw : ¬ (gI h pMo 32 ≠ 0 ∧ gI h pMo_state 6 = 1) := fun q => c2 (wi.mpr q).2
        by_cases c3 : gI h pMo 15 = 0 ∧ ldA (atM h) (akW h) 0 = 0
        · rw [(hv.2.2 z' nw).1 ⟨y', c3⟩, if_pos c3]
        · rw [(hv.2.2 z' nw).2 (fun q => c3 q.2), if_neg c3]
