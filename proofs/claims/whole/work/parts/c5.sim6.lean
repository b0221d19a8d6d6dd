/-! BOTH CLASSES: begin -/
def bgS (a r : Int) (S : Int → Int) : Int → Int := adS (fun j => if j = 9 then r else if j = 8 then a else if 0 ≤ j ∧ j < 11 then 0 else S j)
theorem bg_at {h : PH} {a r : Int} : atM (sI (sI (adH (bgH h a r)) pMo 1 0) pMo 2 (-1)) = bgA a r (gI h pMo 39) := by
  have e1 : gI (sI (sI (adH (bgH h a r)) pMo 1 0) pMo 2 (-1)) pMo_state = bgS a r (gI h pMo_state) := by
    funext j
    have e9 : gI (bgH h a r) pMo_state = fun j => if j = 9 then r else if j = 8 then a else if 0 ≤ j ∧ j < 11 then 0 else gI h pMo_state j := by
      funext i
      unfold bgH
      simp (decide := true) only [gI_sI, gI_sA, if_true, if_false, false_and]
    unfold adH bgS
    simp (decide := true) only [gI_sI, gI_sA, if_true, if_false, false_and, e9]
  have e0 : gI (bgH h a r) pMo_state 0 = 0 := by
    unfold bgH
    simp (decide := true) only [gI_sI, gI_sA, if_true, if_false, false_and]
  have e2 : ∀ j, gI (sI (sI (adH (bgH h a r)) pMo 1 0) pMo 2 (-1)) pMo_isLeft j = if j = 0 then 1 else gI h pMo_isLeft j := by
    intro j
    unfold adH
    rw [e0]
    unfold bgH
    simp (decide := true) only [gI_sI, gI_sA, if_true, if_false, false_and, true_and]
  have e3 : ∀ j, gI (sI (sI (adH (bgH h a r)) pMo 1 0) pMo 2 (-1)) pMo_isDone j = if j = 0 then 0 else gI h pMo_isDone j := by
    intro j
    unfold adH
    rw [e0]
    unfold bgH
    simp (decide := true) only [gI_sI, gI_sA, if_true, if_false, false_and, true_and]
  have e4 : ∀ j, 0 ≤ j → j < 10 → gI (sI (sI (adH (bgH h a r)) pMo 1 0) pMo 2 (-1)) pMo_cells j = -2 := by
    intro j j0 j1
    unfold adH
    rw [e0]
    simp (decide := true) only [gI_sI, gI_sA, if_true, if_false, false_and]
    rw [if_pos (by omega)]
  have e5 : gI (sI (sI (adH (bgH h a r)) pMo 1 0) pMo 2 (-1)) pMo 39 = gI h pMo 39 := by
    unfold adH bgH
    simp (decide := true) only [gI_sI, gI_sA, if_true, if_false, false_and]
  have s0 : bgS a r (gI h pMo_state) 0 = 1 := rfl
  unfold atM mkA bgA
  rw [e1, e5, s0]
  generalize sI (sI (adH (bgH h a r)) pMo 1 0) pMo 2 (-1) = H at *
  have v : ∀ x, cV 1 (gI H pMo_isLeft) x = if x = 0 then 1 else 0 := by
    intro x
    unfold cV
    rw [e2]
    by_cases q : x = 0
    · rw [q]; rfl
    · rw [if_neg q, if_neg q, if_neg (fun z => q (by omega))]
  refine Prod.ext (funext v) (Prod.ext (funext fun x => funext fun c => ?_) (Prod.ext (funext fun x => ?_) (Prod.ext (funext fun j => ?_) rfl)))
  · show kE 10 _ _ x c = -2
    unfold kE
    by_cases q : cV 1 (gI H pMo_isLeft) x ≠ 0 ∧ 0 ≤ c ∧ c < 10
    · rw [if_pos q]
      have q1 := q.1
      rw [v] at q1
      have : x = 0 := Classical.byContradiction fun y => q1 (if_neg y)
      show gI H pMo_cells (10 * x + c) = -2
      rw [this, show (10 : Int) * 0 + c = c by omega]
      exact e4 c q.2.1 q.2.2
    · rw [if_neg q]
  · show cD _ _ x = 0
    unfold cD
    rw [if_neg]
    rintro ⟨q1, q2⟩
    rw [v] at q1
    have : x = 0 := Classical.byContradiction fun y => q1 (if_neg y)
    rw [this, e3] at q2
    exact q2 rfl
  · show cS _ j = _
    unfold cS bgS adS
    by_cases q : 0 ≤ j ∧ j < 11
    · rw [if_pos q]
      have : j = 0 ∨ j = 1 ∨ j = 2 ∨ j = 3 ∨ j = 4 ∨ j = 5 ∨ j = 6 ∨ j = 7 ∨ j = 8 ∨ j = 9 ∨ j = 10 := by omega
      rcases this with rfl | rfl | rfl | rfl | rfl | rfl | rfl | rfl | rfl | rfl | rfl <;> simp (decide := true)
    · rw [if_neg q]
      show (0 : Int) = if j = 0 ∨ j = 1 ∨ j = 2 ∨ j = 4 then 1 else if j = 8 then a else if j = 9 then r else 0
      rw [if_neg (by omega), if_neg (by omega), if_neg (by omega)]
theorem WT_bg {L a r m : Int} (l0 : 2 ≤ L) (a0 : 0 ≤ a) (a1 : a ≤ 4) (r0 : 1 ≤ r) (r1 : r ≤ 300) (hm : m = 0 ∨ m = -1) : WT L 0 (bgA a r m) := by
  have v : ∀ x, aV (bgA a r m) x ≠ 0 ↔ x = 0 := by
    intro x
    show (if x = 0 then (1 : Int) else 0) ≠ 0 ↔ _
    split <;> simp [*]
  have n1 : aN (bgA a r m) = 1 := rfl
  have s0 : aS (bgA a r m) 0 = 1 ∧ aS (bgA a r m) 1 = 1 ∧ aS (bgA a r m) 2 = 1 ∧ aS (bgA a r m) 3 = 0 ∧ aS (bgA a r m) 4 = 1 ∧ aS (bgA a r m) 5 = 0 ∧ aS (bgA a r m) 6 = 0 ∧ aS (bgA a r m) 7 = 0 ∧ aS (bgA a r m) 8 = a ∧ aS (bgA a r m) 9 = r ∧ aS (bgA a r m) 10 = 0 := ⟨rfl, rfl, rfl, rfl, rfl, rfl, rfl, rfl, rfl, rfl, rfl⟩
  obtain ⟨s0, s1, s2, s3, s4, s5, s6, s7, s8, s9, s10⟩ := s0
  have mm : aM (bgA a r m) = m := rfl
  refine ⟨⟨(v 0).mpr rfl, fun x hx => by have := (v x).mp hx; omega, fun x c _ _ _ => Or.inl rfl⟩, fun x hx => ?_, fun x c _ => rfl, fun x hx => absurd rfl hx, ⟨by omega, by omega, by omega⟩, ⟨?_, by omega, by omega⟩, ⟨by omega, by omega, by omega, by omega⟩, ⟨by omega, by omega⟩, ⟨by omega, by omega⟩, ⟨by omega, by omega⟩, by omega, ⟨by omega, by omega⟩, fun k hk => ?_, fun P p0 _ x hx => ?_⟩
  · have e := (v x).mp hx
    rw [e, s0]
    exact ⟨rfl, by decide⟩
  · rw [s1, n1]; rfl
  · show (if k = 0 ∨ k = 1 ∨ k = 2 ∨ k = 4 then (1 : Int) else if k = 8 then a else if k = 9 then r else 0) = 0
    rw [if_neg (by omega), if_neg (by omega), if_neg (by omega)]
  · rw [(v x).mp hx]; exact p0
theorem sim_begin {k : Int} {h : PH} (s : SIM k h) (k0 : 0 ≤ k) {a r : Int} : SimP Ct_Ho_begin Ct_Mo_begin [.inl a, .inl r] k h := by
  have l1 := s.2.1.1
  have l2 := s.2.1.2.1
  obtain ⟨b1, b2, b3, b4, -⟩ := s.2.2.2.2.2.1
  refine ⟨rfl, s.1.1, by omega, by omega, b3, fun z => ⟨_, rfl, s.1.2, rfl, s.1.2, fun _ => ⟨rfl, SIM_no s (by decide)⟩, fun y => absurd y z⟩, fun z h1 f1 t1 => ?_⟩
  have m1 : MW h1 := FrQ_MW (FrQ_of f1) s.1.2
  have me : MEq h (sI (sI h1 pHo 10 1) pHo 17 0) := me_sI (me_sI (MEq_of (FrQ_of f1) (by intro b j; simp only [Pt, pHo, pHo_tape, pWs, pWs_e, pWs_0, pWs_0_c, pSs, pSs_e, pSs_0, pSs_0_c, pAsk, pAsk_c, pRe, pRe_sums, pRe_firsts, pAtom, pAtom_c, pRaised, pRaised_c, pSum0, pSum0_c, pFirst0, pFirst0_c, pTa, pTa_cells, pTa_numbers, pTa_done, pTa_order, pTa_spare, pTa_parents, pTa_melting, pFi, pWa, pWa_queue, pWa_origins, pWa_vias, pWa_lengths, pWa_seen, pSingle, pSingle_c, pHo_told, pLo, pLo_cells, pLo_kept, pLo_keptRows, pLo_names, pLo_met, pSh, pSh_cells, pSh_seen, pSh_queue, pMo, pMo_tape, pMo_text, pMo_words, pMo_wordSize, pMo_subs, pMo_subSize, pMo_asked, pMo_pile, pMo_pileSize, pMo_opened, pMo_openedAt, pMo_begun, pMo_cells, pMo_keptCells, pMo_name, pMo_isLeft, pMo_isDone, pMo_keptLeft, pMo_keptDone, pMo_state, pMo_keptState, pMo_newOf, pMo_oldOf, pMo_spare, pMo_spareDone, pMo_out, pMo_metFrom, pMo_metBy, pMo_far, pMo_low, pMo_lows, pMo_lowSize, pMo_triedRow, pMo_triedColumn, pMo_triedValue, pMo_triedRows, pMo_sheet, pLong, pKt, pKt_cells, pKt_numbers, pKt_done, pKt_order, pKt_spare, pKt_parents, pKt_melting]; omega)) (Or.inl (by decide))) (Or.inl (by decide))
  refine ⟨_, rfl, m1, rfl, m1, fun y => absurd z y, fun _ => ⟨rfl, ?_⟩⟩
  have eA := @bg_at (sI (sI h1 pHo 10 1) pHo 17 0) a r
  rw [me pMo 39 (by decide) (by decide)] at eA
  have fm : FrQ (fun b j => b = 128 ∨ b = 131 ∨ b = 132 ∨ b = 135 ∨ (b = 115 ∧ (j = 1 ∨ j = 2 ∨ j = 4 ∨ j = 32))) (sI (sI h1 pHo 10 1) pHo 17 0) (sI (sI (adH (bgH (sI (sI h1 pHo 10 1) pHo 17 0) a r)) pMo 1 0) pMo 2 (-1)) := by
    unfold adH bgH
    refine FrQ_sI (by decide) (FrQ_sI (by decide) (FrQ_of (FrP_sA (by simp) (FrP_sI (by simp) (FrP_sI (by simp) (FrP_sA (by simp) (FrP_sI (by decide) (FrP_sA (by simp) (FrP_sI (by decide) (FrP_refl _ _)))))))))) 
  have f0 : FrQ (fun b j => b = 0 ∧ (j = 10 ∨ j = 17)) h1 (sI (sI h1 pHo 10 1) pHo 17 0) := FrQ_sI (by decide) (FrQ_sI (by decide) (FrQ_refl _ h1))
  have f := FrQ_two (FrQ_of f1) (FrQ_two f0 fm)
  have bb : BB (sI (sI (adH (bgH (sI (sI h1 pHo 10 1) pHo 17 0) a r)) pMo 1 0) pMo 2 (-1)) := by
    intro j
    have b1j := b1 j
    have x1 := me pMo_isLeft j (by decide) (by decide)
    have x2 := me pMo_isDone j (by decide) (by decide)
    unfold adH
    simp (decide := true) only [gI_sI, gI_sA, if_true, if_false, false_and, true_and]
    unfold bgH
    simp (decide := true) only [gI_sI, gI_sA, if_true, if_false, false_and, true_and] at x1 x2 ⊢
    rw [x1, x2]
    constructor
    · split
      · exact Or.inr rfl
      · exact b1j.1
    · split
      · exact Or.inl rfl
      · exact b1j.2
  generalize eh : sI (sI (adH (bgH (sI (sI h1 pHo 10 1) pHo 17 0) a r)) pMo 1 0) pMo 2 (-1) = h2 at *
  have g : gI h2 pMo 1 = 0 ∧ gI h2 pMo 2 = -1 ∧ gI h2 pMo 32 = 1 := by
    rw [← eh]
    unfold adH bgH
    simp (decide := true) only [gI_sI, gI_sA, if_true, if_false, false_and]
  have g2 : gI h2 pHo 17 = 0 ∧ gI h2 pHo 10 = 1 := by
    rw [fm.1 pHo 17 (by simp (decide := true)), fm.1 pHo 10 (by simp (decide := true))]
    simp (decide := true) only [gI_sI, gI_sA, if_true, if_false, false_and]
  have eL : LL h2 = LL h := by show 2 * gI h2 pMo 0 = 2 * gI h pMo 0; rw [fm.1 pMo 0 (by simp (decide := true)), me pMo 0 (by decide) (by decide)]
  refine tab_fin s f (by intro b j; simp only [Pt, Ptb, pHo, pHo_tape, pWs, pWs_e, pWs_0, pWs_0_c, pSs, pSs_e, pSs_0, pSs_0_c, pAsk, pAsk_c, pRe, pRe_sums, pRe_firsts, pAtom, pAtom_c, pRaised, pRaised_c, pSum0, pSum0_c, pFirst0, pFirst0_c, pTa, pTa_cells, pTa_numbers, pTa_done, pTa_order, pTa_spare, pTa_parents, pTa_melting, pFi, pWa, pWa_queue, pWa_origins, pWa_vias, pWa_lengths, pWa_seen, pSingle, pSingle_c, pHo_told, pLo, pLo_cells, pLo_kept, pLo_keptRows, pLo_names, pLo_met, pSh, pSh_cells, pSh_seen, pSh_queue, pMo, pMo_tape, pMo_text, pMo_words, pMo_wordSize, pMo_subs, pMo_subSize, pMo_asked, pMo_pile, pMo_pileSize, pMo_opened, pMo_openedAt, pMo_begun, pMo_cells, pMo_keptCells, pMo_name, pMo_isLeft, pMo_isDone, pMo_keptLeft, pMo_keptDone, pMo_state, pMo_keptState, pMo_newOf, pMo_oldOf, pMo_spare, pMo_spareDone, pMo_out, pMo_metFrom, pMo_metBy, pMo_far, pMo_low, pMo_lows, pMo_lowSize, pMo_triedRow, pMo_triedColumn, pMo_triedValue, pMo_triedRows, pMo_sheet, pLong, pKt, pKt_cells, pKt_numbers, pKt_done, pKt_order, pKt_spare, pKt_parents, pKt_melting]; omega) g2.1 g.1 g.2.1 ?_
  have e39 : gI h2 pMo 39 = gI h pMo 39 := by rw [fm.1 pMo 39 (by simp (decide := true)), me pMo 39 (by decide) (by decide)]
  refine S5_mk (Q := 0) bb (by rw [e39]; exact b2.1) ?_ ?_ (Int.le_refl _) (by omega) ?_ ?_ (by rw [g2.2]; decide) (by rw [g.2.2]; decide)
  · rw [eL, eA]
    have t2 := t1 (gI h pMo 39)
    rw [l2] at t2
    refine TaR_eq (fun b j b0 b1 => ?_) t2
    rw [fm.1 b j (by omega), f0.1 b j (by omega)]
  · rw [eL, eA]; exact WT_bg (by show 2 ≤ 2 * _; omega) z.1 z.2.1 z.2.2.1 z.2.2.2 b2.1
  · rw [eA]; intro y; exact absurd y (show ¬ (0 : Int) = 1 by decide)
  · rw [eA]; show (0 : Int) ≤ _; omega
