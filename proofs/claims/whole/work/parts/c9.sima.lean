/-! BOTH CLASSES: low, small, size, normal, check -/
theorem isFst_cong {P P' : Int → Int → Prop} {N L r c : Int} (e : ∀ r c, 0 ≤ r → r < N → 0 ≤ c → c < L → (P r c ↔ P' r c)) (h : isFst P N L r c) : isFst P' N L r c := by
  obtain ⟨⟨h0, h1, h2, h3⟩, h4, h5⟩ := h
  exact ⟨⟨h0, h1, h2, h3⟩, (e r c h0 h1 h2 h3).mp h4, fun r' c' a b d x y => h5 r' c' a b d x ((e r' c' a (by omega) b d).mpr y)⟩
theorem noP_cong {P P' : Int → Int → Prop} {N L : Int} (e : ∀ r c, 0 ≤ r → r < N → 0 ≤ c → c < L → (P r c ↔ P' r c)) (h : noP P N L) : noP P' N L := fun r c a b d x y => h r c a b d x ((e r c a b d x).mpr y)
theorem shG_cong {g g' : Int → Int → Int} {N L : Int} (hc : shC g N L) (e : ∀ r c, 0 ≤ r → r < N → 0 ≤ c → c < L → g r c = g' r c) : ∀ {u : List Int} {r : Int}, (∀ c, c ∈ u → 0 ≤ c ∧ c < L) → 0 ≤ r → r < N → shG g u r = shG g' u r
  | [], _, _, _, _ => rfl
  | c :: t, r, hu, h0, h1 => by
    have q := hu c List.mem_cons_self
    have z := hc r c h0 h1 q.1 q.2
    show shG g t (g r c) = shG g' t (g' r c)
    rw [← e r c h0 h1 q.1 q.2]
    exact shG_cong hc e (fun x hx => hu x (List.mem_cons_of_mem _ hx)) z.1 z.2
theorem rch_cong {g g' : Int → Int → Int} {N L : Int} (hN : 0 < N) (hc : shC g N L) (e : ∀ r c, 0 ≤ r → r < N → 0 ≤ c → c < L → g r c = g' r c) {r : Int} (h : rchG g L r) : rchG g' L r := by
  intro P p0 hp
  refine (h (fun x => 0 ≤ x ∧ x < N ∧ P x) ⟨Int.le_refl _, hN, p0⟩ (fun x c hx c0 c1 => ?_)).2.2
  have z := hc x c hx.1 hx.2.1 c0 c1
  refine ⟨z.1, z.2, ?_⟩
  rw [e x c hx.1 hx.2.1 c0 c1]
  exact hp x c hx.2.2 c0 c1
theorem ckR_cong {g g' : Int → Int → Int} {N L : Int} {W U : List (List Int)} {v : Int} (hN0 : 0 ≤ N) (hL : L % 2 = 0) (hW : okW2 L W) (hU : okW2 L U) (e : ∀ r c, 0 ≤ r → r < N → 0 ≤ c → c < L → g r c = g' r c) (h : ckR g N L W U v) : ckR g' N L W U v := by
  have e1 : ∀ r c, 0 ≤ r → r < N → 0 ≤ c → c < L → (k1P g N r c ↔ k1P g' N r c) := fun r c a b d x => by unfold k1P; rw [e r c a b d x]
  rcases h with h | ⟨n0, h⟩
  · exact Or.inl h
  refine Or.inr ⟨n0, ?_⟩
  rcases h with ⟨r, c, h, hv⟩ | ⟨h1, h⟩
  · exact Or.inl ⟨r, c, isFst_cong e1 h, hv⟩
  refine Or.inr ⟨noP_cong e1 h1, ?_⟩
  have hc : shC g N L := fun s c a b d x => by have := h1 s c a b d x; unfold k1P at this; omega
  have hc' : shC g' N L := fun s c a b d x => by rw [← e s c a b d x]; exact hc s c a b d x
  have e2 : ∀ r c, 0 ≤ r → r < N → 0 ≤ c → c < L → (k2P g r c ↔ k2P g' r c) := fun r c a b d x => by
    have z := hc r c a b d x
    unfold k2P
    rw [← e r c a b d x, e (g r c) (oc c) z.1 z.2 (by unfold oc; split <;> omega) (by unfold oc; split <;> omega)]
  rcases h with ⟨r, c, h, hv⟩ | ⟨h2, h⟩
  · exact Or.inl ⟨r, c, isFst_cong e2 h, hv⟩
  refine Or.inr ⟨noP_cong e2 h2, ?_⟩
  have e3 : ∀ X, okW2 L X → ∀ r c, 0 ≤ r → r < N → (k3P g X r c ↔ k3P g' X r c) := fun X hX r c a b => by
    unfold k3P
    constructor
    · rintro ⟨u, u1, u2⟩
      exact ⟨u, u1, by rw [← shG_cong hc e (hX u u1).2 a b]; exact u2⟩
    · rintro ⟨u, u1, u2⟩
      exact ⟨u, u1, by rw [shG_cong hc e (hX u u1).2 a b]; exact u2⟩
  rcases h with ⟨r, h, hv⟩ | ⟨h3, h⟩
  · exact Or.inl ⟨r, isFst_cong (fun r c a b _ _ => e3 W hW r c a b) h, hv⟩
  refine Or.inr ⟨noP_cong (fun r c a b _ _ => e3 W hW r c a b) h3, ?_⟩
  have eU := e3 U hU 0 0 (Int.le_refl _) (by omega)
  rcases h with ⟨h, hv⟩ | ⟨h4, h⟩
  · exact Or.inl ⟨eU.mp h, hv⟩
  refine Or.inr ⟨fun z => h4 (eU.mpr z), ?_⟩
  have e5 : ∀ r c, 0 ≤ r → r < N → 0 ≤ c → c < 1 → (k5P g L r c ↔ k5P g' L r c) := fun r c a b _ _ => by
    unfold k5P
    exact ⟨fun z y => z (rch_cong (by omega) hc' (fun r c a b d x => (e r c a b d x).symm) y), fun z y => z (rch_cong (by omega) hc e y)⟩
  rcases h with ⟨r, h, hv⟩ | ⟨h5, h⟩
  · exact Or.inl ⟨r, isFst_cong e5 h, hv⟩
  · exact Or.inr ⟨noP_cong e5 h5, h⟩
theorem sim_check {k : Int} {h : PH} (s : SIM k h) : SimP Ct_Ho_check Ct_Mo_check [] k h := by
  have l1 := s.2.1.1
  have l2 := s.2.1.2.1
  obtain ⟨q1, q2, q3⟩ := s.2.2.2.2.2.2.2.2.2
  obtain ⟨w1, w2, w3, w7⟩ := s.2.2.1
  obtain ⟨o1, o2⟩ := okW2_w w3
  have L2 : 2 ≤ LL h ∧ LL h ≤ 10 := ⟨by show 2 ≤ 2 * _; omega, by show 2 * _ ≤ 10; omega⟩
  have eL : 2 * gI h pHo 2 = LL h := by rw [l2]
  have cg : ∀ r c, 0 ≤ r → r < gI h pMo 66 → 0 ≤ c → c < LL h → sM h r c = sC h r c := fun r c a b d x => (q3 (10 * r + c) (by omega) (by omega)).symm
  have hL2 : LL h % 2 = 0 := by show (2 * _) % 2 = 0; omega
  refine ⟨rfl, s.1.1, by omega, by omega, by omega, by omega, fun z => ⟨_, rfl, s.1.2, rfl, s.1.2, LL h, rfl, L2, w3, q2.1, q2.2, fun h2 v f2 e4 ck => ?_⟩, fun z => ?_⟩
  · have v1 : v = -1 := by
      rcases ck with ck | ck
      · exact ck.2
      · exact absurd (q1.symm.trans z) ck.1
    exact ⟨by rw [v1], SIM_scr s (FrQ_of f2) (by intro b j x; simp only [Pck, Pm, pHo, pHo_tape, pWs, pWs_e, pWs_0, pWs_0_c, pSs, pSs_e, pSs_0, pSs_0_c, pAsk, pAsk_c, pRe, pRe_sums, pRe_firsts, pAtom, pAtom_c, pRaised, pRaised_c, pSum0, pSum0_c, pFirst0, pFirst0_c, pTa, pTa_cells, pTa_numbers, pTa_done, pTa_order, pTa_spare, pTa_parents, pTa_melting, pFi, pWa, pWa_queue, pWa_origins, pWa_vias, pWa_lengths, pWa_seen, pSingle, pSingle_c, pHo_told, pLo, pLo_cells, pLo_kept, pLo_keptRows, pLo_names, pLo_met, pSh, pSh_cells, pSh_seen, pSh_queue, pMo, pMo_tape, pMo_text, pMo_words, pMo_wordSize, pMo_subs, pMo_subSize, pMo_asked, pMo_pile, pMo_pileSize, pMo_opened, pMo_openedAt, pMo_begun, pMo_cells, pMo_keptCells, pMo_name, pMo_isLeft, pMo_isDone, pMo_keptLeft, pMo_keptDone, pMo_state, pMo_keptState, pMo_newOf, pMo_oldOf, pMo_spare, pMo_spareDone, pMo_out, pMo_metFrom, pMo_metBy, pMo_far, pMo_low, pMo_lows, pMo_lowSize, pMo_triedRow, pMo_triedColumn, pMo_triedValue, pMo_triedRows, pMo_sheet, pLong, pKt, pKt_cells, pKt_numbers, pKt_done, pKt_order, pKt_spare, pKt_parents, pKt_melting] at x; (repeat' (refine Or.elim x ?_ ?_ <;> clear x <;> intro x)) <;> (simp only [SuA, Su1, Su2, Su3, Su4, Su5, Su6, Su7, Su8, Su9]; omega))⟩
  · rw [eL]
    refine ⟨wM h, uM h, w1, w2, o1, o2, fun h1 v f1 ck1 => ?_⟩
    have me : MEq h h1 := MEq_of (FrQ_of f1) (by intro b j; simp only [Pse, pHo, pHo_tape, pWs, pWs_e, pWs_0, pWs_0_c, pSs, pSs_e, pSs_0, pSs_0_c, pAsk, pAsk_c, pRe, pRe_sums, pRe_firsts, pAtom, pAtom_c, pRaised, pRaised_c, pSum0, pSum0_c, pFirst0, pFirst0_c, pTa, pTa_cells, pTa_numbers, pTa_done, pTa_order, pTa_spare, pTa_parents, pTa_melting, pFi, pWa, pWa_queue, pWa_origins, pWa_vias, pWa_lengths, pWa_seen, pSingle, pSingle_c, pHo_told, pLo, pLo_cells, pLo_kept, pLo_keptRows, pLo_names, pLo_met, pSh, pSh_cells, pSh_seen, pSh_queue, pMo, pMo_tape, pMo_text, pMo_words, pMo_wordSize, pMo_subs, pMo_subSize, pMo_asked, pMo_pile, pMo_pileSize, pMo_opened, pMo_openedAt, pMo_begun, pMo_cells, pMo_keptCells, pMo_name, pMo_isLeft, pMo_isDone, pMo_keptLeft, pMo_keptDone, pMo_state, pMo_keptState, pMo_newOf, pMo_oldOf, pMo_spare, pMo_spareDone, pMo_out, pMo_metFrom, pMo_metBy, pMo_far, pMo_low, pMo_lows, pMo_lowSize, pMo_triedRow, pMo_triedColumn, pMo_triedValue, pMo_triedRows, pMo_sheet, pLong, pKt, pKt_cells, pKt_numbers, pKt_done, pKt_order, pKt_spare, pKt_parents, pKt_melting]; omega)
    have mw1 : MW h1 := FrQ_MW (FrQ_of f1) s.1.2
    have e66 := me pMo 66 (by decide) (by decide)
    have esm : sM h1 = sM h := by funext r c; exact me pMo_sheet _ (by decide) (by decide)
    refine ⟨v, rfl, mw1, rfl, mw1, LL h, by rw [me pMo 0 (by decide) (by decide)], L2, MWd_me me w3, by rw [e66]; exact q2.1, by rw [e66]; exact q2.2, fun h2 v2 f2 e4 ck => ⟨?_, SIM_scr s (FrQ_two (FrQ_of f1) (FrQ_of f2)) (by intro b j x; simp only [Pse, Pck, Pm, pHo, pHo_tape, pWs, pWs_e, pWs_0, pWs_0_c, pSs, pSs_e, pSs_0, pSs_0_c, pAsk, pAsk_c, pRe, pRe_sums, pRe_firsts, pAtom, pAtom_c, pRaised, pRaised_c, pSum0, pSum0_c, pFirst0, pFirst0_c, pTa, pTa_cells, pTa_numbers, pTa_done, pTa_order, pTa_spare, pTa_parents, pTa_melting, pFi, pWa, pWa_queue, pWa_origins, pWa_vias, pWa_lengths, pWa_seen, pSingle, pSingle_c, pHo_told, pLo, pLo_cells, pLo_kept, pLo_keptRows, pLo_names, pLo_met, pSh, pSh_cells, pSh_seen, pSh_queue, pMo, pMo_tape, pMo_text, pMo_words, pMo_wordSize, pMo_subs, pMo_subSize, pMo_asked, pMo_pile, pMo_pileSize, pMo_opened, pMo_openedAt, pMo_begun, pMo_cells, pMo_keptCells, pMo_name, pMo_isLeft, pMo_isDone, pMo_keptLeft, pMo_keptDone, pMo_state, pMo_keptState, pMo_newOf, pMo_oldOf, pMo_spare, pMo_spareDone, pMo_out, pMo_metFrom, pMo_metBy, pMo_far, pMo_low, pMo_lows, pMo_lowSize, pMo_triedRow, pMo_triedColumn, pMo_triedValue, pMo_triedRows, pMo_sheet, pLong, pKt, pKt_cells, pKt_numbers, pKt_done, pKt_order, pKt_spare, pKt_parents, pKt_melting] at x; (repeat' (refine Or.elim x ?_ ?_ <;> clear x <;> intro x)) <;> (simp only [SuA, Su1, Su2, Su3, Su4, Su5, Su6, Su7, Su8, Su9]; omega))⟩⟩
    rw [esm, e66, wM_me me, uM_me me] at ck
    rw [q1] at ck1
    rw [ckR_uniq (ckR_cong q2.1 hL2 o1 o2 cg ck) ck1]
