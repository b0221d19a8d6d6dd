/-! BOTH CLASSES: calls that leave the table, or rename and pack it -/
abbrev SuA (b : Nat) (j : Int) : Prop := Su1 b j ∨ Su2 b j ∨ Su3 b j ∨ Su4 b j ∨ Su5 b j ∨ Su6 b j ∨ Su7 b j ∨ Su8 b j ∨ Su9 b j
theorem SIM_scr {P : Nat → Int → Prop} {k : Int} {h h2 : PH} (s : SIM k h) (f : FrQ P h h2) (hP : ∀ b j, P b j → ¬ SuA b j) : SIM (k + 1) h2 :=
  SIM_fr s f (Or.inl fun b j x y => hP b j y (Or.inl x)) (Or.inl fun b j x y => hP b j y (Or.inr (Or.inl x))) (Or.inl fun b j x y => hP b j y (Or.inr (Or.inr (Or.inl x)))) (Or.inl fun b j x y => hP b j y (Or.inr (Or.inr (Or.inr (Or.inl x))))) (Or.inl fun b j x y => hP b j y (Or.inr (Or.inr (Or.inr (Or.inr (Or.inl x)))))) (Or.inl fun b j x y => hP b j y (Or.inr (Or.inr (Or.inr (Or.inr (Or.inr (Or.inl x))))))) (Or.inl fun b j x y => hP b j y (Or.inr (Or.inr (Or.inr (Or.inr (Or.inr (Or.inr (Or.inl x)))))))) (Or.inl fun b j x y => hP b j y (Or.inr (Or.inr (Or.inr (Or.inr (Or.inr (Or.inr (Or.inr (Or.inl x))))))))) (Or.inl fun b j x y => hP b j y (Or.inr (Or.inr (Or.inr (Or.inr (Or.inr (Or.inr (Or.inr (Or.inr x)))))))))
abbrev Pgd (b : Nat) (j : Int) : Prop := ((b = 0 ∧ j = 17) ∨ (b = 115 ∧ (j = 1 ∨ j = 2 ∨ j = 4))) ∨ ¬ SuA b j
theorem SIM_good {P : Nat → Int → Prop} {k : Int} {h h2 : PH} (s : SIM k h) (f : FrQ P h h2) (hP : ∀ b j, P b j → Pgd b j) (g1 : gI h2 pHo 17 = 0) (g2 : gI h2 pMo 1 = 0) (g3 : gI h2 pMo 2 = -1) : SIM (k + 1) h2 := by
  have f' : FrQ Pgd h h2 := FrQ_mono hP f
  refine SIM_fr s f' (Or.inl fun b j x y => y.elim (fun a => by clear y; simp only [Su1] at x; omega) (fun n => n (Or.inl x))) (Or.inl fun b j x y => y.elim (fun a => by clear y; simp only [Su2] at x; omega) (fun n => n (Or.inr (Or.inl x)))) (Or.inl fun b j x y => y.elim (fun a => by clear y; simp only [Su3] at x; omega) (fun n => n (Or.inr (Or.inr (Or.inl x))))) (Or.inr ?_) (Or.inl fun b j x y => y.elim (fun a => by clear y; simp only [Su5] at x; omega) (fun n => n (Or.inr (Or.inr (Or.inr (Or.inr (Or.inl x))))))) (Or.inl fun b j x y => y.elim (fun a => by clear y; simp only [Su6] at x; omega) (fun n => n (Or.inr (Or.inr (Or.inr (Or.inr (Or.inr (Or.inl x)))))))) (Or.inl fun b j x y => y.elim (fun a => by clear y; simp only [Su7] at x; omega) (fun n => n (Or.inr (Or.inr (Or.inr (Or.inr (Or.inr (Or.inr (Or.inl x))))))))) (Or.inl fun b j x y => y.elim (fun a => by clear y; simp only [Su8] at x; omega) (fun n => n (Or.inr (Or.inr (Or.inr (Or.inr (Or.inr (Or.inr (Or.inr (Or.inl x)))))))))) (Or.inl fun b j x y => y.elim (fun a => by clear y; simp only [Su9] at x; omega) (fun n => n (Or.inr (Or.inr (Or.inr (Or.inr (Or.inr (Or.inr (Or.inr (Or.inr x))))))))))
  exact S4_ok (by rw [f'.1 pRe 9 (fun y => y.elim (fun a => by simp (decide := true) at a) (fun n => n (Or.inr (Or.inr (Or.inr (Or.inl (by decide))))))), f'.1 pMo 3 (fun y => y.elim (fun a => by simp (decide := true) at a) (fun n => n (Or.inr (Or.inr (Or.inr (Or.inl (by decide)))))))]; exact s.2.2.2.2.1.1) g1 g2 g3
abbrev Pmd (b : Nat) (j : Int) : Prop := (b = 115 ∧ (j = 1 ∨ j = 2 ∨ j = 4 ∨ (34 ≤ j ∧ j ≤ 42))) ∨ b = 128 ∨ (130 ≤ b ∧ b ≤ 132) ∨ b = 135 ∨ (137 ≤ b ∧ b ≤ 140) ∨ (142 ≤ b ∧ b ≤ 144)
theorem tab_any {P1 P2 : Nat → Int → Prop} {k : Int} {h h1 h2 : PH} {Q : Int} {a' : AT} (s : SIM k h) (z : gI h pHo 10 ≠ 0) (f1 : FrQ P1 h h1) (p1 : ∀ b j, P1 b j → 87 ≤ b ∧ b ≤ 103) (t1 : TaR h1 (LL h) a') (f2 : FrP P2 (sI h1 pHo 17 0) h2) (p2 : ∀ b j, P2 b j → Pmd b j) (gd : gdH h2) (bb : BB h2) (e2 : atM h2 = a') (w : WT (LL h) Q a') (q0 : 0 ≤ Q) (q1 : Q ≤ k + 1) (m : aM a' = 0 ∨ aM a' = -1) (fu : FU (LL h) a') (a5 : aS a' 5 ≤ 2000 * (k + 1)) : SIM (k + 1) h2 := by
  have z' : gI h pMo 32 ≠ 0 := fun y => z ((ht_iff s).mpr y)
  have f0 : FrQ Pno h1 (sI h1 pHo 17 0) := FrQ_sI (by decide) (FrQ_refl Pno h1)
  have f : FrQ (fun b j => P1 b j ∨ (Pno b j ∨ P2 b j)) h h2 := FrQ_two f1 (FrQ_two f0 (FrQ_of f2))
  have n1 : ∀ b j, ¬ (87 ≤ b ∧ b ≤ 103) → ¬ P1 b j := fun b j x y => x (p1 b j y)
  have n2 : ∀ b j, ¬ Pmd b j → ¬ P2 b j := fun b j x y => x (p2 b j y)
  have eL : LL h2 = LL h := by show 2 * gI h2 pMo 0 = 2 * gI h pMo 0; rw [f2.1 pMo 0 (n2 _ _ (by decide)), f0.1 pMo 0 (by decide), f1.1 pMo 0 (n1 _ _ (by decide))]
  have g : gI h2 pHo 17 = 0 := by rw [f2.1 pHo 17 (n2 _ _ (by decide)), gI_sI, if_pos ⟨rfl, rfl⟩]
  refine tab_fin s f (fun b j x => ?_) g gd.1 gd.2.1 ?_
  · rcases x with x | x | x
    · have := p1 b j x; simp only [Ptb]; omega
    · simp only [Pno] at x; simp only [Ptb]; omega
    · have := p2 b j x; simp only [Pmd] at this; simp only [Ptb]; omega
  refine S5_mk (Q := Q) bb ?_ ?_ ?_ q0 q1 ?_ ?_ ?_ ?_
  · have : aM (atM h2) = gI h2 pMo 39 := rfl
    rw [← this, e2]; exact m
  · rw [eL, e2]
    refine TaR_eq (fun b j b0 b1 => ?_) t1
    rw [f2.1 b j (n2 _ _ (by simp only [Pmd]; omega)), f0.1 b j (by simp only [Pno]; omega)]
  · rw [eL, e2]; exact w
  · rw [eL, e2]; exact fu
  · rw [e2]; exact a5
  · rw [f2.1 pHo 10 (n2 _ _ (by decide)), f0.1 pHo 10 (by decide), f1.1 pHo 10 (n1 _ _ (by decide))]; exact z
  · rw [f2.1 pMo 32 (n2 _ _ (by decide)), f0.1 pMo 32 (by decide), f1.1 pMo 32 (n1 _ _ (by decide))]; exact z'
theorem whole_iff {k : Int} {h : PH} (s : SIM k h) (hk : k ≤ 600) : (gI h pHo 10 ≠ 0 ∧ gI h pTa 18 = 1) ↔ (gI h pMo 32 ≠ 0 ∧ gI h pMo_state 6 = 1) := by
  have i := ht_iff s
  constructor
  · rintro ⟨a, b⟩
    have z' : gI h pMo 32 ≠ 0 := fun y => a (i.mpr y)
    obtain ⟨Q, q0, q1, tx, tr, fu, a5, a6⟩ := TX_of s hk z'
    exact ⟨z', (e18 tr) ▸ b⟩
  · rintro ⟨a, b⟩
    obtain ⟨Q, q0, q1, tx, tr, fu, a5, a6⟩ := TX_of s hk a
    exact ⟨fun y => a (i.mp y), (e18 tr).trans b⟩
theorem full_of {k : Int} {h : PH} (fu : FU (LL h) (atM h)) (z : gI h pMo_state 6 = 1) : ∀ r c, VV (atM h) r → 0 ≤ c → c < LL h → aE (atM h) r c ≠ -2 := fu (by rw [aS_atM (by decide) (by decide)]; exact z)
theorem sim_rename {k : Int} {h : PH} (s : SIM k h) (hk : k ≤ 600) (k0 : 0 ≤ k) : SimP Ct_Ho_rename Ct_Mo_rename [] k h := by
  have wi := whole_iff s hk
  refine ⟨rfl, s.1.1, fun z => ⟨_, rfl, s.1.2, rfl, s.1.2, fun _ => ⟨rfl, SIM_no s (by decide)⟩, fun y => absurd (wi.mpr y) z⟩, fun z => ?_⟩
  have z' := wi.mp z
  obtain ⟨Q, q0, q1, tx, tr, fu, a5, a6⟩ := TX_of s hk z'.1
  have ful := full_of (k := k) fu z'.2
  refine ⟨LL h, Q, atM h, tr, tx.2.2.1, tx.2.1.1, tx.2.1.2, ful, fun h1 f1 t1 => ?_⟩
  have me : MEq h (sI h1 pHo 17 0) := me_sI (MEq_of (FrQ_of f1) (by intro b j; simp only [Pt, Pwa, pHo, pHo_tape, pWs, pWs_e, pWs_0, pWs_0_c, pSs, pSs_e, pSs_0, pSs_0_c, pAsk, pAsk_c, pRe, pRe_sums, pRe_firsts, pAtom, pAtom_c, pRaised, pRaised_c, pSum0, pSum0_c, pFirst0, pFirst0_c, pTa, pTa_cells, pTa_numbers, pTa_done, pTa_order, pTa_spare, pTa_parents, pTa_melting, pFi, pWa, pWa_queue, pWa_origins, pWa_vias, pWa_lengths, pWa_seen, pSingle, pSingle_c, pHo_told, pLo, pLo_cells, pLo_kept, pLo_keptRows, pLo_names, pLo_met, pSh, pSh_cells, pSh_seen, pSh_queue, pMo, pMo_tape, pMo_text, pMo_words, pMo_wordSize, pMo_subs, pMo_subSize, pMo_asked, pMo_pile, pMo_pileSize, pMo_opened, pMo_openedAt, pMo_begun, pMo_cells, pMo_keptCells, pMo_name, pMo_isLeft, pMo_isDone, pMo_keptLeft, pMo_keptDone, pMo_state, pMo_keptState, pMo_newOf, pMo_oldOf, pMo_spare, pMo_spareDone, pMo_out, pMo_metFrom, pMo_metBy, pMo_far, pMo_low, pMo_lows, pMo_lowSize, pMo_triedRow, pMo_triedColumn, pMo_triedValue, pMo_triedRows, pMo_sheet, pLong, pKt, pKt_cells, pKt_numbers, pKt_done, pKt_order, pKt_spare, pKt_parents, pKt_melting]; omega)) (Or.inl (by decide))
  have m1 : MW h1 := FrQ_MW (FrQ_of f1) s.1.2
  have z2 : gI (sI h1 pHo 17 0) pMo 32 ≠ 0 ∧ gI (sI h1 pHo 17 0) pMo_state 6 = 1 := by rw [me pMo 32 (by decide) (by decide), me pMo_state 6 (by decide) (by decide)]; exact z'
  have h39 := s.2.2.2.2.2.1.2.1.1
  refine ⟨_, rfl, m1, rfl, m1, fun y => absurd z2 y, fun _ => ⟨LL h, Q, TX_me me tx, by rw [atM_me me]; exact fu, by rw [me pMo 39 (by decide) (by decide)]; omega, fun h2 f2 gd e2 bb => ⟨rfl, ?_⟩⟩⟩
  rw [atM_me me] at e2
  have hL2 : LL h % 2 = 0 := by show (2 * _) % 2 = 0; omega
  refine tab_any s z.1 (FrQ_of f1) (by intro b j; simp only [Pt, Pwa, pHo, pHo_tape, pWs, pWs_e, pWs_0, pWs_0_c, pSs, pSs_e, pSs_0, pSs_0_c, pAsk, pAsk_c, pRe, pRe_sums, pRe_firsts, pAtom, pAtom_c, pRaised, pRaised_c, pSum0, pSum0_c, pFirst0, pFirst0_c, pTa, pTa_cells, pTa_numbers, pTa_done, pTa_order, pTa_spare, pTa_parents, pTa_melting, pFi, pWa, pWa_queue, pWa_origins, pWa_vias, pWa_lengths, pWa_seen, pSingle, pSingle_c, pHo_told, pLo, pLo_cells, pLo_kept, pLo_keptRows, pLo_names, pLo_met, pSh, pSh_cells, pSh_seen, pSh_queue, pMo, pMo_tape, pMo_text, pMo_words, pMo_wordSize, pMo_subs, pMo_subSize, pMo_asked, pMo_pile, pMo_pileSize, pMo_opened, pMo_openedAt, pMo_begun, pMo_cells, pMo_keptCells, pMo_name, pMo_isLeft, pMo_isDone, pMo_keptLeft, pMo_keptDone, pMo_state, pMo_keptState, pMo_newOf, pMo_oldOf, pMo_spare, pMo_spareDone, pMo_out, pMo_metFrom, pMo_metBy, pMo_far, pMo_low, pMo_lows, pMo_lowSize, pMo_triedRow, pMo_triedColumn, pMo_triedValue, pMo_triedRows, pMo_sheet, pLong, pKt, pKt_cells, pKt_numbers, pKt_done, pKt_order, pKt_spare, pKt_parents, pKt_melting]; omega) t1 f2 (by intro b j x; simp only [PR, Tb, Po, pHo, pHo_tape, pWs, pWs_e, pWs_0, pWs_0_c, pSs, pSs_e, pSs_0, pSs_0_c, pAsk, pAsk_c, pRe, pRe_sums, pRe_firsts, pAtom, pAtom_c, pRaised, pRaised_c, pSum0, pSum0_c, pFirst0, pFirst0_c, pTa, pTa_cells, pTa_numbers, pTa_done, pTa_order, pTa_spare, pTa_parents, pTa_melting, pFi, pWa, pWa_queue, pWa_origins, pWa_vias, pWa_lengths, pWa_seen, pSingle, pSingle_c, pHo_told, pLo, pLo_cells, pLo_kept, pLo_keptRows, pLo_names, pLo_met, pSh, pSh_cells, pSh_seen, pSh_queue, pMo, pMo_tape, pMo_text, pMo_words, pMo_wordSize, pMo_subs, pMo_subSize, pMo_asked, pMo_pile, pMo_pileSize, pMo_opened, pMo_openedAt, pMo_begun, pMo_cells, pMo_keptCells, pMo_name, pMo_isLeft, pMo_isDone, pMo_keptLeft, pMo_keptDone, pMo_state, pMo_keptState, pMo_newOf, pMo_oldOf, pMo_spare, pMo_spareDone, pMo_out, pMo_metFrom, pMo_metBy, pMo_far, pMo_low, pMo_lows, pMo_lowSize, pMo_triedRow, pMo_triedColumn, pMo_triedValue, pMo_triedRows, pMo_sheet, pLong, pKt, pKt_cells, pKt_numbers, pKt_done, pKt_order, pKt_spare, pKt_parents, pKt_melting] at x; simp only [Pmd]; (repeat' (refine Or.elim x ?_ ?_ <;> clear x <;> intro x)) <;> omega) gd bb e2 (WT_rn hL2 tx.2.2.1 ful (by have : aM (atM h) = gI h pMo 39 := rfl; omega)) q0 (by omega) (h39_a s) FU_rn ?_
  have : aS (rnA (LL h) (atM h)) 5 = aS (atM h) 5 := rfl
  omega
theorem TaR_M {h : PH} {L : Int} {a b : AT} (e : aV a = aV b ∧ aE a = aE b ∧ aD a = aD b ∧ aS a = aS b) (x : TaR h L a) : TaR h L b := by
  unfold TaR TaG TgS TgE VV at x ⊢
  rw [← e.1, ← e.2.1, ← e.2.2.1, ← e.2.2.2]
  exact x
theorem sim_pack {k : Int} {h : PH} (s : SIM k h) (hk : k ≤ 600) (k0 : 0 ≤ k) : SimP Ct_Ho_pack Ct_Mo_pack [] k h := by
  refine ⟨rfl, s.1.1, fun z => ⟨_, rfl, s.1.2, rfl, s.1.2, fun _ => ⟨rfl, SIM_no s (by decide)⟩, fun y => absurd ((ht_iff s).mp z) y⟩, fun z => ?_⟩
  have z' : gI h pMo 32 ≠ 0 := fun y => z ((ht_iff s).mpr y)
  obtain ⟨Q, q0, q1, tx, tr, fu, a5, a6⟩ := TX_of s hk z'
  have wt := tx.2.2.1
  refine ⟨LL h, Q, atM h, tr, wt, tx.2.2.2.1, fun h1 f1 t1 => ?_⟩
  have me : MEq h (sI h1 pHo 17 0) := me_sI (MEq_of (FrQ_of f1) (by intro b j; simp only [Pt, pHo, pHo_tape, pWs, pWs_e, pWs_0, pWs_0_c, pSs, pSs_e, pSs_0, pSs_0_c, pAsk, pAsk_c, pRe, pRe_sums, pRe_firsts, pAtom, pAtom_c, pRaised, pRaised_c, pSum0, pSum0_c, pFirst0, pFirst0_c, pTa, pTa_cells, pTa_numbers, pTa_done, pTa_order, pTa_spare, pTa_parents, pTa_melting, pFi, pWa, pWa_queue, pWa_origins, pWa_vias, pWa_lengths, pWa_seen, pSingle, pSingle_c, pHo_told, pLo, pLo_cells, pLo_kept, pLo_keptRows, pLo_names, pLo_met, pSh, pSh_cells, pSh_seen, pSh_queue, pMo, pMo_tape, pMo_text, pMo_words, pMo_wordSize, pMo_subs, pMo_subSize, pMo_asked, pMo_pile, pMo_pileSize, pMo_opened, pMo_openedAt, pMo_begun, pMo_cells, pMo_keptCells, pMo_name, pMo_isLeft, pMo_isDone, pMo_keptLeft, pMo_keptDone, pMo_state, pMo_keptState, pMo_newOf, pMo_oldOf, pMo_spare, pMo_spareDone, pMo_out, pMo_metFrom, pMo_metBy, pMo_far, pMo_low, pMo_lows, pMo_lowSize, pMo_triedRow, pMo_triedColumn, pMo_triedValue, pMo_triedRows, pMo_sheet, pLong, pKt, pKt_cells, pKt_numbers, pKt_done, pKt_order, pKt_spare, pKt_parents, pKt_melting]; omega)) (Or.inl (by decide))
  have m1 : MW h1 := FrQ_MW (FrQ_of f1) s.1.2
  refine ⟨_, rfl, m1, rfl, m1, fun y => absurd (me pMo 32 (by decide) (by decide) ▸ y) z', fun _ => ⟨LL h, Q, TX_me me tx, fun h2 f2 gd e2 bb => ⟨?_, ?_⟩⟩⟩
  · rw [atM_me me]
    have : gI h1 pTa 12 = aS (pkA (atM h)) 1 := t1.1.2.1
    rw [this]; rfl
  rw [atM_me me] at e2
  have hL2 : LL h % 2 = 0 := by show (2 * _) % 2 = 0; omega
  have ws : WT (LL h) Q (setM (atM h) (-1)) := WT_setM wt (by decide) (by have := wt.2.2.2.2.1; omega)
  have t2 : TaR h1 (LL h) (pkA (setM (atM h) (-1))) := TaR_M ⟨rfl, rfl, rfl, rfl⟩ t1
  refine tab_any s z (FrQ_of f1) (by intro b j; simp only [Pt, pHo, pHo_tape, pWs, pWs_e, pWs_0, pWs_0_c, pSs, pSs_e, pSs_0, pSs_0_c, pAsk, pAsk_c, pRe, pRe_sums, pRe_firsts, pAtom, pAtom_c, pRaised, pRaised_c, pSum0, pSum0_c, pFirst0, pFirst0_c, pTa, pTa_cells, pTa_numbers, pTa_done, pTa_order, pTa_spare, pTa_parents, pTa_melting, pFi, pWa, pWa_queue, pWa_origins, pWa_vias, pWa_lengths, pWa_seen, pSingle, pSingle_c, pHo_told, pLo, pLo_cells, pLo_kept, pLo_keptRows, pLo_names, pLo_met, pSh, pSh_cells, pSh_seen, pSh_queue, pMo, pMo_tape, pMo_text, pMo_words, pMo_wordSize, pMo_subs, pMo_subSize, pMo_asked, pMo_pile, pMo_pileSize, pMo_opened, pMo_openedAt, pMo_begun, pMo_cells, pMo_keptCells, pMo_name, pMo_isLeft, pMo_isDone, pMo_keptLeft, pMo_keptDone, pMo_state, pMo_keptState, pMo_newOf, pMo_oldOf, pMo_spare, pMo_spareDone, pMo_out, pMo_metFrom, pMo_metBy, pMo_far, pMo_low, pMo_lows, pMo_lowSize, pMo_triedRow, pMo_triedColumn, pMo_triedValue, pMo_triedRows, pMo_sheet, pLong, pKt, pKt_cells, pKt_numbers, pKt_done, pKt_order, pKt_spare, pKt_parents, pKt_melting]; omega) t2 f2 (by intro b j x; simp only [PT, Tb, Po, pHo, pHo_tape, pWs, pWs_e, pWs_0, pWs_0_c, pSs, pSs_e, pSs_0, pSs_0_c, pAsk, pAsk_c, pRe, pRe_sums, pRe_firsts, pAtom, pAtom_c, pRaised, pRaised_c, pSum0, pSum0_c, pFirst0, pFirst0_c, pTa, pTa_cells, pTa_numbers, pTa_done, pTa_order, pTa_spare, pTa_parents, pTa_melting, pFi, pWa, pWa_queue, pWa_origins, pWa_vias, pWa_lengths, pWa_seen, pSingle, pSingle_c, pHo_told, pLo, pLo_cells, pLo_kept, pLo_keptRows, pLo_names, pLo_met, pSh, pSh_cells, pSh_seen, pSh_queue, pMo, pMo_tape, pMo_text, pMo_words, pMo_wordSize, pMo_subs, pMo_subSize, pMo_asked, pMo_pile, pMo_pileSize, pMo_opened, pMo_openedAt, pMo_begun, pMo_cells, pMo_keptCells, pMo_name, pMo_isLeft, pMo_isDone, pMo_keptLeft, pMo_keptDone, pMo_state, pMo_keptState, pMo_newOf, pMo_oldOf, pMo_spare, pMo_spareDone, pMo_out, pMo_metFrom, pMo_metBy, pMo_far, pMo_low, pMo_lows, pMo_lowSize, pMo_triedRow, pMo_triedColumn, pMo_triedValue, pMo_triedRows, pMo_sheet, pLong, pKt, pKt_cells, pKt_numbers, pKt_done, pKt_order, pKt_spare, pKt_parents, pKt_melting] at x; simp only [Pmd]; (repeat' (refine Or.elim x ?_ ?_ <;> clear x <;> intro x)) <;> omega) gd bb e2 (WT_pk (Q' := Q + 1) hL2 ws ?_) (by omega) (by omega) (Or.inr ?_) (FU_pk ws fu) ?_
  · have := ws.2.2.2.2.2.2.1
    show aS (setM (atM h) (-1)) 7 + 1 ≤ _
    omega
  · show (if 0 ≤ (-1 : Int) ∧ aV (atM h) (-1) ≠ 0 then rk (setM (atM h) (-1)) (-1) else (-1 : Int)) = -1
    exact if_neg (fun y => absurd y.1 (by decide))
  · have : aS (pkA (setM (atM h) (-1))) 5 = aS (atM h) 5 := rfl
    omega
