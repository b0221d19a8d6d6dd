/-! THE LAW's case of out -/
def outRest (xs : Nat → Int32) (SL lc lz : Nat) : TT := tt_is 5 (tt_al 2 (tt_al 0 (tt_il 4 (tt_ci 1 (tt_add (tt_sd xs SL (tt_cV 9 2 (CtM (fun _ => 0) (fun _ => 0) Ct_Mo_out) (tt_is 6 (tt_al 2 (tt_cV 9 1 (CtM (fun _ => 0) (fun _ => 0) Ct_Mo_thrown) (tt_il 5 (tt_ceq (B_law_913 xs SL lc lz) (tt_ci 0 tt_zr)))))))))))))
theorem SIM_bmp {k : Int} {h : PH} {c z : Nat} (s : SIM k h) : SIM k (bmp h c z) := s
abbrev Plg (b : Nat) (j : Int) : Prop := b = 153 ∨ (b = 115 ∧ j = 4)
theorem Plg_no : ∀ b j, Plg b j → ¬ SuA b j := by intro b j x; simp only [SuA, Su1, Su2, Su3, Su4, Su5, Su6, Su7, Su8, Su9]; omega
/-- what the model answers, and the comparison -/
theorem out_rest {xs : Nat → Int32} {SL lc lz k : Nat} {K : TK} {R : TR} {h h1 : PH} {v5 v6 : Option PV} {t w : Int} (S : CS SL k K h) (c1 : hC h1 = hC h + 1) (z1 : hZ h1 = hZ h + 6) (n1 : 154 ≤ hN h1) (m1 : MW h1)
    (hp : Ct_Mo_out [.inr (.inl (some pMo)), .inl (xs (6 * (k : Int) + 1).toNat).toInt] h1 (fun r h2 => r = some (.inl w) ∧ gI h2 pMo 4 = t ∧ SIM ((k : Int) + 1) h2 ∧ (t = 0 → gI h2 pLong 0 = w) ∧ MW h2)) :
    outRest xs SL lc lz K R (lsL (6 * (k : Int)) v5 v6) [.inl t] h1 := by
  obtain ⟨q1, q2, q3, q4, q5⟩ := g_kk S
  refine ⟨Nat.le_of_ble_eq_true rfl, ?_⟩
  show tt_al 2 _ K R (lsL (6 * (k : Int)) (some (.inl t)) v6) [] h1
  refine g_al2 (g_sd (a := 1) q3 (by decide) (by decide) q4 q5 ?_)
  refine ⟨Nat.le_of_ble_eq_true rfl, Nat.le_of_ble_eq_true rfl, mo_O m1, _, hp, fun r2 h2 hq c2 z2 => ?_⟩
  obtain ⟨rfl, e4, s2, e5, m2⟩ := hq
  have d3 : hC h2 = hC h1 := c2
  have d4 : hZ h2 = hZ h1 := z2
  refine ⟨Nat.le_of_ble_eq_true rfl, ?_⟩
  show tt_al 2 _ K R (lsL (6 * (k : Int)) (some (.inl t)) (some (.inl w))) [] h2
  refine g_al2 ?_
  refine ⟨Nat.le_of_ble_eq_true rfl, Nat.le_of_ble_eq_true rfl, mo_O m2, fun r h3 => r = some (.inl t) ∧ h3 = h2, ⟨rfl, m2, by rw [e4], rfl⟩, fun r3 h3 hq c3 z3 => ?_⟩
  obtain ⟨rfl, rfl⟩ := hq
  refine ⟨fun _ => ?_, fun y => absurd rfl y⟩
  refine ⟨fun y => ?_, fun y => ?_⟩
  · exact g_br S s2 (by omega) (by omega)
  · refine ⟨⟨Nat.lt_of_lt_of_le (by decide) m2.1, 1, rfl⟩, Int.le_refl _, by decide, ?_⟩
    have e6 : cmL (gI h3 pLong 0) w = 0 := by
      rw [e5 y]
      unfold cmL
      rw [if_neg (Int.lt_irrefl _), if_pos rfl]
    refine ⟨fun _ => ?_, fun z => absurd e6 z⟩
    exact g_br S s2 (by omega) (by omega)
theorem cs_877 {xs : Nat → Int32} {SL lc lz k : Nat} {K : TK} {R : TR} {h : PH} {v5 v6 : Option PV} (hlc : 41331 ≤ lc) (hlz : 8972110 ≤ lz) (S : CS SL k K h) : B_law_877 xs SL lc lz K R (lsL (6 * (k : Int)) v5 v6) [] h := by
  obtain ⟨q1, q2, q3, q4, q5⟩ := g_kk S
  have n1 := S.2.1.1
  have n2 := S.2.1.2
  obtain ⟨o1, o2, o3⟩ := S.1.2.2.2.2.2.2.2.1
  have w := S.1.1.1
  refine g_al1 (g_sd (a := 1) q3 (by decide) (by decide) q4 q5 (g_al3 ?_))
  refine ⟨Nat.le_of_ble_eq_true rfl, Nat.le_of_ble_eq_true rfl, by omega, by omega, ?_⟩
  have rest := fun (h1 : PH) (t v : Int) => @out_rest xs SL lc lz k K R h h1 v5 v6 t v S
  generalize hi : (xs (6 * (k : Int) + 1).toNat).toInt = i at rest ⊢
  by_cases q : 0 ≤ i ∧ i < gI h pHo 14
  · refine Or.inl ⟨rfl, rfl, ⟨Nat.lt_of_lt_of_le (by decide) w.1, 1, rfl⟩, co_Ho w, w.2.1.2.2.2.2.2.2.2.2.1, ⟨Nat.lt_of_lt_of_le (by decide) w.1, 300, rfl⟩, q.1, q.2, by omega, ?_⟩
    refine rest (bmp (sI h pLong 0 (gI h pHo_told i)) 1 6) 0 (gI h pMo_out i) rfl rfl w.1 S.1.1.2 ⟨rfl, S.1.1.2, by show gI h pMo 46 ≤ 640; omega, fun _ => ⟨rfl, rfl, ?_, fun _ => ?_, S.1.1.2⟩, fun y => absurd (show 0 ≤ i ∧ i < gI h pMo 46 by omega) y⟩
    · have f : FrQ Plg h (sI (sI h pLong 0 (gI h pHo_told i)) pMo 4 0) := FrQ_sI (by decide) (FrQ_sI (by decide) (FrQ_refl Plg h))
      exact SIM_bmp (c := 1) (z := 6) (SIM_scr S.1 f Plg_no)
    · show gI h pHo_told i = gI h pMo_out i
      exact o3 i q.1 (by omega)
  · refine Or.inr ⟨rfl, rfl, co_Ho w, q, ?_⟩
    refine rest (bmp h 1 6) 1 0 rfl rfl w.1 S.1.1.2 ⟨rfl, S.1.1.2, by show gI h pMo 46 ≤ 640; omega, fun y => absurd (show 0 ≤ i ∧ i < gI h pHo 14 by have : 0 ≤ i ∧ i < gI h pMo 46 := y; omega) q, fun _ => ⟨rfl, rfl, ?_, fun y => absurd y (by decide), S.1.1.2⟩⟩
    have f : FrQ Plg h (sI h pMo 4 1) := FrQ_sI (by decide) (FrQ_refl Plg h)
    exact SIM_bmp (c := 1) (z := 6) (SIM_scr S.1 f Plg_no)
