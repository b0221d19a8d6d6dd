/-! ONE STATE FOR BOTH CLASSES -/
abbrev Su1 (b : Nat) (j : Int) : Prop := (b = 0 ∧ (j = 1 ∨ j = 2)) ∨ b = 1 ∨ (b = 115 ∧ (j = 0 ∨ j = 7)) ∨ b = 116
abbrev Su2 (b : Nat) (j : Int) : Prop := (2 ≤ b ∧ b ≤ 41) ∨ (118 ≤ b ∧ b ≤ 121) ∨ (b = 115 ∧ (j = 0 ∨ j = 14 ∨ j = 15))
abbrev Su3 (b : Nat) (j : Int) : Prop := (b = 42 ∧ j = 1) ∨ b = 43 ∨ b = 122 ∨ (b = 115 ∧ (j = 0 ∨ j = 16))
abbrev Su4 (b : Nat) (j : Int) : Prop := (b = 44 ∧ (j = 9 ∨ j = 10)) ∨ (b = 0 ∧ j = 17) ∨ (b = 115 ∧ (j = 1 ∨ j = 2 ∨ j = 3))
abbrev Su5 (b : Nat) (j : Int) : Prop := (87 ≤ b ∧ b ≤ 93) ∨ (b = 0 ∧ j = 10) ∨ (b = 115 ∧ (j = 0 ∨ j = 32 ∨ j = 39)) ∨ b = 128 ∨ b = 131 ∨ b = 132 ∨ b = 135
abbrev Su6 (b : Nat) (j : Int) : Prop := (154 ≤ b ∧ b ≤ 160) ∨ (b = 0 ∧ j = 12) ∨ (b = 115 ∧ (j = 0 ∨ j = 33)) ∨ b = 129 ∨ b = 133 ∨ b = 134 ∨ b = 136
abbrev Su7 (b : Nat) (j : Int) : Prop := (b = 0 ∧ j = 14) ∨ b = 104 ∨ (b = 115 ∧ j = 46) ∨ b = 141
abbrev Su8 (b : Nat) (j : Int) : Prop := (b = 105 ∧ (8 ≤ j ∧ j ≤ 12)) ∨ b = 107 ∨ b = 108 ∨ (b = 115 ∧ 53 ≤ j ∧ j ≤ 60) ∨ b = 146 ∨ b = 147
abbrev Su9 (b : Nat) (j : Int) : Prop := (b = 111 ∧ j = 3) ∨ b = 112 ∨ (b = 115 ∧ j = 66) ∨ b = 152
abbrev LL (h : PH) : Int := 2 * gI h pMo 0
def akM (h : PH) : AT := mkA 10 (gI h pMo_keptState 0) (gI h pMo_keptLeft) (c2 (gI h pMo_keptCells)) (gI h pMo_keptDone) (gI h pMo_keptState) (-1)
def KB (h : PH) : Prop := ∀ j, 0 ≤ j → j < 2000 → (gI h pMo_keptLeft j = 0 ∨ gI h pMo_keptLeft j = 1) ∧ (gI h pMo_keptDone j = 0 ∨ gI h pMo_keptDone j = 1)
def S1 (h : PH) : Prop := (1 ≤ gI h pMo 0 ∧ gI h pMo 0 ≤ 5) ∧ gI h pHo 2 = gI h pMo 0 ∧ (0 ≤ gI h pMo 7 ∧ gI h pMo 7 ≤ 400) ∧ gI h pHo 1 = gI h pMo 7 ∧ (∀ j, -128 ≤ gI h pMo_tape j ∧ gI h pMo_tape j ≤ 127) ∧ gI h pHo_tape = gI h pMo_tape
def WZ (h : PH) : Prop := (∀ j, 0 ≤ j → j < 12 → gI h pMo_wordSize j ≤ 40) ∧ ∀ j, 0 ≤ j → j < 6 → gI h pMo_subSize j ≤ 40
def S2 (h : PH) : Prop := LR h pWs (wM h) ∧ LR h pSs (uM h) ∧ MWd (LL h) h ∧ WZ h
def S3 (h : PH) : Prop := WR h pAsk (akW h) ∧ AK (LL h) h
def S4 (h : PH) : Prop := gI h pRe 9 = gI h pMo 3 ∧ gI h pHo 17 = gI h pMo 1 ∧ (gI h pMo 1 = 2 → gI h pRe 10 = gI h pMo 2) ∧ (gI h pMo 1 ≠ 2 → gI h pMo 2 = -1)
def TS (k : Int) (L : Int) (a : AT) : Prop := FU L a ∧ aS a 5 ≤ 2000 * k ∧ ∃ Q, 0 ≤ Q ∧ Q ≤ k ∧ WT L Q a
def S5 (k : Int) (h : PH) : Prop := BB h ∧ ((gI h pMo 39 = 0 ∨ gI h pMo 39 = -1) ∧ gI h pMo_state 0 ≤ 2000) ∧ BD (gI h pTa_done) ∧ (gI h pTa 8 = 0 ∨ gI h pTa 8 = 1) ∧ (gI h pHo 10 = 0 ↔ gI h pMo 32 = 0) ∧ (gI h pMo 32 ≠ 0 → TaR h (LL h) (atM h) ∧ TS k (LL h) (atM h))
def S6 (k : Int) (h : PH) : Prop := KB h ∧ (gI h pHo 12 = 0 ↔ gI h pMo 33 = 0) ∧ (gI h pMo 33 ≠ 0 → gR h pHo 11 = some pKt ∧ BD (gI h pKt_done) ∧ TaK h (LL h) (akM h) ∧ TS k (LL h) (akM h)) ∧ (gR h pHo 11 = none → hN h = 154)
def S7 (h : PH) : Prop := gI h pHo 14 = gI h pMo 46 ∧ (0 ≤ gI h pMo 46 ∧ gI h pMo 46 ≤ 300) ∧ ∀ j, 0 ≤ j → j < gI h pMo 46 → gI h pHo_told j = gI h pMo_out j
def S8 (h : PH) : Prop := ∃ (l : List (Int × LE)) (L : Int), FdC h l L ∧ FdM h l L ∧ gI h pLo 8 = L ∧ 2 * gI h pMo 53 = L ∧ (0 ≤ L ∧ L ≤ 10) ∧ (l ≠ [] → 2 ≤ L) ∧ ((gI h pLo 9 = 0 ∧ gI h pMo 60 = 0) ∨ (gI h pLo 9 = 1 ∧ gI h pMo 60 = 1 ∧ gI h pLo 11 = gI h pMo 56 ∧ gI h pLo 10 = gI h pMo 59))
def S9 (h : PH) : Prop := gI h pSh 3 = gI h pMo 66 ∧ (0 ≤ gI h pMo 66 ∧ gI h pMo 66 ≤ 40) ∧ ∀ j, 0 ≤ j → j < 400 → gI h pSh_cells j = gI h pMo_sheet j
def SIM (k : Int) (h : PH) : Prop := (CW h ∧ MW h) ∧ S1 h ∧ S2 h ∧ S3 h ∧ S4 h ∧ S5 k h ∧ S6 k h ∧ S7 h ∧ S8 h ∧ S9 h
theorem FrQ_two {P1 P2 : Nat → Int → Prop} {h h' h'' : PH} (a : FrQ P1 h h') (b : FrQ P2 h' h'') : FrQ (fun x j => P1 x j ∨ P2 x j) h h'' := FrQ_trans (FrQ_mono (fun _ _ z => Or.inl z) a) (FrQ_mono (fun _ _ z => Or.inr z) b)
theorem S1_fr {P : Nat → Int → Prop} {h h' : PH} (f : FrQ P h h') (hP : ∀ b j, Su1 b j → ¬ P b j) (s : S1 h) : S1 h' := by
  have e : ∀ b j, Su1 b j → gI h' b j = gI h b j := fun b j z => f.1 b j (hP b j z)
  have t1 : gI h' pHo_tape = gI h pHo_tape := funext fun j => e 1 j (Or.inr (Or.inl rfl))
  have t2 : gI h' pMo_tape = gI h pMo_tape := funext fun j => e 116 j (Or.inr (Or.inr (Or.inr rfl)))
  unfold S1 at s ⊢
  rw [t1, t2, e pMo 0 (by decide), e pHo 2 (by decide), e pMo 7 (by decide), e pHo 1 (by decide)]
  exact s
theorem LR_eq {h h' : PH} {q : Nat} {W : List (List Int)} (hq : WLp q) (e : ∀ b j, 2 ≤ b → b ≤ 41 → gI h' b j = gI h b j) (x : LR h q W) : LR h' q W := by
  have q2 : (q = 2 ∧ lq q = 12) ∨ (q = 28 ∧ lq q = 6) := by rcases hq with rfl | rfl; exact Or.inl ⟨rfl, rfl⟩; exact Or.inr ⟨rfl, rfl⟩
  obtain ⟨x1, x2, x3⟩ := x
  refine ⟨by rw [e q 1 (by omega) (by omega)]; exact x1, x2, fun k hk => ?_⟩
  obtain ⟨y1, y2, y3, y4⟩ := x3 k hk
  refine ⟨by rw [e _ 1 (by omega) (by omega)]; exact y1, y2, fun i hi => by rw [e _ _ (by omega) (by omega)]; exact y3 i hi, y4⟩
theorem S2_fr {P : Nat → Int → Prop} {h h' : PH} (f : FrQ P h h') (hP : ∀ b j, Su2 b j → ¬ P b j) (s : S2 h) : S2 h' := by
  have e : ∀ b j, Su2 b j → gI h' b j = gI h b j := fun b j z => f.1 b j (hP b j z)
  have e1 : ∀ b j, 2 ≤ b → b ≤ 41 → gI h' b j = gI h b j := fun b j z1 z2 => e b j (Or.inl ⟨z1, z2⟩)
  have e2 : ∀ b, 118 ≤ b → b ≤ 121 → gI h' b = gI h b := fun b z1 z2 => funext fun j => e b j (Or.inr (Or.inl ⟨z1, z2⟩))
  unfold S2 wM uM MWd LL WZ at s ⊢
  rw [e2 pMo_words (by decide) (by decide), e2 pMo_wordSize (by decide) (by decide), e2 pMo_subs (by decide) (by decide), e2 pMo_subSize (by decide) (by decide), e pMo 0 (by decide), e pMo 14 (by decide), e pMo 15 (by decide)]
  exact ⟨LR_eq (Or.inl rfl) e1 s.1, LR_eq (Or.inr rfl) e1 s.2.1, s.2.2⟩
theorem S3_fr {P : Nat → Int → Prop} {h h' : PH} (f : FrQ P h h') (hP : ∀ b j, Su3 b j → ¬ P b j) (s : S3 h) : S3 h' := by
  have e : ∀ b j, Su3 b j → gI h' b j = gI h b j := fun b j z => f.1 b j (hP b j z)
  have t1 : gI h' pMo_asked = gI h pMo_asked := funext fun j => e 122 j (Or.inr (Or.inr (Or.inl rfl)))
  have t2 : gI h' (pAsk + 1) = gI h (pAsk + 1) := funext fun j => e 43 j (Or.inr (Or.inl rfl))
  unfold S3 akW AK WR LL at s ⊢
  rw [t1, t2, e pMo 0 (by decide), e pMo 16 (by decide), e pAsk 1 (by decide)]
  exact s
theorem S4_fr {P : Nat → Int → Prop} {h h' : PH} (f : FrQ P h h') (hP : ∀ b j, Su4 b j → ¬ P b j) (s : S4 h) : S4 h' := by
  have e : ∀ b j, Su4 b j → gI h' b j = gI h b j := fun b j z => f.1 b j (hP b j z)
  unfold S4 at s ⊢
  rw [e pRe 9 (by decide), e pRe 10 (by decide), e pHo 17 (by decide), e pMo 1 (by decide), e pMo 2 (by decide), e pMo 3 (by decide)]
  exact s
theorem TS_up {k k' L : Int} {a : AT} (hk : k ≤ k') (s : TS k L a) : TS k' L a := ⟨s.1, by have := s.2.1; omega, by obtain ⟨Q, a1, a2, a3⟩ := s.2.2; exact ⟨Q, a1, by omega, a3⟩⟩
theorem S5_fr {P : Nat → Int → Prop} {h h' : PH} {k k' : Int} (hk : k ≤ k') (f : FrQ P h h') (hP : ∀ b j, Su5 b j → ¬ P b j) (s : S5 k h) : S5 k' h' := by
  have e : ∀ b j, Su5 b j → gI h' b j = gI h b j := fun b j z => f.1 b j (hP b j z)
  have e1 : ∀ b, 87 ≤ b → b ≤ 93 → gI h' b = gI h b := fun b z1 z2 => funext fun j => e b j (Or.inl ⟨z1, z2⟩)
  have t1 : gI h' pMo_cells = gI h pMo_cells := funext fun j => e 128 j (by unfold Su5; simp)
  have t2 : gI h' pMo_isLeft = gI h pMo_isLeft := funext fun j => e 131 j (by unfold Su5; simp)
  have t3 : gI h' pMo_isDone = gI h pMo_isDone := funext fun j => e 132 j (by unfold Su5; simp)
  have t4 : gI h' pMo_state = gI h pMo_state := funext fun j => e 135 j (by unfold Su5; simp)
  have ea : atM h' = atM h := by unfold atM; rw [t1, t2, t3, t4, e pMo 39 (by decide)]
  obtain ⟨s1, s2, s3, s4, s5, s6⟩ := s
  refine ⟨BB_of t2 t3 s1, by rw [e pMo 39 (by decide), t4]; exact s2, by rw [e1 pTa_done (by decide) (by decide)]; exact s3, by rw [e1 pTa (by decide) (by decide)]; exact s4, by rw [e pHo 10 (by decide), e pMo 32 (by decide)]; exact s5, fun z => ?_⟩
  rw [e pMo 32 (by decide)] at z
  obtain ⟨x1, x2⟩ := s6 z
  unfold LL at x1 x2 ⊢
  rw [ea, e pMo 0 (by decide)]
  refine ⟨?_, TS_up hk x2⟩
  unfold TaR at x1 ⊢
  rw [e1 pTa (by decide) (by decide), e1 pTa_cells (by decide) (by decide), e1 pTa_numbers (by decide) (by decide), e1 pTa_done (by decide) (by decide), e1 pTa_order (by decide) (by decide), e1 pTa_spare (by decide) (by decide), e1 pTa_parents (by decide) (by decide)]
  exact x1
theorem S6_fr {P : Nat → Int → Prop} {h h' : PH} {k k' : Int} (hk : k ≤ k') (f : FrQ P h h') (hP : ∀ b j, Su6 b j → ¬ P b j) (s : S6 k h) : S6 k' h' := by
  have e : ∀ b j, Su6 b j → gI h' b j = gI h b j := fun b j z => f.1 b j (hP b j z)
  have e1 : ∀ b, 154 ≤ b → b ≤ 160 → gI h' b = gI h b := fun b z1 z2 => funext fun j => e b j (Or.inl ⟨z1, z2⟩)
  have t1 : gI h' pMo_keptCells = gI h pMo_keptCells := funext fun j => e 129 j (by unfold Su6; simp)
  have t2 : gI h' pMo_keptLeft = gI h pMo_keptLeft := funext fun j => e 133 j (by unfold Su6; simp)
  have t3 : gI h' pMo_keptDone = gI h pMo_keptDone := funext fun j => e 134 j (by unfold Su6; simp)
  have t4 : gI h' pMo_keptState = gI h pMo_keptState := funext fun j => e 136 j (by unfold Su6; simp)
  have ea : akM h' = akM h := by unfold akM; rw [t1, t2, t3, t4]
  have r : gR h' pHo 11 = gR h pHo 11 := f.2.1 _ _ (by unfold Dyn; simp (decide := true))
  obtain ⟨s1, s2, s3, s4⟩ := s
  refine ⟨by unfold KB at s1 ⊢; rw [t2, t3]; exact s1, by rw [e pHo 12 (by decide), e pMo 33 (by decide)]; exact s2, fun z => ?_, by rw [r, f.2.2.1]; exact s4⟩
  rw [e pMo 33 (by decide)] at z
  obtain ⟨x0, x1, x2, x3⟩ := s3 z
  unfold LL at x2 x3 ⊢
  rw [ea, e pMo 0 (by decide), r, e1 pKt_done (by decide) (by decide)]
  refine ⟨x0, x1, ?_, TS_up hk x3⟩
  unfold TaK at x2 ⊢
  rw [e1 pKt (by decide) (by decide), e1 pKt_cells (by decide) (by decide), e1 pKt_numbers (by decide) (by decide), e1 pKt_done (by decide) (by decide), e1 pKt_order (by decide) (by decide), e1 pKt_spare (by decide) (by decide), e1 pKt_parents (by decide) (by decide)]
  exact x2
theorem S7_fr {P : Nat → Int → Prop} {h h' : PH} (f : FrQ P h h') (hP : ∀ b j, Su7 b j → ¬ P b j) (s : S7 h) : S7 h' := by
  have e : ∀ b j, Su7 b j → gI h' b j = gI h b j := fun b j z => f.1 b j (hP b j z)
  have t1 : gI h' pHo_told = gI h pHo_told := funext fun j => e 104 j (by unfold Su7; simp)
  have t2 : gI h' pMo_out = gI h pMo_out := funext fun j => e 141 j (by unfold Su7; simp)
  unfold S7 at s ⊢
  rw [t1, t2, e pHo 14 (by decide), e pMo 46 (by decide)]
  exact s
theorem S8_fr {P : Nat → Int → Prop} {h h' : PH} (f : FrQ P h h') (hP : ∀ b j, Su8 b j → ¬ P b j) (s : S8 h) : S8 h' := by
  have e : ∀ b j, Su8 b j → gI h' b j = gI h b j := fun b j z => f.1 b j (hP b j z)
  have t1 : gI h' pLo_kept = gI h pLo_kept := funext fun j => e 107 j (by unfold Su8; simp)
  have t2 : gI h' pLo_keptRows = gI h pLo_keptRows := funext fun j => e 108 j (by unfold Su8; simp)
  have t3 : gI h' pMo_lows = gI h pMo_lows := funext fun j => e 146 j (by unfold Su8; simp)
  have t4 : gI h' pMo_lowSize = gI h pMo_lowSize := funext fun j => e 147 j (by unfold Su8; simp)
  unfold S8 FdC FdM at s ⊢
  rw [t1, t2, t3, t4, e pLo 8 (by decide), e pLo 9 (by decide), e pLo 10 (by decide), e pLo 11 (by decide), e pLo 12 (by decide), e pMo 53 (by decide), e pMo 56 (by decide), e pMo 57 (by decide), e pMo 58 (by decide), e pMo 59 (by decide), e pMo 60 (by decide)]
  exact s
theorem S9_fr {P : Nat → Int → Prop} {h h' : PH} (f : FrQ P h h') (hP : ∀ b j, Su9 b j → ¬ P b j) (s : S9 h) : S9 h' := by
  have e : ∀ b j, Su9 b j → gI h' b j = gI h b j := fun b j z => f.1 b j (hP b j z)
  have t1 : gI h' pSh_cells = gI h pSh_cells := funext fun j => e 112 j (by unfold Su9; simp)
  have t2 : gI h' pMo_sheet = gI h pMo_sheet := funext fun j => e 152 j (by unfold Su9; simp)
  unfold S9 at s ⊢
  rw [t1, t2, e pSh 3 (by decide), e pMo 66 (by decide)]
  exact s
