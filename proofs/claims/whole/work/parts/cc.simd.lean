/-! BOTH CLASSES: word, sub -/
abbrev Pwx (b : Nat) (j : Int) : Prop := ((b = 0 ∧ (j = 1 ∨ j = 17 ∨ j = 10 ∨ j = 12)) ∨ (2 ≤ b ∧ b ≤ 41) ∨ (44 ≤ b ∧ b ≤ 86) ∨ (b = 115 ∧ (j = 1 ∨ j = 2 ∨ j = 3 ∨ j = 4 ∨ j = 7 ∨ j = 8 ∨ j = 14 ∨ j = 15 ∨ j = 19 ∨ j = 32 ∨ j = 33)) ∨ (118 ≤ b ∧ b ≤ 121)) ∨ ¬ SuA b j
theorem SIM_word {P : Nat → Int → Prop} {k : Int} {h h2 : PH} (s : SIM k h) (f : FrQ P h h2) (hP : ∀ b j, P b j → Pwx b j) (x1 : S1 h2) (x2 : S2 h2) (x4 : S4 h2) (x5 : S5 (k + 1) h2) (x6 : S6 (k + 1) h2) : SIM (k + 1) h2 := by
  have f' : FrQ Pwx h h2 := FrQ_mono hP f
  exact SIM_fr s f' (Or.inr x1) (Or.inr x2) (Or.inl fun b j x y => y.elim (fun a => by clear y; simp only [Su3] at x; omega) (fun n => n (Or.inr (Or.inr (Or.inl x))))) (Or.inr x4) (Or.inr x5) (Or.inr x6) (Or.inl fun b j x y => y.elim (fun a => by clear y; simp only [Su7] at x; omega) (fun n => n (Or.inr (Or.inr (Or.inr (Or.inr (Or.inr (Or.inr (Or.inl x))))))))) (Or.inl fun b j x y => y.elim (fun a => by clear y; simp only [Su8] at x; omega) (fun n => n (Or.inr (Or.inr (Or.inr (Or.inr (Or.inr (Or.inr (Or.inr (Or.inl x)))))))))) (Or.inl fun b j x y => y.elim (fun a => by clear y; simp only [Su9] at x; omega) (fun n => n (Or.inr (Or.inr (Or.inr (Or.inr (Or.inr (Or.inr (Or.inr (Or.inr x))))))))))
abbrev Pry (b : Nat) (j : Int) : Prop := ((b = 0 ∧ (j = 1 ∨ j = 17)) ∨ (44 ≤ b ∧ b ≤ 86) ∨ (b = 115 ∧ (j = 1 ∨ j = 2 ∨ j = 3 ∨ j = 4 ∨ j = 7 ∨ j = 8 ∨ j = 19))) ∨ ¬ SuA b j
theorem SIM_wsame {P : Nat → Int → Prop} {k : Int} {h h2 : PH} (s : SIM k h) (f : FrQ P h h2) (hP : ∀ b j, P b j → Pry b j) (x1 : S1 h2) (x4 : S4 h2) : SIM (k + 1) h2 := by
  have f' : FrQ Pry h h2 := FrQ_mono hP f
  exact SIM_fr s f' (Or.inr x1) (Or.inl fun b j x y => y.elim (fun a => by clear y; simp only [Su2] at x; omega) (fun n => n (Or.inr (Or.inl x)))) (Or.inl fun b j x y => y.elim (fun a => by clear y; simp only [Su3] at x; omega) (fun n => n (Or.inr (Or.inr (Or.inl x))))) (Or.inr x4) (Or.inl fun b j x y => y.elim (fun a => by clear y; simp only [Su5] at x; omega) (fun n => n (Or.inr (Or.inr (Or.inr (Or.inr (Or.inl x))))))) (Or.inl fun b j x y => y.elim (fun a => by clear y; simp only [Su6] at x; omega) (fun n => n (Or.inr (Or.inr (Or.inr (Or.inr (Or.inr (Or.inl x)))))))) (Or.inl fun b j x y => y.elim (fun a => by clear y; simp only [Su7] at x; omega) (fun n => n (Or.inr (Or.inr (Or.inr (Or.inr (Or.inr (Or.inr (Or.inl x))))))))) (Or.inl fun b j x y => y.elim (fun a => by clear y; simp only [Su8] at x; omega) (fun n => n (Or.inr (Or.inr (Or.inr (Or.inr (Or.inr (Or.inr (Or.inr (Or.inl x)))))))))) (Or.inl fun b j x y => y.elim (fun a => by clear y; simp only [Su9] at x; omega) (fun n => n (Or.inr (Or.inr (Or.inr (Or.inr (Or.inr (Or.inr (Or.inr (Or.inr x))))))))))
/-- keepWord's frame, where it keeps nothing: all its places but the reading's stay -/
abbrev Prz (b : Nat) (j : Int) : Prop := Prt b j ∨ (b = pMo ∧ j = 4)
theorem kw_fr {h h' : PH} (f : FrP Pkw h h') (x : kwS h h') : FrP Prz h h' := by
  obtain ⟨x1, x2, x3, x4, x5, x6, x7, x8⟩ := x
  refine ⟨fun b j q => ?_, f.2⟩
  by_cases y : Pkw b j
  · rcases y with y | y | y | y | y | y
    · exact absurd (Or.inl y) q
    · rw [y]; exact congrFun x5 j
    · rw [y]; exact congrFun x6 j
    · rw [y]; exact congrFun x7 j
    · rw [y]; exact congrFun x8 j
    · obtain ⟨rfl, y | y | y | y | y⟩ := y
      · exact absurd (Or.inr ⟨rfl, y⟩) q
      · rw [y]; exact x1
      · rw [y]; exact x2
      · rw [y]; exact x3
      · rw [y]; exact x4
  · exact f.1 b j y
theorem wdsM_app {g s g' s' : Int → Int} {n : Nat} {w : List Int} (es : ∀ i : Nat, i < n → s' i = s i) (esn : s' n = w.length) (h4 : ∀ i : Nat, i < n → s i ≤ 40) (eg : ∀ j : Int, j < 40 * (n : Int) → g' j = g j) (ew : ∀ i : Nat, i < w.length → g' (40 * (n : Int) + i) = wf w i) : wdsM g' s' ((n : Int) + 1) = wdsM g s n ++ [w] := by
  unfold wdsM
  rw [show ((n : Int) + 1).toNat = n + 1 by omega, show ((n : Int)).toNat = n by omega, List.range_succ, List.map_append]
  congr 1
  · refine List.map_congr_left (fun i hi => ?_)
    have hi' : i < n := List.mem_range.mp hi
    rw [es i hi']
    have sg : ∀ (m : Nat) (f : Int), (∀ k : Nat, k < m → g' (f + k) = g (f + k)) → seg g' f m = seg g f m := by
      intro m
      induction m with
      | zero => intro f _; rfl
      | succ m ih =>
        intro f hf
        show g' f :: seg g' (f + 1) m = g f :: seg g (f + 1) m
        have a := hf 0 (by omega)
        rw [show f + ((0 : Nat) : Int) = f by omega] at a
        rw [a, ih (f + 1) (fun k hk => by have := hf (k + 1) (by omega); rw [show f + 1 + (k : Int) = f + ((k + 1 : Nat) : Int) by omega]; exact this)]
    refine sg _ _ (fun k hk => eg _ ?_)
    have := h4 i hi'
    omega
  · show [seg g' (40 * (n : Int)) (s' n).toNat] = [w]
    rw [esn, show ((w.length : Int)).toNat = w.length by omega]
    congr 1
    have sg : ∀ (m : Nat) (f : Int) (G : Int → Int), seg g' f m = seg (fun j => g' (f + j)) 0 m := by
      have h2 : ∀ (m : Nat) (f a : Int), seg g' (f + a) m = seg (fun j => g' (f + j)) a m := by
        intro m
        induction m with
        | zero => intro f a; rfl
        | succ m ih =>
          intro f a
          show g' (f + a) :: seg g' (f + a + 1) m = g' (f + a) :: seg (fun j => g' (f + j)) (a + 1) m
          rw [show f + a + 1 = f + (a + 1) by omega, ih]
      intro m f _
      have := h2 m f 0
      rw [show f + 0 = f by omega] at this
      exact this
    rw [sg _ _ g']
    exact seg_eq ew
