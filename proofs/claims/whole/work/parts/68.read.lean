/-! READING a text as a WORD: a machine with a pile of brackets -/
abbrev RS : Type := Nat × (Nat → Int) × (Nat → Int) × (Nat → Int) × (Nat → List Int) × Int
def rl (s : RS) : Nat := s.1
def rop (s : RS) : Nat → Int := s.2.1
def roa (s : RS) : Nat → Int := s.2.2.1
def rbg (s : RS) : Nat → Int := s.2.2.2.1
def rpl (s : RS) : Nat → List Int := s.2.2.2.2.1
def rat (s : RS) : Int := s.2.2.2.2.2
def upN {α : Type} (f : Nat → α) (i : Nat) (v : α) : Nat → α := fun j => if j = i then v else f j
theorem upN_eq {α : Type} {f : Nat → α} {i : Nat} {v : α} : upN f i v i = v := if_pos rfl
theorem upN_ne {α : Type} {f : Nat → α} {i j : Nat} {v : α} (h : j ≠ i) : upN f i v j = f j := if_neg h
abbrev isLt (m c : Int) : Prop := (97 ≤ c ∧ c < 97 + m) ∨ (65 ≤ c ∧ c < 65 + m)
def colC (c : Int) : Int := if 97 ≤ c then 2 * (c - 97) else 2 * (c - 65) + 1
def exC (o : Int) : Int := if o = 0 then -1 else if o = 1 then 41 else if o = 2 then 44 else 93
/-- the word that a bracket closes -/
def clW (s : RS) : List Int := if rop s (rl s) = 1 then rpl s (2 * rl s) else cmW (rpl s (2 * rl s + 1)) (rpl s (2 * rl s))
def rs1 (s : RS) (a : Int) : RS := (rl s, rop s, roa s, upN (rbg s) (rl s) 2, rpl s, a + 1)
def rs2 (s : RS) (F : Int × Int × List Int × Int) : RS := (rl s, rop s, roa s, upN (rbg s) (rl s) 1, upN (rpl s) (2 * rl s) F.2.2.1, F.2.2.2)
def rs3 (s : RS) (c a : Int) : RS := (rl s + 1, upN (rop s) (rl s + 1) (if c = 40 then 1 else 2), upN (roa s) (rl s + 1) a, upN (upN (rbg s) (rl s) 1) (rl s + 1) 0, upN (rpl s) (2 * (rl s + 1)) [], a + 1)
def rs6 (s : RS) (a : Int) : RS := (rl s, upN (rop s) (rl s) 3, roa s, upN (rbg s) (rl s) 0, upN (upN (rpl s) (2 * rl s + 1) (rpl s (2 * rl s))) (2 * rl s) [], a + 1)
def rs7 (s : RS) (F : Int × Int × List Int × Int) : RS := (rl s - 1, rop s, roa s, rbg s, upN (rpl s) (2 * (rl s - 1)) F.2.2.1, F.2.2.2)
def faR (ch : Int → Int) (sz : Int) (s : RS) (F : Int × Int × List Int × Int) (g : RS) : Int × Int × RS := if F.1 ≠ 0 then (F.1, F.2.1, s) else (0, 0, g)
/-- one step: 0 goes on, -1 has ended, else a fault with its place -/
def rsA (ch : Int → Int) (sz m : Int) (s : RS) (a : Int) : Int × Int × RS :=
  if rbg s (rl s) = 0 ∧ ch a = 49 then (0, 0, rs1 s a)
  else if rbg s (rl s) < 2 ∧ isLt m (ch a) then faR ch sz s (faF ch sz (a + 1) [colC (ch a)] (rpl s (2 * rl s)) a) (rs2 s (faF ch sz (a + 1) [colC (ch a)] (rpl s (2 * rl s)) a))
  else if rbg s (rl s) < 2 ∧ (ch a = 40 ∨ ch a = 91) then (if rl s = 8 then (3, a, s) else (0, 0, rs3 s (ch a) a))
  else if rbg s (rl s) = 0 ∨ ch a ≠ exC (rop s (rl s)) then (1, a, s)
  else if rop s (rl s) = 0 then (-1, 0, s)
  else if rop s (rl s) = 2 then (0, 0, rs6 s a)
  else faR ch sz s (faF ch sz (a + 1) (clW s) (rpl s (2 * (rl s - 1))) (roa s (rl s))) (rs7 s (faF ch sz (a + 1) (clW s) (rpl s (2 * (rl s - 1))) (roa s (rl s))))
def rsS (ch : Int → Int) (sz m : Int) (s : RS) : Int × Int × RS := rsA ch sz m s (skA ch sz (rat s))
def rsR (ch : Int → Int) (sz m : Int) : Nat → RS → Int × Int × RS
  | 0, s => (1, 0, s)
  | f + 1, s => if (rsS ch sz m s).1 = 0 then rsR ch sz m f (rsS ch sz m s).2.2 else rsS ch sz m s
def rs0 (a : Int) : RS := (0, fun _ => 0, fun _ => 0, fun _ => 0, fun _ => [], a)
/-- what the machine keeps to -/
def okW (m : Int) (w : List Int) : Prop := w.length ≤ 40 ∧ ∀ c, c ∈ w → 0 ≤ c ∧ c < 2 * m
def rsI (sz m : Int) (s : RS) : Prop := rl s ≤ 8 ∧ rop s 0 = 0 ∧ (∀ i, 1 ≤ i → i ≤ rl s → rop s i = 1 ∨ rop s i = 2 ∨ rop s i = 3) ∧ (∀ i, i ≤ rl s → rbg s i = 0 ∨ rbg s i = 1 ∨ rbg s i = 2) ∧ (∀ i, i ≤ rl s → okW m (rpl s (2 * i))) ∧ (∀ i, i ≤ rl s → rop s i = 3 → okW m (rpl s (2 * i + 1))) ∧ (∀ i, 1 ≤ i → i ≤ rl s → 0 ≤ roa s i ∧ roa s i ≤ 400) ∧ 0 ≤ rat s ∧ rat s ≤ sz
theorem col_ok {m c : Int} (h1 : 1 ≤ m) (h2 : m ≤ 5) (h : isLt m c) : 0 ≤ colC c ∧ colC c < 2 * m := by
  unfold colC
  split <;> omega
theorem prF_at {ch : Int → Int} {sz a : Int} {u : List Int} (ha : a ≤ sz) (hc : ∀ j, sz ≤ j → ch j = -1) (h : (prF ch sz a u).1 = 0) : a ≤ (prF ch sz a u).2.2.2.2 ∧ (prF ch sz a u).2.2.2.2 ≤ sz := by
  have lt : ∀ j, ch j ≠ -1 → j < sz := fun j z => by
    apply Classical.byContradiction
    intro y
    exact z (hc j (by omega))
  have k1 := skA_le (ch := ch) ha
  unfold prF at h ⊢
  by_cases q : ch (skA ch sz a) = 94
  · rw [if_pos q] at h ⊢
    have l1 := lt (skA ch sz a) (by omega)
    have k2 := skA_le (ch := ch) (sz := sz) (at' := skA ch sz a + 1) (by omega)
    by_cases q2 : ch (skA ch sz (skA ch sz a + 1)) = 45
    · rw [if_pos q2] at h ⊢
      have l2 := lt (skA ch sz (skA ch sz a + 1)) (by omega)
      have k3 := skA_le (ch := ch) (sz := sz) (at' := skA ch sz (skA ch sz a + 1) + 1) (by omega)
      have k4 := dgE_le (ch := ch) (sz := sz) (at' := skA ch sz (skA ch sz (skA ch sz a + 1) + 1)) (by omega)
      split at h
      · exact absurd (show (1 : Int) = 0 from h) (by decide)
      · rename_i n1
        split at h
        · exact absurd (show (4 : Int) = 0 from h) (by decide)
        · rename_i n2
          rw [if_neg n1, if_neg n2]
          show a ≤ dgE ch sz _ ∧ dgE ch sz _ ≤ sz
          omega
    · rw [if_neg q2] at h ⊢
      have k4 := dgE_le (ch := ch) (sz := sz) (at' := skA ch sz (skA ch sz a + 1)) (by omega)
      split at h
      · exact absurd (show (1 : Int) = 0 from h) (by decide)
      · rename_i n1
        split at h
        · exact absurd (show (4 : Int) = 0 from h) (by decide)
        · rename_i n2
          rw [if_neg n1, if_neg n2]
          show a ≤ dgE ch sz _ ∧ dgE ch sz _ ≤ sz
          omega
  · rw [if_neg q]
    exact k1
theorem prF_in {P : Int → Prop} {ch : Int → Int} {sz a : Int} {u : List Int} (hu : ∀ c, c ∈ u → P c) (ht : ∀ c, c ∈ trn u → P c) : ∀ c, c ∈ (prF ch sz a u).2.2.1 → P c := by
  unfold prF
  intro c hc
  split at hc
  · split at hc
    · split at hc
      · simp at hc
      · split at hc
        · simp at hc
        · exact ht c hc
    · split at hc
      · simp at hc
      · split at hc
        · simp at hc
        · exact hu c hc
  · exact hu c hc
theorem faF_ok {ch : Int → Int} {sz a pl m : Int} {u s : List Int} (ha : a ≤ sz) (hc : ∀ j, sz ≤ j → ch j = -1) (hu : ∀ c, c ∈ u → 0 ≤ c ∧ c < 2 * m) (hs : okW m s) (h : (faF ch sz a u s pl).1 = 0) : okW m (faF ch sz a u s pl).2.2.1 ∧ a ≤ (faF ch sz a u s pl).2.2.2 ∧ (faF ch sz a u s pl).2.2.2 ≤ sz := by
  unfold faF at h ⊢
  split at h
  · rename_i q; exact absurd h q
  · rename_i q
    split at h
    · exact absurd (show (2 : Int) = 0 from h) (by decide)
    · rename_i q1
      split at h
      · exact absurd (show (2 : Int) = 0 from h) (by decide)
      · rename_i q2
        rw [if_neg q, if_neg q1, if_neg q2]
        have hr : (prF ch sz a u).1 = 0 := Classical.byContradiction q
        refine ⟨⟨by show (jnW s _).length ≤ 40; omega, jnW_in hs.2 (pwW_in (prF_in hu (trn_in (L := 2 * m) (by omega) hu)))⟩, prF_at ha hc hr⟩
