/-! READING a text as a WORD: a machine with a pile of brackets -/
abbrev RS : Type := Nat × (Nat → Int) × (Nat → Int) × (Nat → Int) × (Nat → List Int) × Int
def rl (s : RS) : Nat := s.1
def rop (s : RS) : Nat → Int := s.2.1
def roa (s : RS) : Nat → Int := s.2.2.1
def rbg (s : RS) : Nat → Int := s.2.2.2.1
def rpl (s : RS) : Nat → List Int := s.2.2.2.2.1
def rat (s : RS) : Int := s.2.2.2.2.2
def upN {α : Type} (f : Nat → α) (i : Nat) (v : α) : Nat → α := fun j => if j = i then v else f j
theorem upN_eq {α : Type} {f : Nat → α} {i : Nat} {v : α} : upN f i v i = v := if_pos rfl
theorem upN_ne {α : Type} {f : Nat → α} {i j : Nat} {v : α} (h : j ≠ i) : upN f i v j = f j := if_neg h
abbrev isLt (m c : Int) : Prop := (97 ≤ c ∧ c < 97 + m) ∨ (65 ≤ c ∧ c < 65 + m)
def colC (c : Int) : Int := if 97 ≤ c then 2 * (c - 97) else 2 * (c - 65) + 1
def exC (o : Int) : Int := if o = 0 then -1 else if o = 1 then 41 else if o = 2 then 44 else 93
/-- the word that a bracket closes -/
def clW (s : RS) : List Int := if rop s (rl s) = 1 then rpl s (2 * rl s) else cmW (rpl s (2 * rl s + 1)) (rpl s (2 * rl s))
def rs1 (s : RS) (a : Int) : RS := (rl s, rop s, roa s, upN (rbg s) (rl s) 2, rpl s, a + 1)
def rs2 (s : RS) (F : Int × Int × List Int × Int) : RS := (rl s, rop s, roa s, upN (rbg s) (rl s) 1, upN (rpl s) (2 * rl s) F.2.2.1, F.2.2.2)
def rs3 (s : RS) (c a : Int) : RS := (rl s + 1, upN (rop s) (rl s + 1) (if c = 40 then 1 else 2), upN (roa s) (rl s + 1) a, upN (upN (rbg s) (rl s) 1) (rl s + 1) 0, upN (rpl s) (2 * (rl s + 1)) [], a + 1)
def rs6 (s : RS) (a : Int) : RS := (rl s, upN (rop s) (rl s) 3, roa s, upN (rbg s) (rl s) 0, upN (upN (rpl s) (2 * rl s + 1) (rpl s (2 * rl s))) (2 * rl s) [], a + 1)
def rs7 (s : RS) (F : Int × Int × List Int × Int) : RS := (rl s - 1, rop s, roa s, rbg s, upN (rpl s) (2 * (rl s - 1)) F.2.2.1, F.2.2.2)
def faR (ch : Int → Int) (sz : Int) (s : RS) (F : Int × Int × List Int × Int) (g : RS) : Int × Int × RS := if F.1 ≠ 0 then (F.1, F.2.1, s) else (0, 0, g)
/-- one step: 0 goes on, -1 has ended, else a fault with its place -/
def rsA (ch : Int → Int) (sz m : Int) (s : RS) (a : Int) : Int × Int × RS :=
  if rbg s (rl s) = 0 ∧ ch a = 49 then (0, 0, rs1 s a)
  else if rbg s (rl s) < 2 ∧ isLt m (ch a) then faR ch sz s (faF ch sz (a + 1) [colC (ch a)] (rpl s (2 * rl s)) a) (rs2 s (faF ch sz (a + 1) [colC (ch a)] (rpl s (2 * rl s)) a))
  else if rbg s (rl s) < 2 ∧ (ch a = 40 ∨ ch a = 91) then (if rl s = 8 then (3, a, s) else (0, 0, rs3 s (ch a) a))
  else if rbg s (rl s) = 0 ∨ ch a ≠ exC (rop s (rl s)) then (1, a, s)
  else if rop s (rl s) = 0 then (-1, 0, s)
  else if rop s (rl s) = 2 then (0, 0, rs6 s a)
  else faR ch sz s (faF ch sz (a + 1) (clW s) (rpl s (2 * (rl s - 1))) (roa s (rl s))) (rs7 s (faF ch sz (a + 1) (clW s) (rpl s (2 * (rl s - 1))) (roa s (rl s))))
def rsS (ch : Int → Int) (sz m : Int) (s : RS) : Int × Int × RS := rsA ch sz m s (skA ch sz (rat s))
def rsR (ch : Int → Int) (sz m : Int) : Nat → RS → Int × Int × RS
  | 0, s => (1, 0, s)
  | f + 1, s => if (rsS ch sz m s).1 = 0 then rsR ch sz m f (rsS ch sz m s).2.2 else rsS ch sz m s
def rs0 (a : Int) : RS := (0, fun _ => 0, fun _ => 0, fun _ => 0, fun _ => [], a)
/-- what the machine keeps to -/
def okW (m : Int) (w : List Int) : Prop := w.length ≤ 40 ∧ ∀ c, c ∈ w → 0 ≤ c ∧ c < 2 * m
def rsI (sz m : Int) (s : RS) : Prop := rl s ≤ 8 ∧ rop s 0 = 0 ∧ (∀ i, 1 ≤ i → i ≤ rl s → rop s i = 1 ∨ rop s i = 2 ∨ rop s i = 3) ∧ (∀ i, i ≤ rl s → rbg s i = 0 ∨ rbg s i = 1 ∨ rbg s i = 2) ∧ (∀ i, i ≤ rl s → okW m (rpl s (2 * i))) ∧ (∀ i, i ≤ rl s → rop s i = 3 → okW m (rpl s (2 * i + 1))) ∧ (∀ i, 1 ≤ i → i ≤ rl s → 0 ≤ roa s i ∧ roa s i ≤ 400) ∧ 0 ≤ rat s ∧ rat s ≤ sz
theorem col_ok {m c : Int} (h1 : 1 ≤ m) (h2 : m ≤ 5) (h : isLt m c) : 0 ≤ colC c ∧ colC c < 2 * m := by
  unfold colC
  split <;> omega
theorem prF_at {ch : Int → Int} {sz a : Int} {u : List Int} (ha : a ≤ sz) (hc : ∀ j, sz ≤ j → ch j = -1) (h : (prF ch sz a u).1 = 0) : a ≤ (prF ch sz a u).2.2.2.2 ∧ (prF ch sz a u).2.2.2.2 ≤ sz := by
  have lt : ∀ j, ch j ≠ -1 → j < sz := fun j z => by
    apply Classical.byContradiction
    intro y
    exact z (hc j (by omega))
  have k1 := skA_le (ch := ch) ha
  unfold prF at h ⊢
  by_cases q : ch (skA ch sz a) = 94
  · rw [if_pos q] at h ⊢
    have l1 := lt (skA ch sz a) (by omega)
    have k2 := skA_le (ch := ch) (sz := sz) (at' := skA ch sz a + 1) (by omega)
    by_cases q2 : ch (skA ch sz (skA ch sz a + 1)) = 45
    · rw [if_pos q2] at h ⊢
      have l2 := lt (skA ch sz (skA ch sz a + 1)) (by omega)
      have k3 := skA_le (ch := ch) (sz := sz) (at' := skA ch sz (skA ch sz a + 1) + 1) (by omega)
      have k4 := dgE_le (ch := ch) (sz := sz) (at' := skA ch sz (skA ch sz (skA ch sz a + 1) + 1)) (by omega)
      split at h
      · exact absurd (show (1 : Int) = 0 from h) (by decide)
      · rename_i n1
        split at h
        · exact absurd (show (4 : Int) = 0 from h) (by decide)
        · rename_i n2
          rw [if_neg n1, if_neg n2]
          show a ≤ dgE ch sz _ ∧ dgE ch sz _ ≤ sz
          omega
    · rw [if_neg q2] at h ⊢
      have k4 := dgE_le (ch := ch) (sz := sz) (at' := skA ch sz (skA ch sz a + 1)) (by omega)
      split at h
      · exact absurd (show (1 : Int) = 0 from h) (by decide)
      · rename_i n1
        split at h
        · exact absurd (show (4 : Int) = 0 from h) (by decide)
        · rename_i n2
          rw [if_neg n1, if_neg n2]
          show a ≤ dgE ch sz _ ∧ dgE ch sz _ ≤ sz
          omega
  · rw [if_neg q]
    exact k1
theorem prF_in {P : Int → Prop} {ch : Int → Int} {sz a : Int} {u : List Int} (hu : ∀ c, c ∈ u → P c) (ht : ∀ c, c ∈ trn u → P c) : ∀ c, c ∈ (prF ch sz a u).2.2.1 → P c := by
  unfold prF
  intro c hc
  split at hc
  · split at hc
    · split at hc
      · simp at hc
      · split at hc
        · simp at hc
        · exact ht c hc
    · split at hc
      · simp at hc
      · split at hc
        · simp at hc
        · exact hu c hc
  · exact hu c hc
theorem faF_ok {ch : Int → Int} {sz a pl m : Int} {u s : List Int} (ha : a ≤ sz) (hc : ∀ j, sz ≤ j → ch j = -1) (hu : ∀ c, c ∈ u → 0 ≤ c ∧ c < 2 * m) (hs : okW m s) (h : (faF ch sz a u s pl).1 = 0) : okW m (faF ch sz a u s pl).2.2.1 ∧ a ≤ (faF ch sz a u s pl).2.2.2 ∧ (faF ch sz a u s pl).2.2.2 ≤ sz := by
  unfold faF at h ⊢
  split at h
  · rename_i q; exact absurd h q
  · rename_i q
    split at h
    · exact absurd (show (2 : Int) = 0 from h) (by decide)
    · rename_i q1
      split at h
      · exact absurd (show (2 : Int) = 0 from h) (by decide)
      · rename_i q2
        rw [if_neg q, if_neg q1, if_neg q2]
        have hr : (prF ch sz a u).1 = 0 := Classical.byContradiction q
        refine ⟨⟨by show (jnW s _).length ≤ 40; omega, jnW_in hs.2 (pwW_in (prF_in hu (trn_in (L := 2 * m) (by omega) hu)))⟩, prF_at ha hc hr⟩
theorem cmW_in {m : Int} {x y : List Int} (hx : ∀ c, c ∈ x → 0 ≤ c ∧ c < 2 * m) (hy : ∀ c, c ∈ y → 0 ≤ c ∧ c < 2 * m) : ∀ c, c ∈ cmW x y → 0 ≤ c ∧ c < 2 * m :=
  jnW_in (jnW_in (jnW_in (trn_in (L := 2 * m) (by omega) hx) (trn_in (L := 2 * m) (by omega) hy)) hx) hy
theorem cmW_len {x y : List Int} : (cmW x y).length ≤ 2 * x.length + 2 * y.length := by
  unfold cmW
  have h1 := jnW_len (u := y) (w := jnW (jnW (trn x) (trn y)) x)
  have h2 := jnW_len (u := x) (w := jnW (trn x) (trn y))
  have h3 := jnW_len (u := trn y) (w := trn x)
  rw [trn_len, trn_len] at h3
  omega
theorem clW_ok {sz m : Int} {s : RS} (h : rsI sz m s) (h1 : 1 ≤ rl s) (h2 : rop s (rl s) ≠ 2) : (clW s).length ≤ 160 ∧ ∀ c, c ∈ clW s → 0 ≤ c ∧ c < 2 * m := by
  obtain ⟨a1, a2, a3, a4, a5, a6, a7, a8, a9⟩ := h
  have b := a5 (rl s) (Nat.le_refl _)
  unfold clW
  split
  · exact ⟨by have := b.1; omega, b.2⟩
  · rename_i q
    have o3 : rop s (rl s) = 3 := by rcases a3 (rl s) h1 (Nat.le_refl _) with z | z | z
                                     · exact absurd z q
                                     · exact absurd z h2
                                     · exact z
    have c := a6 (rl s) (Nat.le_refl _) o3
    have l := cmW_len (x := rpl s (2 * rl s + 1)) (y := rpl s (2 * rl s))
    exact ⟨by have := b.1; have := c.1; omega, cmW_in c.2 b.2⟩
theorem okW_nil {m : Int} : okW m [] := ⟨Nat.zero_le _, fun c hc => by simp at hc⟩
theorem rsS_ok {ch : Int → Int} {sz m : Int} {s : RS} (hc : ∀ j, sz ≤ j → ch j = -1) (m1 : 1 ≤ m) (m5 : m ≤ 5) (hsz : sz ≤ 400) (h : rsI sz m s) (h0 : (rsS ch sz m s).1 = 0) : rsI sz m (rsS ch sz m s).2.2 ∧ rat s < rat (rsS ch sz m s).2.2 := by
  obtain ⟨a1, a2, a3, a4, a5, a6, a7, a8, a9⟩ := id h
  have k := skA_le (ch := ch) a9
  unfold rsS at h0 ⊢
  obtain ⟨a, ha⟩ : ∃ a, a = skA ch sz (rat s) := ⟨_, rfl⟩
  rw [← ha] at h0 k ⊢
  have lt : ∀ j, ch j ≠ -1 → j < sz := fun j z => by
    apply Classical.byContradiction
    intro y
    exact z (hc j (by omega))
  unfold rsA at h0 ⊢
  split
  · rename_i q
    have := lt a (by omega)
    refine ⟨⟨a1, a2, a3, fun i hi => ?_, a5, a6, a7, ?_, ?_⟩, ?_⟩
    · show upN (rbg s) (rl s) 2 i = 0 ∨ upN (rbg s) (rl s) 2 i = 1 ∨ upN (rbg s) (rl s) 2 i = 2
      by_cases e : i = rl s
      · rw [e, upN_eq]; omega
      · rw [upN_ne e]; exact a4 i hi
    · show 0 ≤ a + 1; omega
    · show a + 1 ≤ sz; omega
    · show rat s < a + 1; omega
  · rename_i q1
    rw [if_neg q1] at h0
    split
    · rename_i q
      rw [if_pos q] at h0
      have := lt a (by omega)
      unfold faR at h0 ⊢
      split at h0
      · rename_i z; exact absurd h0 z
      · rename_i z
        rw [if_neg z]
        have z0 : (faF ch sz (a + 1) [colC (ch a)] (rpl s (2 * rl s)) a).1 = 0 := Classical.byContradiction z
        have fo := faF_ok (m := m) (by omega) hc (fun c hc => by rw [List.mem_singleton.mp hc]; exact col_ok m1 m5 q.2) (a5 (rl s) (Nat.le_refl _)) z0
        refine ⟨⟨a1, a2, a3, fun i hi => ?_, fun i hi => ?_, fun i hi ho => ?_, a7, ?_, ?_⟩, ?_⟩
        · show upN (rbg s) (rl s) 1 i = 0 ∨ upN (rbg s) (rl s) 1 i = 1 ∨ upN (rbg s) (rl s) 1 i = 2
          by_cases e : i = rl s
          · rw [e, upN_eq]; omega
          · rw [upN_ne e]; exact a4 i hi
        · show okW m (upN (rpl s) (2 * rl s) _ (2 * i))
          by_cases e : i = rl s
          · rw [e, upN_eq]; exact fo.1
          · rw [upN_ne (by omega)]; exact a5 i hi
        · show okW m (upN (rpl s) (2 * rl s) _ (2 * i + 1))
          rw [upN_ne (by omega)]; exact a6 i hi ho
        · show 0 ≤ (faF ch sz (a + 1) [colC (ch a)] (rpl s (2 * rl s)) a).2.2.2; omega
        · exact fo.2.2
        · show rat s < (faF ch sz (a + 1) [colC (ch a)] (rpl s (2 * rl s)) a).2.2.2; omega
    · rename_i q2
      rw [if_neg q2] at h0
      split
      · rename_i q
        rw [if_pos q] at h0
        have := lt a (by omega)
        split at h0
        · exact absurd (show (3 : Int) = 0 from h0) (by decide)
        · rename_i z
          rw [if_neg z]
          refine ⟨⟨?_, ?_, fun i hi1 hi => ?_, fun i hi => ?_, fun i hi => ?_, fun i hi ho => ?_, fun i hi1 hi => ?_, ?_, ?_⟩, ?_⟩
          · show rl s + 1 ≤ 8; omega
          · show upN (rop s) (rl s + 1) (if ch a = 40 then 1 else 2) 0 = 0
            rw [upN_ne (by omega)]; exact a2
          · show upN (rop s) (rl s + 1) (if ch a = 40 then 1 else 2) i = 1 ∨ upN (rop s) (rl s + 1) (if ch a = 40 then 1 else 2) i = 2 ∨ upN (rop s) (rl s + 1) (if ch a = 40 then 1 else 2) i = 3
            have hi' : i ≤ rl s + 1 := hi
            by_cases e : i = rl s + 1
            · rw [e, upN_eq]; split <;> omega
            · rw [upN_ne e]; exact a3 i hi1 (by omega)
          · show upN (upN (rbg s) (rl s) 1) (rl s + 1) 0 i = 0 ∨ upN (upN (rbg s) (rl s) 1) (rl s + 1) 0 i = 1 ∨ upN (upN (rbg s) (rl s) 1) (rl s + 1) 0 i = 2
            have hi' : i ≤ rl s + 1 := hi
            by_cases e : i = rl s + 1
            · rw [e, upN_eq]; omega
            · rw [upN_ne e]
              by_cases e2 : i = rl s
              · rw [e2, upN_eq]; omega
              · rw [upN_ne e2]; exact a4 i (by omega)
          · show okW m (upN (rpl s) (2 * (rl s + 1)) [] (2 * i))
            have hi' : i ≤ rl s + 1 := hi
            by_cases e : i = rl s + 1
            · rw [e, upN_eq]; exact okW_nil
            · rw [upN_ne (by omega)]; exact a5 i (by omega)
          · show okW m (upN (rpl s) (2 * (rl s + 1)) [] (2 * i + 1))
            have hi' : i ≤ rl s + 1 := hi
            have ho' : upN (rop s) (rl s + 1) (if ch a = 40 then 1 else 2) i = 3 := ho
            by_cases e : i = rl s + 1
            · rw [e, upN_eq] at ho'
              split at ho' <;> omega
            · rw [upN_ne e] at ho'
              rw [upN_ne (by omega)]; exact a6 i (by omega) ho'
          · show 0 ≤ upN (roa s) (rl s + 1) a i ∧ upN (roa s) (rl s + 1) a i ≤ 400
            have hi' : i ≤ rl s + 1 := hi
            by_cases e : i = rl s + 1
            · rw [e, upN_eq]; omega
            · rw [upN_ne e]; exact a7 i hi1 (by omega)
          · show 0 ≤ a + 1; omega
          · show a + 1 ≤ sz; omega
          · show rat s < a + 1; omega
      · rename_i q3
        rw [if_neg q3] at h0
        split
        · rename_i q
          rw [if_pos q] at h0
          exact absurd (show (1 : Int) = 0 from h0) (by decide)
        · rename_i q4
          rw [if_neg q4] at h0
          have ce : ch a = exC (rop s (rl s)) := Classical.byContradiction (fun z => q4 (Or.inr z))
          split
          · rename_i q
            rw [if_pos q] at h0
            exact absurd (show (-1 : Int) = 0 from h0) (by decide)
          · rename_i q5
            rw [if_neg q5] at h0
            have l1 : 1 ≤ rl s := by
              apply Classical.byContradiction
              intro z
              have : rl s = 0 := by omega
              rw [this] at q5
              exact q5 a2
            have := lt a (by
              rw [ce]
              unfold exC
              rw [if_neg q5]
              split
              · decide
              · split <;> decide)
            split
            · rename_i q
              refine ⟨⟨a1, ?_, fun i hi1 hi => ?_, fun i hi => ?_, fun i hi => ?_, fun i hi ho => ?_, a7, ?_, ?_⟩, ?_⟩
              · show upN (rop s) (rl s) 3 0 = 0
                rw [upN_ne (by omega)]; exact a2
              · show upN (rop s) (rl s) 3 i = 1 ∨ upN (rop s) (rl s) 3 i = 2 ∨ upN (rop s) (rl s) 3 i = 3
                by_cases e : i = rl s
                · rw [e, upN_eq]; omega
                · rw [upN_ne e]; exact a3 i hi1 hi
              · show upN (rbg s) (rl s) 0 i = 0 ∨ upN (rbg s) (rl s) 0 i = 1 ∨ upN (rbg s) (rl s) 0 i = 2
                by_cases e : i = rl s
                · rw [e, upN_eq]; omega
                · rw [upN_ne e]; exact a4 i hi
              · show okW m (upN (upN (rpl s) (2 * rl s + 1) (rpl s (2 * rl s))) (2 * rl s) [] (2 * i))
                by_cases e : i = rl s
                · rw [e, upN_eq]; exact okW_nil
                · rw [upN_ne (by omega), upN_ne (by omega)]; exact a5 i hi
              · show okW m (upN (upN (rpl s) (2 * rl s + 1) (rpl s (2 * rl s))) (2 * rl s) [] (2 * i + 1))
                rw [upN_ne (by omega)]
                by_cases e : i = rl s
                · rw [e, upN_eq]; exact a5 _ (Nat.le_refl _)
                · have ho' : upN (rop s) (rl s) 3 i = 3 := ho
                  rw [upN_ne e] at ho'
                  rw [upN_ne (by omega)]; exact a6 i hi ho'
              · show 0 ≤ a + 1; omega
              · show a + 1 ≤ sz; omega
              · show rat s < a + 1; omega
            · rename_i q6
              rw [if_neg q6] at h0
              unfold faR at h0 ⊢
              split at h0
              · rename_i z; exact absurd h0 z
              · rename_i z
                rw [if_neg z]
                have z0 : (faF ch sz (a + 1) (clW s) (rpl s (2 * (rl s - 1))) (roa s (rl s))).1 = 0 := Classical.byContradiction z
                have fo := faF_ok (m := m) (by omega) hc (clW_ok h l1 q6).2 (a5 (rl s - 1) (by omega)) z0
                refine ⟨⟨?_, a2, fun i hi1 hi => ?_, fun i hi => ?_, fun i hi => ?_, fun i hi ho => ?_, fun i hi1 hi => ?_, ?_, ?_⟩, ?_⟩
                · show rl s - 1 ≤ 8; omega
                · have hi' : i ≤ rl s - 1 := hi
                  exact a3 i hi1 (by omega)
                · have hi' : i ≤ rl s - 1 := hi
                  exact a4 i (by omega)
                · have hi' : i ≤ rl s - 1 := hi
                  show okW m (upN (rpl s) (2 * (rl s - 1)) _ (2 * i))
                  by_cases e : i = rl s - 1
                  · rw [e, upN_eq]; exact fo.1
                  · rw [upN_ne (by omega)]; exact a5 i (by omega)
                · have hi' : i ≤ rl s - 1 := hi
                  show okW m (upN (rpl s) (2 * (rl s - 1)) _ (2 * i + 1))
                  rw [upN_ne (by omega)]; exact a6 i (by omega) ho
                · have hi' : i ≤ rl s - 1 := hi
                  exact a7 i hi1 (by omega)
                · show 0 ≤ (faF ch sz (a + 1) (clW s) (rpl s (2 * (rl s - 1))) (roa s (rl s))).2.2.2; omega
                · exact fo.2.2
                · show rat s < (faF ch sz (a + 1) (clW s) (rpl s (2 * (rl s - 1))) (roa s (rl s))).2.2.2; omega
