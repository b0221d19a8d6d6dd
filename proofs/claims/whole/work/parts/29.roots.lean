/-! NAMES: forests in an array; the root of a row, and what a join does to it -/
def forest (f : Int → Int) (N : Int) : Prop := ∀ x, 0 ≤ x → x < N → 0 ≤ f x ∧ f x ≤ x
theorem itF_fix {f : Int → Int} {m : Int} (h : f m = m) (k : Nat) : itF f k m = m := by
  induction k with
  | zero => rfl
  | succ k ih => show f (itF f k m) = m; rw [ih, h]
theorem itF_add {f : Int → Int} (j k : Nat) (x : Int) : itF f (j + k) x = itF f j (itF f k x) := by
  induction j with
  | zero => rw [Nat.zero_add]; rfl
  | succ j ih => rw [show j + 1 + k = (j + k) + 1 by omega]; show f (itF f (j + k) x) = f (itF f j (itF f k x)); rw [ih]
theorem rt_uniq {f : Int → Int} {x m m' : Int} (h : rt f x m) (h' : rt f x m') : m = m' := by
  obtain ⟨a, k, b⟩ := h
  obtain ⟨a', k', b'⟩ := h'
  rcases Nat.le_total k k' with hk | hk
  · have := itF_add (f := f) (k' - k) k x
    rw [b, itF_fix a, show k' - k + k = k' by omega, b'] at this
    exact this.symm
  · have := itF_add (f := f) (k - k') k' x
    rw [b', itF_fix a', show k - k' + k' = k by omega, b] at this
    exact this
theorem rt_next {f : Int → Int} {x m : Int} (h : rt f (f x) m) : rt f x m := by
  obtain ⟨a, k, b⟩ := h
  refine ⟨a, k + 1, ?_⟩
  rw [itF_add k 1 x]
  exact b
theorem rt_ex {f : Int → Int} {N : Int} (hf : forest f N) : ∀ (n : Nat) (x : Int), x.toNat < n → 0 ≤ x → x < N → ∃ m, rt f x m ∧ 0 ≤ m ∧ m ≤ x := by
  intro n
  induction n with
  | zero => intro x h; omega
  | succ n ih =>
    intro x hx h0 h1
    by_cases e : f x = x
    · exact ⟨x, ⟨e, 0, rfl⟩, h0, Int.le_refl x⟩
    · have g := hf x h0 h1
      obtain ⟨m, m1, m2, m3⟩ := ih (f x) (by omega) g.1 (by omega)
      exact ⟨m, rt_next m1, m2, by omega⟩
noncomputable def root (f : Int → Int) (x : Int) : Int := @dite Int (∃ m, rt f x m) (Classical.propDecidable _) (fun h => h.choose) (fun _ => x)
theorem root_rt {f : Int → Int} {x m : Int} (h : rt f x m) : root f x = m := by
  unfold root
  rw [dif_pos ⟨m, h⟩]
  exact rt_uniq (Exists.choose_spec (⟨m, h⟩ : ∃ m, rt f x m)) h
theorem root_spec {f : Int → Int} {N : Int} (hf : forest f N) {x : Int} (h0 : 0 ≤ x) (h1 : x < N) : rt f x (root f x) ∧ 0 ≤ root f x ∧ root f x ≤ x := by
  obtain ⟨m, m1, m2⟩ := rt_ex hf (x.toNat + 1) x (by omega) h0 h1
  rw [root_rt m1]
  exact ⟨m1, m2⟩
theorem root_fix {f : Int → Int} {x : Int} (h : f x = x) : root f x = x := root_rt ⟨h, 0, rfl⟩
theorem root_step {f : Int → Int} {N : Int} (hf : forest f N) {x : Int} (h0 : 0 ≤ x) (h1 : x < N) : root f (f x) = root f x := by
  have g := hf x h0 h1
  have h := (root_spec hf g.1 (by omega)).1
  exact (root_rt (rt_next h)).symm
theorem root_root {f : Int → Int} {N : Int} (hf : forest f N) {x : Int} (h0 : 0 ≤ x) (h1 : x < N) : root f (root f x) = root f x := root_fix (root_spec hf h0 h1).1.1
/-- y, a root, is put under x, a less one -/
theorem forest_up {f : Int → Int} {N x y : Int} (hf : forest f N) (hx : 0 ≤ x) (hxy : x < y) : forest (upI f y x) N := by
  intro z h0 h1
  unfold upI
  by_cases e : z = y
  · rw [if_pos e]; omega
  · rw [if_neg e]; exact hf z h0 h1
theorem root_up {f : Int → Int} {N x y : Int} (hf : forest f N) (hx : 0 ≤ x) (hxy : x < y) (hyN : y < N) (fx : f x = x) (fy : f y = y) : ∀ (n : Nat) (z : Int), z.toNat < n → 0 ≤ z → z < N → root (upI f y x) z = if root f z = y then x else root f z := by
  have hf' := forest_up hf hx hxy (y := y)
  have ux : upI f y x x = x := by unfold upI; rw [if_neg (by omega), fx]
  intro n
  induction n with
  | zero => intro z h; omega
  | succ n ih =>
    intro z hz h0 h1
    by_cases e : z = y
    · subst e
      rw [root_fix fy, if_pos rfl]
      have u : upI f z x z = x := if_pos rfl
      have := root_step hf' h0 h1
      rw [u] at this
      rw [← this]
      exact root_fix ux
    · have u : upI f y x z = f z := if_neg e
      by_cases g : f z = z
      · rw [root_fix (by rw [u]; exact g), root_fix g, if_neg e]
      · have b := hf z h0 h1
        have s1 := root_step hf' h0 h1
        rw [u] at s1
        have s2 := root_step hf h0 h1
        rw [← s1, ← s2]
        exact ih (f z) (by omega) b.1 (by omega)
