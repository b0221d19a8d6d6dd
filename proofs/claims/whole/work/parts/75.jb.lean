/-! JOINING where there is room for n letters -/
noncomputable def jbW (n : Int) : List Int → List Int → List Int × Int
  | w, [] => (w, 1)
  | w, c :: t => if ((jn w c).length : Int) ≤ n then jbW n (jn w c) t else (w, 0)
/-- no letter beside itself turned -/
def rdI (u : List Int) : Prop := ∀ i : Nat, i + 1 < u.length → wf u ((i : Int) + 1) ≠ oc (wf u i)
theorem jbW_01 {n : Int} : ∀ {u w : List Int}, (jbW n w u).2 = 0 ∨ (jbW n w u).2 = 1
  | [], _ => Or.inr rfl
  | c :: t, w => by
    show (if ((jn w c).length : Int) ≤ n then jbW n (jn w c) t else (w, 0)).2 = 0 ∨ _
    split
    · rename_i q
      have := jbW_01 (n := n) (u := t) (w := jn w c)
      rw [show jbW n w (c :: t) = jbW n (jn w c) t from if_pos q]
      exact this
    · exact Or.inl rfl
theorem jbW_1 {n : Int} : ∀ {u w : List Int}, (jbW n w u).2 = 1 → (jbW n w u).1 = jnW w u
  | [], _, _ => rfl
  | c :: t, w, h => by
    by_cases q : ((jn w c).length : Int) ≤ n
    · have e : jbW n w (c :: t) = jbW n (jn w c) t := if_pos q
      rw [e] at h ⊢
      exact jbW_1 h
    · have e : jbW n w (c :: t) = (w, 0) := if_neg q
      rw [e] at h
      exact absurd (show (0 : Int) = 1 from h) (by decide)
theorem jbW_le {n : Int} : ∀ {u w : List Int}, (w.length : Int) ≤ n → ((jbW n w u).1.length : Int) ≤ n
  | [], _, h => h
  | c :: t, w, h => by
    by_cases q : ((jn w c).length : Int) ≤ n
    · rw [show jbW n w (c :: t) = jbW n (jn w c) t from if_pos q]
      exact jbW_le q
    · rw [show jbW n w (c :: t) = (w, 0) from if_neg q]
      exact h
theorem jbW_in {n : Int} {P : Int → Prop} : ∀ {u w : List Int}, (∀ x, x ∈ w → P x) → (∀ x, x ∈ u → P x) → ∀ x, x ∈ (jbW n w u).1 → P x
  | [], _, h, _ => h
  | c :: t, w, h, hu => by
    by_cases q : ((jn w c).length : Int) ≤ n
    · rw [show jbW n w (c :: t) = jbW n (jn w c) t from if_pos q]
      exact jbW_in (jn_in h (hu c (List.mem_cons_self ..))) (fun x hx => hu x (List.mem_cons_of_mem _ hx))
    · rw [show jbW n w (c :: t) = (w, 0) from if_neg q]
      exact h
theorem rdI_tail {c : Int} {t : List Int} (h : rdI (c :: t)) : rdI t := by
  intro i hi
  have := h (i + 1) (by simp; omega)
  rw [show ((i + 1 : Nat) : Int) + 1 = ((i + 1 : Nat) : Int) + 1 from rfl, wf_succ, show ((i + 1 : Nat) : Int) = (i : Int) + 1 by omega, wf_succ] at this
  exact this
/-- behind a letter that stands for good, a word without turns is put as it is -/
theorem jn_put {w : List Int} {a c : Int} (h : a ≠ oc c) : jn (w ++ [a]) c = w ++ [a] ++ [c] := by
  refine if_neg (fun z => h ?_)
  have e : ((w ++ [a]).length : Int) - 1 = w.length := by simp
  rw [e, wf_last] at z
  exact z.2
theorem jnW_put : ∀ {u w : List Int} {a : Int}, rdI (a :: u) → (∀ x, x ∈ a :: u → 0 ≤ x) → jnW (w ++ [a]) u = w ++ [a] ++ u
  | [], w, a, _, _ => by simp [jnW]
  | c :: t, w, a, h, hp => by
    have h0 := h 0 (by simp)
    have e1 : wf (a :: c :: t) (((0 : Nat) : Int) + 1) = c := rfl
    have e2 : wf (a :: c :: t) ((0 : Nat) : Int) = a := rfl
    rw [e1, e2] at h0
    have ha := hp a (by simp)
    have hc := hp c (by simp)
    have hne : a ≠ oc c := fun z => h0 (by rw [z, oc_oc hc])
    show jnW (jn (w ++ [a]) c) t = _
    rw [jn_put hne, jnW_put (rdI_tail h) (fun x hx => hp x (List.mem_cons_of_mem _ hx))]
    simp
theorem jbW_put {n : Int} : ∀ {u w : List Int} {a : Int}, rdI (a :: u) → (∀ x, x ∈ a :: u → 0 ≤ x) → ((w.length : Int) + 1 + u.length ≤ n → (jbW n (w ++ [a]) u).2 = 1) ∧ (¬ (w.length : Int) + 1 + u.length ≤ n → (w.length : Int) + 1 ≤ n → (jbW n (w ++ [a]) u).2 = 0)
  | [], w, a, _, _ => ⟨fun _ => rfl, fun h1 h2 => by simp at h1; omega⟩
  | c :: t, w, a, h, hp => by
    have h0 := h 0 (by simp)
    have e1 : wf (a :: c :: t) (((0 : Nat) : Int) + 1) = c := rfl
    have e2 : wf (a :: c :: t) ((0 : Nat) : Int) = a := rfl
    rw [e1, e2] at h0
    have hc := hp c (by simp)
    have hne : a ≠ oc c := fun z => h0 (by rw [z, oc_oc hc])
    have ih := jbW_put (n := n) (u := t) (w := w ++ [a]) (a := c) (rdI_tail h) (fun x hx => hp x (List.mem_cons_of_mem _ hx))
    have el : ((jn (w ++ [a]) c).length : Int) = w.length + 2 := by rw [jn_put hne]; simp
    have ew : (((w ++ [a]).length : Nat) : Int) = w.length + 1 := by simp
    have ec : (((c :: t).length : Nat) : Int) = t.length + 1 := by simp
    rw [ew] at ih
    rw [ec]
    by_cases q : ((jn (w ++ [a]) c).length : Int) ≤ n
    · have e : jbW n (w ++ [a]) (c :: t) = jbW n (jn (w ++ [a]) c) t := if_pos q
      rw [e, jn_put hne]
      exact ⟨fun z => ih.1 (by omega), fun z y => ih.2 (by omega) (by omega)⟩
    · have e : jbW n (w ++ [a]) (c :: t) = (w ++ [a], 0) := if_neg q
      rw [e]
      exact ⟨fun z => by omega, fun _ _ => rfl⟩
/-- for a word without turns there is room just where what comes out has room -/
theorem jbW_rd {n : Int} : ∀ {u w : List Int}, rdI u → (∀ x, x ∈ u → 0 ≤ x) → (w.length : Int) ≤ n → (((jnW w u).length : Int) ≤ n → jbW n w u = (jnW w u, 1)) ∧ (¬ ((jnW w u).length : Int) ≤ n → (jbW n w u).2 = 0)
  | [], w, _, _, h => ⟨fun _ => rfl, fun z => absurd h z⟩
  | c :: t, w, hr, hp, h => by
    have key : ∀ x : List Int × Int, x = jbW n w (c :: t) → ((((jnW w (c :: t)).length : Int) ≤ n → x.2 = 1) ∧ (¬ ((jnW w (c :: t)).length : Int) ≤ n → x.2 = 0)) → (((jnW w (c :: t)).length : Int) ≤ n → jbW n w (c :: t) = (jnW w (c :: t), 1)) ∧ (¬ ((jnW w (c :: t)).length : Int) ≤ n → (jbW n w (c :: t)).2 = 0) := by
      rintro x rfl k
      refine ⟨fun z => ?_, k.2⟩
      have := k.1 z
      exact Prod.ext (jbW_1 this) this
    refine key _ rfl ?_
    by_cases z : 0 < w.length ∧ wf w ((w.length : Int) - 1) = oc c
    · have e : jn w c = w.take (w.length - 1) := if_pos z
      have el : ((jn w c).length : Int) ≤ n := by rw [e, List.length_take]; omega
      have ih := jbW_rd (n := n) (u := t) (w := jn w c) (rdI_tail hr) (fun x hx => hp x (List.mem_cons_of_mem _ hx)) el
      rw [show jbW n w (c :: t) = jbW n (jn w c) t from if_pos el]
      exact ⟨fun y => by rw [ih.1 y], ih.2⟩
    · have e : jn w c = w ++ [c] := if_neg z
      have e2 : jnW w (c :: t) = w ++ [c] ++ t := by show jnW (jn w c) t = _; rw [e, jnW_put hr hp]
      have e3 : ((jnW w (c :: t)).length : Int) = w.length + 1 + t.length := by rw [e2]; simp; omega
      have el : ((jn w c).length : Int) = w.length + 1 := by rw [e]; simp
      have k := jbW_put (n := n) (u := t) (w := w) hr hp
      rw [e3]
      by_cases q : ((jn w c).length : Int) ≤ n
      · rw [show jbW n w (c :: t) = jbW n (jn w c) t from if_pos q, e]
        exact ⟨k.1, fun y => k.2 y (by omega)⟩
      · rw [show jbW n w (c :: t) = (w, 0) from if_neg q]
        exact ⟨fun y => by omega, fun _ => rfl⟩
theorem jnW_nil {u : List Int} (h : rdI u) (hp : ∀ x, x ∈ u → 0 ≤ x) : jnW [] u = u := by
  cases u with
  | nil => rfl
  | cons c t =>
    have e : jn [] c = [c] := if_neg (fun z => by simp at z)
    show jnW (jn [] c) t = _
    rw [e]
    exact jnW_put (w := []) h hp
theorem rdI_nil : rdI [] := fun i hi => by simp at hi
theorem rdI_one {c : Int} : rdI [c] := fun i hi => by simp at hi
theorem rdI_take {w : List Int} {n : Nat} (h : rdI w) : rdI (w.take n) := by
  intro i hi
  have hl : (w.take n).length = min n w.length := List.length_take
  have e1 : wf (w.take n) ((i : Int) + 1) = wf w ((i : Int) + 1) := by
    have := wf_take (w := w) (k := i + 1) (n := n) (by omega)
    rw [show ((i + 1 : Nat) : Int) = (i : Int) + 1 by omega] at this
    exact this
  rw [e1, wf_take (by omega)]
  exact h i (by omega)
theorem rdI_jn {w : List Int} {c : Int} (h : rdI w) (hp : ∀ x, x ∈ w → 0 ≤ x) (hc : 0 ≤ c) : rdI (jn w c) := by
  by_cases z : 0 < w.length ∧ wf w ((w.length : Int) - 1) = oc c
  · rw [show jn w c = w.take (w.length - 1) from if_pos z]
    exact rdI_take h
  · rw [show jn w c = w ++ [c] from if_neg z]
    intro i hi
    have hl : (w ++ [c]).length = w.length + 1 := by simp
    have e0 : wf (w ++ [c]) i = wf w i := wf_app (by omega)
    by_cases e : i + 1 = w.length
    · have e1 : (i : Int) + 1 = w.length := by omega
      rw [e1, wf_last, e0]
      intro y
      refine z ⟨by omega, ?_⟩
      rw [show (w.length : Int) - 1 = i by omega, y, oc_oc (hp _ (wf_mem (by omega)))]
    · have e1 : wf (w ++ [c]) ((i : Int) + 1) = wf w ((i : Int) + 1) := by
        have := wf_app (l := w) (m := [c]) (i := i + 1) (by omega)
        rw [show ((i + 1 : Nat) : Int) = (i : Int) + 1 by omega] at this
        exact this
      rw [e1, e0]
      exact h i (by omega)
theorem rdI_jnW : ∀ {u w : List Int}, rdI w → (∀ x, x ∈ w → 0 ≤ x) → (∀ x, x ∈ u → 0 ≤ x) → rdI (jnW w u)
  | [], _, h, _, _ => h
  | c :: t, w, h, hp, hu => rdI_jnW (u := t) (rdI_jn h hp (hu c (by simp))) (jn_in hp (hu c (by simp))) (fun x hx => hu x (List.mem_cons_of_mem _ hx))
theorem oc_nn {c : Int} (h : 0 ≤ c) : 0 ≤ oc c := by unfold oc; split <;> omega
theorem rdI_trn {w : List Int} (h : rdI w) (hp : ∀ x, x ∈ w → 0 ≤ x) : rdI (trn w) := by
  intro i hi
  rw [trn_len] at hi
  have e0 := wf_trn (w := w) (k := i) (by omega)
  have e1 := wf_trn (w := w) (k := i + 1) (by omega)
  rw [show ((i + 1 : Nat) : Int) = (i : Int) + 1 by omega] at e1
  rw [e0, e1]
  intro z
  obtain ⟨j, hj⟩ : ∃ j : Nat, (j : Int) = (w.length : Int) - 1 - (i + 1) := ⟨w.length - 1 - (i + 1), by omega⟩
  have hj1 : (w.length : Int) - 1 - i = j + 1 := by omega
  rw [← hj, hj1] at z
  have h1 := h j (by omega)
  have p1 := hp _ (wf_mem (u := w) (i := j) (by omega))
  have p2 := hp _ (wf_mem (u := w) (i := j + 1) (by omega))
  rw [show ((j + 1 : Nat) : Int) = (j : Int) + 1 by omega] at p2
  rw [oc_oc p2] at z
  exact h1 z.symm
