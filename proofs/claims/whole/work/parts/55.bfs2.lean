/-! ROWS as they are met: whence, by which column, how far -/
theorem allB_le {E : Int → Int → Int} {L : Nat} {f : Int} {k : Nat} : ∀ m, k ≤ m → ∃ p, (allB E L f m).1 = (allB E L f k).1 ++ p := by
  intro m
  induction m with
  | zero => intro z; rw [Nat.le_zero.mp z]; exact ⟨[], by simp⟩
  | succ m ih =>
    intro z
    by_cases e : k = m + 1
    · rw [e]; exact ⟨[], by simp⟩
    · obtain ⟨p, hp⟩ := ih (by omega)
      obtain ⟨p', hp'⟩ := allB_pre (E := E) (L := L) (f := f) (k := m)
      exact ⟨p ++ p', by rw [hp', hp, List.append_assoc]⟩
/-- what the maps keep to -/
def bsI (L : Nat) (f : Int) (st : BS) : Prop := f ∈ st.1 ∧ ixF st.1 f = 0 ∧ st.2.2.2 f = 0 ∧ (∀ s, s ∉ st.1 → st.2.1 s = -1) ∧ ∀ s, s ∈ st.1 → s ≠ f → st.2.1 s ∈ st.1 ∧ ixF st.1 (st.2.1 s) < ixF st.1 s ∧ 0 ≤ st.2.2.1 s ∧ st.2.2.1 s < (L : Int) ∧ st.2.2.2 s = st.2.2.2 (st.2.1 s) + 1
theorem bsI_col {E : Int → Int → Int} {L : Nat} {f r c : Int} {st : BS} (h : bsI L f st) (hr : r ∈ st.1) (c0 : 0 ≤ c) (c1 : c < (L : Int)) : bsI L f (colB E r c st) := by
  unfold colB
  split
  · exact h
  · rename_i q
    obtain ⟨h1, h2, h3, h4, h5⟩ := h
    have ne : ∀ s, s ∈ st.1 → s ≠ E r c := fun s hs z => q (by rw [← z]; exact hs)
    refine ⟨List.mem_append_left _ h1, ?_, ?_, fun s hs => ?_, fun s hs hsf => ?_⟩
    · show ixF (st.1 ++ [E r c]) f = 0
      rw [ixF_app h1]; exact h2
    · show upI st.2.2.2 (E r c) _ f = 0
      rw [upI_ne (ne f h1)]; exact h3
    · show upI st.2.1 (E r c) r s = -1
      have hs' : s ∉ st.1 ++ [E r c] := hs
      rw [upI_ne (fun z => hs' (by rw [z]; simp))]
      exact h4 s (fun z => hs' (List.mem_append_left _ z))
    · have hs' : s ∈ st.1 ++ [E r c] := hs
      show upI st.2.1 (E r c) r s ∈ st.1 ++ [E r c] ∧ ixF (st.1 ++ [E r c]) (upI st.2.1 (E r c) r s) < ixF (st.1 ++ [E r c]) s ∧ 0 ≤ upI st.2.2.1 (E r c) c s ∧ upI st.2.2.1 (E r c) c s < (L : Int) ∧ upI st.2.2.2 (E r c) (st.2.2.2 r + 1) s = upI st.2.2.2 (E r c) (st.2.2.2 r + 1) (upI st.2.1 (E r c) r s) + 1
      rcases List.mem_append.mp hs' with z | z
      · have hn := ne s z
        obtain ⟨g1, g2, g3, g4, g5⟩ := h5 s z hsf
        rw [upI_ne hn, upI_ne hn, upI_ne hn, upI_ne (ne _ g1), ixF_app g1, ixF_app z]
        exact ⟨List.mem_append_left _ g1, g2, g3, g4, g5⟩
      · have e := List.mem_singleton.mp z
        rw [e, upI_eq, upI_eq, upI_eq, upI_ne (ne r hr), ixF_app hr, ixF_new q]
        exact ⟨List.mem_append_left _ hr, ixF_lt hr, c0, c1, rfl⟩
theorem bsI_row {E : Int → Int → Int} {L : Nat} {f r : Int} : ∀ {n : Nat} {st : BS}, n ≤ L → bsI L f st → r ∈ st.1 → bsI L f (rowB E r n st)
  | 0, st, _, h, _ => h
  | n + 1, st, hn, h, hr => by
    refine bsI_col (bsI_row (by omega) h hr) ?_ (by omega) (by omega)
    obtain ⟨m, hm, -⟩ := rowB_pre (E := E) (r := r) (n := n) (st := st)
    rw [hm]
    exact List.mem_append_left _ hr
theorem bsI_all {E : Int → Int → Int} {L : Nat} {f : Int} : ∀ k, bsI L f (allB E L f k)
  | 0 => ⟨List.mem_singleton.mpr rfl, if_pos rfl, rfl, fun _ _ => rfl, fun s hs hsf => absurd (List.mem_singleton.mp hs) hsf⟩
  | k + 1 => by
    rw [allB_succ]
    split
    · rename_i q
      exact bsI_row (Nat.le_refl _) (bsI_all k) (wf_mem q)
    · exact bsI_all k
theorem bsI_far {L : Nat} {f : Int} {st : BS} (h : bsI L f st) : ∀ (n : Nat) (s : Int), s ∈ st.1 → ixF st.1 s ≤ n → 0 ≤ st.2.2.2 s ∧ st.2.2.2 s ≤ ixF st.1 s := by
  intro n
  induction n with
  | zero =>
    intro s hs hn
    by_cases e : s = f
    · rw [e, h.2.2.1]; omega
    · have := h.2.2.2.2 s hs e
      omega
  | succ n ih =>
    intro s hs hn
    by_cases e : s = f
    · rw [e, h.2.2.1]; omega
    · have g := h.2.2.2.2 s hs e
      have := ih _ g.1 (by omega)
      omega
/-- i steps towards the row where it began -/
def itB (fr : Int → Int) : Nat → Int → Int
  | 0, s => s
  | i + 1, s => fr (itB fr i s)
theorem itB_in {L : Nat} {f : Int} {st : BS} (h : bsI L f st) {s : Int} (hs : s ∈ st.1) : ∀ i : Nat, (i : Int) ≤ st.2.2.2 s → itB st.2.1 i s ∈ st.1 ∧ st.2.2.2 (itB st.2.1 i s) = st.2.2.2 s - i ∧ ((i : Int) < st.2.2.2 s → itB st.2.1 i s ≠ f) := by
  intro i
  induction i with
  | zero =>
    intro hi
    refine ⟨hs, by show st.2.2.2 s = _; omega, fun z e => ?_⟩
    have e' : s = f := e
    rw [e', h.2.2.1] at z
    omega
  | succ i ih =>
    intro hi
    obtain ⟨a1, a2, a3⟩ := ih (by omega)
    have g := h.2.2.2.2 _ a1 (a3 (by omega))
    refine ⟨g.1, ?_, fun z e => ?_⟩
    · show st.2.2.2 (st.2.1 (itB st.2.1 i s)) = _
      omega
    · have e' : st.2.1 (itB st.2.1 i s) = f := e
      have g5 := g.2.2.2.2
      rw [e', h.2.2.1] at g5
      omega
/-- the farthest row, the first of those -/
def fbF (v fa : Int → Int) : Nat → Int
  | 0 => 0
  | n + 1 => if v n ≠ 0 ∧ fa (fbF v fa n) < fa n then n else fbF v fa n
noncomputable def bsA (L : Int) (a : AT) : BS := bfA (aE a) L.toNat 0
theorem bsA_I {L : Int} {a : AT} : bsI L.toNat 0 (bsA L a) := bsI_all _
theorem bsA_ms {L : Int} {a : AT} : (bsA L a).1 = msA L a := rfl
