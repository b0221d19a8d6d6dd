/-! ROWS as they are met from one row on: by rows, then by columns -/
abbrev BS : Type := List Int × (Int → Int) × (Int → Int) × (Int → Int)
/-- place of s in a list -/
def ixF : List Int → Int → Nat
  | [], _ => 0
  | a :: t, s => if a = s then 0 else ixF t s + 1
theorem ixF_lt : ∀ {l : List Int} {s : Int}, s ∈ l → ixF l s < l.length
  | [], s, h => by simp at h
  | a :: t, s, h => by
    show (if a = s then 0 else ixF t s + 1) < t.length + 1
    split
    · omega
    · rename_i q
      have := ixF_lt (l := t) (s := s) ((List.mem_cons.mp h).resolve_left (fun z => q z.symm))
      omega
theorem ixF_at : ∀ {l : List Int} {s : Int}, s ∈ l → wf l (ixF l s) = s
  | [], s, h => by simp at h
  | a :: t, s, h => by
    by_cases q : a = s
    · have e : ixF (a :: t) s = 0 := if_pos q
      rw [e]; exact q
    · have e : ixF (a :: t) s = ixF t s + 1 := if_neg q
      rw [e, show ((ixF t s + 1 : Nat) : Int) = (ixF t s : Int) + 1 by omega, wf_succ]
      exact ixF_at ((List.mem_cons.mp h).resolve_left (fun z => q z.symm))
theorem ixF_wf : ∀ {l : List Int} {i : Nat}, l.Nodup → i < l.length → ixF l (wf l i) = i
  | [], i, _, h => by simp at h
  | a :: t, 0, _, _ => if_pos rfl
  | a :: t, i + 1, hn, h => by
    have hn' := List.nodup_cons.mp hn
    have hi : i < t.length := by simpa using h
    rw [show ((i + 1 : Nat) : Int) = (i : Int) + 1 by omega, wf_succ]
    have hm := wf_mem (u := t) hi
    have e : ixF (a :: t) (wf t i) = ixF t (wf t i) + 1 := if_neg (fun z => hn'.1 (by rw [z]; exact hm))
    rw [e, ixF_wf hn'.2 hi]
theorem ixF_app : ∀ {l m : List Int} {s : Int}, s ∈ l → ixF (l ++ m) s = ixF l s
  | [], m, s, h => by simp at h
  | a :: t, m, s, h => by
    show (if a = s then 0 else ixF (t ++ m) s + 1) = if a = s then 0 else ixF t s + 1
    split
    · rfl
    · rename_i q
      rw [ixF_app ((List.mem_cons.mp h).resolve_left (fun z => q z.symm))]
theorem ixF_new : ∀ {l : List Int} {s : Int}, s ∉ l → ixF (l ++ [s]) s = l.length
  | [], s, _ => if_pos rfl
  | a :: t, s, h => by
    have h1 : a ≠ s := fun z => h (by rw [z]; exact List.mem_cons_self ..)
    have h2 : s ∉ t := fun z => h (List.mem_cons_of_mem _ z)
    show (if a = s then 0 else ixF (t ++ [s]) s + 1) = t.length + 1
    rw [if_neg h1, ixF_new h2]
theorem wf_app {l m : List Int} {i : Nat} (h : i < l.length) : wf (l ++ m) i = wf l i := by
  unfold wf
  rw [show ((i : Int)).toNat = i by omega, List.getD_eq_getElem?_getD, List.getD_eq_getElem?_getD, List.getElem?_append_left h]
theorem wf_last {l : List Int} {s : Int} : wf (l ++ [s]) l.length = s := by
  unfold wf
  rw [show ((l.length : Int)).toNat = l.length by omega, List.getD_eq_getElem?_getD, List.getElem?_append_right (Nat.le_refl _)]
  simp
def colB (E : Int → Int → Int) (r c : Int) (st : BS) : BS := if E r c ∈ st.1 then st else (st.1 ++ [E r c], upI st.2.1 (E r c) r, upI st.2.2.1 (E r c) c, upI st.2.2.2 (E r c) (st.2.2.2 r + 1))
def rowB (E : Int → Int → Int) (r : Int) : Nat → BS → BS
  | 0, st => st
  | n + 1, st => colB E r n (rowB E r n st)
def allB (E : Int → Int → Int) (L : Nat) (f : Int) : Nat → BS
  | 0 => ([f], fun _ => -1, fun _ => 0, fun _ => 0)
  | k + 1 => if k < (allB E L f k).1.length then rowB E (wf (allB E L f k).1 k) L (allB E L f k) else allB E L f k
theorem allB_succ {E : Int → Int → Int} {L : Nat} {f : Int} {k : Nat} : allB E L f (k + 1) = if k < (allB E L f k).1.length then rowB E (wf (allB E L f k).1 k) L (allB E L f k) else allB E L f k := rfl
theorem colB_pre {E : Int → Int → Int} {r c : Int} {st : BS} : ∃ m, (colB E r c st).1 = st.1 ++ m ∧ (st.1.Nodup → (colB E r c st).1.Nodup) ∧ E r c ∈ (colB E r c st).1 := by
  unfold colB
  split
  · rename_i q; exact ⟨[], by simp, id, q⟩
  · rename_i q
    refine ⟨[E r c], rfl, fun hn => ?_, by simp⟩
    rw [List.nodup_append]
    refine ⟨hn, by simp, fun a ha b hb => ?_⟩
    rw [List.mem_singleton.mp hb]
    rintro rfl
    exact q ha
theorem rowB_pre {E : Int → Int → Int} {r : Int} : ∀ {n : Nat} {st : BS}, ∃ m, (rowB E r n st).1 = st.1 ++ m ∧ (st.1.Nodup → (rowB E r n st).1.Nodup) ∧ ∀ c : Nat, c < n → E r c ∈ (rowB E r n st).1
  | 0, st => ⟨[], by simp [rowB], id, fun c hc => by omega⟩
  | n + 1, st => by
    obtain ⟨m, h1, h2, h3⟩ := rowB_pre (E := E) (r := r) (n := n) (st := st)
    obtain ⟨m', g1, g2, g3⟩ := colB_pre (E := E) (r := r) (c := n) (st := rowB E r n st)
    refine ⟨m ++ m', ?_, fun h => g2 (h2 h), fun c hc => ?_⟩
    · show (colB E r n (rowB E r n st)).1 = _
      rw [g1, h1, List.append_assoc]
    · show E r c ∈ (colB E r n (rowB E r n st)).1
      by_cases e : c = n
      · rw [e]; exact g3
      · rw [g1]
        exact List.mem_append_left _ (h3 c (by omega))
theorem allB_pre {E : Int → Int → Int} {L : Nat} {f : Int} {k : Nat} : ∃ m, (allB E L f (k + 1)).1 = (allB E L f k).1 ++ m := by
  rw [allB_succ]
  split
  · obtain ⟨m, h, -⟩ := rowB_pre (E := E) (r := wf (allB E L f k).1 k) (n := L) (st := allB E L f k)
    exact ⟨m, h⟩
  · exact ⟨[], by simp⟩
theorem allB_nodup {E : Int → Int → Int} {L : Nat} {f : Int} : ∀ {k : Nat}, (allB E L f k).1.Nodup
  | 0 => by simp [allB]
  | k + 1 => by
    rw [allB_succ]
    split
    · obtain ⟨m, -, h, -⟩ := rowB_pre (E := E) (r := wf (allB E L f k).1 k) (n := L) (st := allB E L f k)
      exact h allB_nodup
    · exact allB_nodup
theorem colB_in {P : Int → Prop} {E : Int → Int → Int} {r c : Int} {st : BS} (hE : P (E r c)) (h : ∀ x, x ∈ st.1 → P x) : ∀ x, x ∈ (colB E r c st).1 → P x := by
  unfold colB
  split
  · exact h
  · intro x hx
    rcases List.mem_append.mp hx with q | q
    · exact h x q
    · rw [List.mem_singleton.mp q]; exact hE
theorem rowB_in {P : Int → Prop} {E : Int → Int → Int} {r : Int} : ∀ {n : Nat} {st : BS}, (∀ c : Nat, c < n → P (E r c)) → (∀ x, x ∈ st.1 → P x) → ∀ x, x ∈ (rowB E r n st).1 → P x
  | 0, st, _, h => h
  | n + 1, st, hE, h => colB_in (hE n (by omega)) (rowB_in (fun c hc => hE c (by omega)) h)
theorem allB_in {P : Int → Prop} {E : Int → Int → Int} {L : Nat} {f : Int} (hf : P f) (hE : ∀ r, P r → ∀ c : Nat, c < L → P (E r c)) : ∀ {k : Nat}, ∀ x, x ∈ (allB E L f k).1 → P x
  | 0, x, hx => by rw [List.mem_singleton.mp hx]; exact hf
  | k + 1, x, hx => by
    rw [allB_succ] at hx
    split at hx
    · rename_i q
      exact rowB_in (hE _ (allB_in hf hE _ (wf_mem q))) (allB_in hf hE) x hx
    · exact allB_in hf hE x hx
theorem allB_end {E : Int → Int → Int} {L : Nat} {f : Int} {k : Nat} (h : (allB E L f k).1.length ≤ k) : ∀ m, k ≤ m → allB E L f m = allB E L f k := by
  intro m
  induction m with
  | zero => intro hm; rw [Nat.le_zero.mp hm]
  | succ m ih =>
    intro hm
    by_cases e : k = m + 1
    · rw [e]
    · have := ih (by omega)
      show (if m < (allB E L f m).1.length then rowB E (wf (allB E L f m).1 m) L (allB E L f m) else allB E L f m) = _
      rw [this, if_neg (by omega)]
theorem nodup_len : ∀ {n : Nat} {l : List Int} {f : Int → Int}, l.Nodup → (∀ x, x ∈ l → 0 ≤ x ∧ x < (n : Int) ∧ f x ≠ 0) → l.length ≤ cnN f n
  | 0, l, f, _, h => by
    cases l with
    | nil => exact Nat.le_refl _
    | cons a t => have := h a (List.mem_cons_self ..); omega
  | n + 1, l, f, hn, h => by
    by_cases q : (n : Int) ∈ l
    · have h1 := nodup_len (n := n) (l := l.erase n) (f := f) (hn.erase _) (fun x hx => by
        have hx' := (List.Nodup.mem_erase_iff hn).mp hx
        have := h x hx'.2
        exact ⟨this.1, by have := hx'.1; omega, this.2.2⟩)
      rw [List.length_erase_of_mem q] at h1
      rw [cnN_succ (h _ q).2.2]
      omega
    · have h1 := nodup_len (n := n) (l := l) (f := f) hn (fun x hx => by
        have := h x hx
        exact ⟨this.1, by have : x ≠ (n : Int) := fun z => q (by rw [← z]; exact hx)
                          omega, this.2.2⟩)
      have := cnN_le (f := f) (m := n) (n := n + 1) (by omega)
      omega
/-- all that is met -/
theorem exB : ∃ n : Nat, n = 2000 := ⟨2000, rfl⟩
/-- 2000, told so that nobody counts it out -/
noncomputable def bB : Nat := Classical.choose exB
theorem bB_eq : bB = 2000 := Classical.choose_spec exB
noncomputable def bfA (E : Int → Int → Int) (L : Nat) (f : Int) : BS := allB E L f bB
theorem bfA_eq {E : Int → Int → Int} {L : Nat} {f : Int} {k : Nat} (hk : k ≤ 2000) (h : (allB E L f k).1.length ≤ k) : bfA E L f = allB E L f k := allB_end h bB (by rw [bB_eq]; exact hk)
/-- it closes, where rows are few -/
theorem bfA_stop {E : Int → Int → Int} {L : Nat} {f : Int} {n : Nat} (hn : n ≤ 2000) (h : ∀ k, (allB E L f k).1.length ≤ n) : (bfA E L f).1.length ≤ 2000 ∧ ∀ r, r ∈ (bfA E L f).1 → ∀ c : Nat, c < L → E r c ∈ (bfA E L f).1 := by
  have e : bfA E L f = allB E L f n := bfA_eq hn (h n)
  have e2 : allB E L f (n + 1) = allB E L f n := allB_end (h n) (n + 1) (by omega)
  have hl := h bB
  have hB := bB_eq
  have hlB : (bfA E L f).1.length ≤ bB := by unfold bfA; omega
  refine ⟨by unfold bfA; omega, fun r hr c hc => ?_⟩
  -- r stands at some place k; the row k was gone through
  have hk := ixF_lt hr
  have ha := ixF_at hr
  obtain ⟨k, hk0⟩ : ∃ k, k = ixF (bfA E L f).1 r := ⟨_, rfl⟩
  rw [← hk0] at hk ha
  have key : ∀ m, k < m → ∀ x, x ∈ (allB E L f (k + 1)).1 → x ∈ (allB E L f m).1 := by
    intro m
    induction m with
    | zero => intro z; omega
    | succ m ih =>
      intro z x hx
      by_cases e : k = m
      · rw [← e]; exact hx
      · obtain ⟨p, hp⟩ := allB_pre (E := E) (L := L) (f := f) (k := m)
        rw [hp]
        exact List.mem_append_left _ (ih (by omega) x hx)
  have pre : ∀ m, k ≤ m → ∃ p, (allB E L f m).1 = (allB E L f k).1 ++ p := by
    intro m
    induction m with
    | zero => intro z; rw [Nat.le_zero.mp z]; exact ⟨[], by simp⟩
    | succ m ih =>
      intro z
      by_cases e : k = m + 1
      · rw [e]; exact ⟨[], by simp⟩
      · obtain ⟨p, hp⟩ := ih (by omega)
        obtain ⟨p', hp'⟩ := allB_pre (E := E) (L := L) (f := f) (k := m)
        exact ⟨p ++ p', by rw [hp', hp, List.append_assoc]⟩
  have hkl : k < (allB E L f k).1.length := by
    apply Classical.byContradiction
    intro z
    have hs := allB_end (E := E) (L := L) (f := f) (k := k) (by omega) bB (by omega)
    have : bfA E L f = allB E L f k := hs
    rw [this] at hk
    omega
  have er : wf (allB E L f k).1 k = r := by
    obtain ⟨p, hp⟩ := pre bB (by omega)
    have : (bfA E L f).1 = (allB E L f k).1 ++ p := hp
    rw [this, wf_app hkl] at ha
    exact ha
  refine key bB (by omega) _ ?_
  have e3 : allB E L f (k + 1) = rowB E (wf (allB E L f k).1 k) L (allB E L f k) := if_pos hkl
  obtain ⟨m, -, -, h3⟩ := rowB_pre (E := E) (r := wf (allB E L f k).1 k) (n := L) (st := allB E L f k)
  rw [e3, ← er]
  exact h3 c hc
