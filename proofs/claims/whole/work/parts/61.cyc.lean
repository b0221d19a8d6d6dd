/-! CYCLES of a map that takes rows to rows, one to one -/
def Pmt (v : Int → Int) (N : Nat) (f : Int → Int) : Prop := (∀ r, v r ≠ 0 → 0 ≤ r ∧ r < (N : Int) ∧ v (f r) ≠ 0) ∧ ∀ r s, v r ≠ 0 → v s ≠ 0 → f r = f s → r = s
theorem itB_succ' {f : Int → Int} {n : Nat} {s : Int} : itB f (n + 1) s = itB f n (f s) := by
  induction n with
  | zero => rfl
  | succ n ih => show f (itB f (n + 1) s) = f (itB f n (f s)); rw [ih]
theorem itB_add {f : Int → Int} {m n : Nat} {s : Int} : itB f (m + n) s = itB f m (itB f n s) := by
  induction m with
  | zero => rw [Nat.zero_add]; rfl
  | succ m ih =>
    rw [Nat.succ_add]
    show f (itB f (m + n) s) = f (itB f m (itB f n s))
    rw [ih]
theorem itB_v {v f : Int → Int} {N : Nat} (h : Pmt v N f) {r : Int} (hr : v r ≠ 0) : ∀ n, v (itB f n r) ≠ 0
  | 0 => hr
  | n + 1 => (h.1 _ (itB_v h hr n)).2.2
theorem itB_inj {v f : Int → Int} {N : Nat} (h : Pmt v N f) {r s : Int} (hr : v r ≠ 0) (hs : v s ≠ 0) : ∀ n, itB f n r = itB f n s → r = s
  | 0, e => e
  | n + 1, e => itB_inj h hr hs n (h.2 _ _ (itB_v h hr n) (itB_v h hs n) e)
/-- how many rows a cycle has -/
def cyl (f : Int → Int) (r : Int) (n : Nat) : Prop := 0 < n ∧ itB f n r = r ∧ ∀ m, 0 < m → m < n → itB f m r ≠ r
theorem cyl_uniq {f : Int → Int} {r : Int} {m n : Nat} (h1 : cyl f r m) (h2 : cyl f r n) : m = n := by
  rcases Nat.lt_trichotomy m n with q | q | q
  · exact absurd h1.2.1 (h2.2.2 m h1.1 q)
  · exact q
  · exact absurd h2.2.1 (h1.2.2 n h2.1 q)
theorem least_of {P : Nat → Prop} : ∀ n, P n → ∃ m, m ≤ n ∧ P m ∧ ∀ k, k < m → ¬ P k := by
  intro n
  induction n using Nat.strongRecOn with
  | _ n ih =>
    intro hn
    by_cases q : ∃ k, k < n ∧ P k
    · obtain ⟨k, k1, k2⟩ := q
      obtain ⟨m, m1, m2, m3⟩ := ih k k1 k2
      exact ⟨m, by omega, m2, m3⟩
    · exact ⟨n, Nat.le_refl _, hn, fun k hk z => q ⟨k, hk, z⟩⟩
def orb (f : Int → Int) (r : Int) : Nat → List Int
  | 0 => []
  | n + 1 => orb f r n ++ [itB f n r]
theorem orb_len {f : Int → Int} {r : Int} : ∀ n, (orb f r n).length = n
  | 0 => rfl
  | n + 1 => by show (orb f r n ++ [itB f n r]).length = n + 1; rw [List.length_append, orb_len n]; rfl
theorem orb_mem {f : Int → Int} {r x : Int} : ∀ {n : Nat}, x ∈ orb f r n ↔ ∃ i, i < n ∧ x = itB f i r
  | 0 => ⟨fun h => by simp [orb] at h, fun ⟨i, h, _⟩ => by omega⟩
  | n + 1 => by
    show x ∈ orb f r n ++ [itB f n r] ↔ _
    rw [List.mem_append, orb_mem (n := n), List.mem_singleton]
    constructor
    · rintro (⟨i, h1, h2⟩ | h)
      · exact ⟨i, by omega, h2⟩
      · exact ⟨n, by omega, h⟩
    · rintro ⟨i, h1, h2⟩
      by_cases e : i = n
      · right; rw [← e]; exact h2
      · exact Or.inl ⟨i, by omega, h2⟩
theorem orb_nodup {f : Int → Int} {r : Int} : ∀ {n : Nat}, (∀ i j, i < j → j < n → itB f i r ≠ itB f j r) → (orb f r n).Nodup
  | 0, _ => by simp [orb]
  | n + 1, h => by
    show (orb f r n ++ [itB f n r]).Nodup
    rw [List.nodup_append]
    refine ⟨orb_nodup (fun i j a b => h i j a (by omega)), by simp, fun a ha b hb => ?_⟩
    rw [List.mem_singleton.mp hb]
    obtain ⟨i, i1, i2⟩ := orb_mem.mp ha
    rw [i2]
    exact h i n i1 (by omega)
theorem cyl_ex {v f : Int → Int} {N : Nat} (h : Pmt v N f) {r : Int} (hr : v r ≠ 0) : ∃ n, cyl f r n ∧ n ≤ cnN v N := by
  have key : ∃ i j, i < j ∧ j < cnN v N + 1 ∧ itB f i r = itB f j r := by
    apply Classical.byContradiction
    intro z
    have hn : (orb f r (cnN v N + 1)).Nodup := orb_nodup (fun i j a b e => z ⟨i, j, a, b, e⟩)
    have := nodup_len (n := N) (l := orb f r (cnN v N + 1)) (f := v) hn (fun x hx => by
      obtain ⟨i, i1, i2⟩ := orb_mem.mp hx
      have hv := itB_v h hr i
      rw [i2]
      exact ⟨(h.1 _ hv).1, (h.1 _ hv).2.1, hv⟩)
    rw [orb_len] at this
    omega
  obtain ⟨i, j, a1, a2, a3⟩ := key
  have e : itB f (j - i) r = r := by
    have e1 : itB f j r = itB f i (itB f (j - i) r) := by rw [← itB_add]; congr 1; omega
    rw [e1] at a3
    exact (itB_inj h hr (itB_v h hr _) i a3).symm
  obtain ⟨m, m1, m2, m3⟩ := least_of (P := fun n => 0 < n ∧ itB f n r = r) (j - i) ⟨by omega, e⟩
  exact ⟨m, ⟨m2.1, m2.2, fun k k0 k1 z => m3 k k1 ⟨k0, z⟩⟩, by omega⟩
noncomputable def cyN (f : Int → Int) (r : Int) : Nat := @dite _ (∃ n, cyl f r n) (Classical.propDecidable _) (fun h => Classical.choose h) (fun _ => 0)
theorem cyN_eq {f : Int → Int} {r : Int} {n : Nat} (h : cyl f r n) : cyN f r = n := by
  have hx : ∃ n, cyl f r n := ⟨n, h⟩
  unfold cyN
  rw [dif_pos hx]
  exact cyl_uniq (Classical.choose_spec hx) h
theorem cyN_spec {v f : Int → Int} {N : Nat} (h : Pmt v N f) {r : Int} (hr : v r ≠ 0) : cyl f r (cyN f r) ∧ cyN f r ≤ cnN v N := by
  obtain ⟨n, h1, h2⟩ := cyl_ex h hr
  rw [cyN_eq h1]
  exact ⟨h1, h2⟩
/-- the least common multiple as far as it is told -/
noncomputable def pwF (v : Int → Int) (f : Int → Int) : Nat → Nat
  | 0 => 1
  | k + 1 => if 2147483647 < pwF v f k then pwF v f k else if v k ≠ 0 then Nat.lcm (pwF v f k) (cyN f k) else pwF v f k
theorem pwF_stay {v f : Int → Int} {k : Nat} (h : 2147483647 < pwF v f k) : ∀ n, k ≤ n → pwF v f n = pwF v f k := by
  intro n
  induction n with
  | zero => intro z; rw [Nat.le_zero.mp z]
  | succ n ih =>
    intro z
    by_cases e : k = n + 1
    · rw [e]
    · have := ih (by omega)
      show (if 2147483647 < pwF v f n then pwF v f n else _) = _
      rw [this, if_pos h]
theorem pwF_pos {v f : Int → Int} {N : Nat} (h : Pmt v N f) : ∀ k, 0 < pwF v f k
  | 0 => by show 0 < 1; omega
  | k + 1 => by
    have ih := pwF_pos h k
    show 0 < (if 2147483647 < pwF v f k then pwF v f k else if v k ≠ 0 then Nat.lcm (pwF v f k) (cyN f k) else pwF v f k)
    split
    · exact ih
    · split
      · rename_i q
        exact Nat.lcm_pos ih (cyN_spec h q).1.1
      · exact ih
noncomputable def pwV (v f : Int → Int) (N : Nat) : Int := if 2147483647 < pwF v f N then 2147483647 else pwF v f N
noncomputable def ccV (v f : Int → Int) (N : Nat) (l : Int) : Int := if l < 1 then 0 else (cnN (fun r => if v r ≠ 0 ∧ (cyN f r : Int) = l then 1 else 0) N : Int) / l
/-- words and letters move the rows of a full table one to one -/
theorem goF_full {L Q : Int} {a : AT} (h : WT L Q a) (hf : ∀ r c, VV a r → 0 ≤ c → c < L → aE a r c ≠ -2) : ∀ {u : List Int} {r : Int}, VV a r → (∀ c, c ∈ u → 0 ≤ c ∧ c < L) → (goF (aE a) u r).2 = u.length
  | [], _, _, _ => rfl
  | c :: t, r, hr, hu => by
    have hc := hu c (List.mem_cons_self ..)
    have q := hf r c hr hc.1 hc.2
    have e : goF (aE a) (c :: t) r = ((goF (aE a) t (aE a r c)).1, (goF (aE a) t (aE a r c)).2 + 1) := if_neg q
    rw [e]
    show (goF (aE a) t (aE a r c)).2 + 1 = t.length + 1
    rw [goF_full h hf ((h.1.2.2 r c hr hc.1 hc.2).resolve_left q).1 (fun d hd => hu d (List.mem_cons_of_mem _ hd))]
theorem goF_inj {L Q : Int} {a : AT} (h : WT L Q a) (hf : ∀ r c, VV a r → 0 ≤ c → c < L → aE a r c ≠ -2) : ∀ {u : List Int} {r s : Int}, VV a r → VV a s → (∀ c, c ∈ u → 0 ≤ c ∧ c < L) → (goF (aE a) u r).1 = (goF (aE a) u s).1 → r = s
  | [], _, _, _, _, _, e => e
  | c :: t, r, s, hr, hs, hu, e => by
    have hc := hu c (List.mem_cons_self ..)
    have q1 := hf r c hr hc.1 hc.2
    have q2 := hf s c hs hc.1 hc.2
    have e1 : goF (aE a) (c :: t) r = ((goF (aE a) t (aE a r c)).1, (goF (aE a) t (aE a r c)).2 + 1) := if_neg q1
    have e2 : goF (aE a) (c :: t) s = ((goF (aE a) t (aE a s c)).1, (goF (aE a) t (aE a s c)).2 + 1) := if_neg q2
    rw [e1, e2] at e
    have g1 := (h.1.2.2 r c hr hc.1 hc.2).resolve_left q1
    have g2 := (h.1.2.2 s c hs hc.1 hc.2).resolve_left q2
    have := goF_inj h hf g1.1 g2.1 (fun d hd => hu d (List.mem_cons_of_mem _ hd)) e
    rw [← g1.2, ← g2.2, this]
theorem ld_Pmt {L Q : Int} {a : AT} (h : WT L Q a) (hf : ∀ r c, VV a r → 0 ≤ c → c < L → aE a r c ≠ -2) {u : List Int} (hu : ∀ c, c ∈ u → 0 ≤ c ∧ c < L) : Pmt (aV a) (aN a) (ldA a u) := by
  have e : ∀ r, VV a r → ldA a u r = (goF (aE a) u r).1 := fun r hr => if_pos (goF_full h hf hr hu)
  have eN := aN_eq h
  refine ⟨fun r hr => ⟨h.1.2.1 r hr, by have := (h.2.1 r hr).2; omega, ?_⟩, fun r s hr hs z => ?_⟩
  · rw [e r hr]
    exact (goF_spec h.1 u r hr hu).2.1
  · rw [e r hr, e s hs] at z
    exact goF_inj h hf hr hs hu z
theorem cl_Pmt {L Q : Int} {a : AT} (h : WT L Q a) (hf : ∀ r c, VV a r → 0 ≤ c → c < L → aE a r c ≠ -2) {c : Int} (c0 : 0 ≤ c) (c1 : c < L) : Pmt (aV a) (aN a) (fun r => aE a r c) := by
  have eN := aN_eq h
  have g : ∀ r, VV a r → VV a (aE a r c) ∧ aE a (aE a r c) (oc c) = r := fun r hr => (h.1.2.2 r c hr c0 c1).resolve_left (hf r c hr c0 c1)
  refine ⟨fun r hr => ⟨h.1.2.1 r hr, by have := (h.2.1 r hr).2; omega, (g r hr).1⟩, fun r s hr hs z => ?_⟩
  have z' : aE a r c = aE a s c := z
  rw [← (g r hr).2, ← (g s hs).2, z']
