/-! PACK: rows by rank -/
theorem cnN_succ {f : Int → Int} {r : Nat} (h : f r ≠ 0) : cnN f (r + 1) = cnN f r + 1 := by
  show cnN f r + (if f r ≠ 0 then 1 else 0) = _
  rw [if_pos h]
theorem cnN_skip {f : Int → Int} {r : Nat} (h : f r = 0) : cnN f (r + 1) = cnN f r := by
  show cnN f r + (if f r ≠ 0 then 1 else 0) = _
  rw [if_neg (fun z => z h)]
  rfl
theorem cnN_slt {f : Int → Int} {r s : Nat} (h : f r ≠ 0) (hs : r < s) : cnN f r < cnN f s := by
  have := cnN_le (f := f) (m := r + 1) (n := s) hs
  rw [cnN_succ h] at this
  omega
theorem cnN_inj {f : Int → Int} {r s : Nat} (hr : f r ≠ 0) (hs : f s ≠ 0) (h : cnN f r = cnN f s) : r = s := by
  rcases Nat.lt_trichotomy r s with q | q | q
  · have := cnN_slt hr q; omega
  · exact q
  · have := cnN_slt hs q; omega
theorem cnN_ex {f : Int → Int} {n x : Nat} (h : x < cnN f n) : ∃ r, r < n ∧ f r ≠ 0 ∧ cnN f r = x := by
  induction n with
  | zero => exact absurd h (Nat.not_lt_zero _)
  | succ n ih =>
    by_cases q : f n ≠ 0
    · rw [cnN_succ q] at h
      by_cases e : x = cnN f n
      · exact ⟨n, by omega, q, e.symm⟩
      · obtain ⟨r, a, b, c⟩ := ih (by omega)
        exact ⟨r, by omega, b, c⟩
    · rw [cnN_skip (Classical.byContradiction q)] at h
      obtain ⟨r, a, b, c⟩ := ih h
      exact ⟨r, by omega, b, c⟩
/-- the row of a rank -/
def nthR (f : Int → Int) : Nat → Int → Int
  | 0, _ => -1
  | n + 1, x => if f n ≠ 0 ∧ (cnN f n : Int) = x then n else nthR f n x
theorem nthR_eq {f : Int → Int} {n r : Nat} (hr : r < n) (h : f r ≠ 0) : nthR f n (cnN f r) = r := by
  induction n with
  | zero => omega
  | succ n ih =>
    show (if f n ≠ 0 ∧ (cnN f n : Int) = (cnN f r : Int) then (n : Int) else nthR f n (cnN f r)) = r
    by_cases q : f n ≠ 0 ∧ (cnN f n : Int) = (cnN f r : Int)
    · rw [if_pos q]
      have := cnN_inj q.1 h (by omega)
      omega
    · rw [if_neg q]
      by_cases e : r = n
      · exact absurd ⟨by rw [← e]; exact h, by rw [e]⟩ q
      · exact ih (by omega)
def rk (a : AT) (r : Int) : Int := cnN (aV a) r.toNat
def un (a : AT) (x : Int) : Int := nthR (aV a) (aN a) x
def pkA (a : AT) : AT :=
  (fun x => if 0 ≤ x ∧ x < aS a 1 then 1 else 0,
   fun x c => if 0 ≤ x ∧ x < aS a 1 then (if aE a (un a x) c = -2 then -2 else rk a (aE a (un a x) c)) else -2,
   fun x => if (0 ≤ x ∧ x < aS a 1) ∧ aD a (un a x) ≠ 0 then 1 else 0,
   fun j => if j = 0 then aS a 1 else if j = 7 then aS a 7 + 1 else if j = 10 then 0 else aS a j,
   if 0 ≤ aM a ∧ aV a (aM a) ≠ 0 then rk a (aM a) else -1)
theorem rk_un {L Q : Int} {a : AT} (h : WT L Q a) {r : Int} (hr : VV a r) : 0 ≤ rk a r ∧ rk a r < aS a 1 ∧ un a (rk a r) = r := by
  have r0 := h.1.2.1 r hr
  have r1 := (h.2.1 r hr).2
  have hN := aN_eq h
  have e : ((r.toNat : Nat) : Int) = r := by omega
  have hr' : aV a ((r.toNat : Nat) : Int) ≠ 0 := by rw [e]; exact hr
  have h1 := cnN_slt (f := aV a) (r := r.toNat) (s := aN a) hr' (by omega)
  have h6 := h.2.2.2.2.2.1.1
  refine ⟨by unfold rk; omega, by unfold rk; omega, ?_⟩
  unfold un rk
  rw [nthR_eq (by omega) hr', e]
theorem un_rk {L Q : Int} {a : AT} (h : WT L Q a) {x : Int} (h0 : 0 ≤ x) (h1 : x < aS a 1) : VV a (un a x) ∧ rk a (un a x) = x := by
  have h6 := h.2.2.2.2.2.1.1
  obtain ⟨r, a1, a2, a3⟩ := cnN_ex (f := aV a) (n := aN a) (x := x.toNat) (by omega)
  have e : un a x = r := by
    unfold un
    rw [show x = ((cnN (aV a) r : Nat) : Int) by omega]
    exact nthR_eq a1 a2
  rw [e]
  refine ⟨a2, ?_⟩
  unfold rk
  rw [show ((r : Int)).toNat = r by omega]
  omega
theorem rk_le {a : AT} {r : Int} (h : 0 ≤ r) : rk a r ≤ r := by
  have := cnN_bound (aV a) r.toNat
  unfold rk
  omega
theorem un_zero {L Q : Int} {a : AT} (h : WT L Q a) : un a 0 = 0 := by
  have := (rk_un h h.1.1).2.2
  have e : rk a 0 = 0 := rfl
  rw [e] at this
  exact this
theorem VV_pk {a : AT} {x : Int} : VV (pkA a) x ↔ 0 ≤ x ∧ x < aS a 1 := by
  show (if 0 ≤ x ∧ x < aS a 1 then (1 : Int) else 0) ≠ 0 ↔ _
  split
  · rename_i q; exact ⟨fun _ => q, fun _ => by decide⟩
  · rename_i q; exact ⟨fun z => absurd rfl z, fun z => absurd z q⟩
theorem aE_pk {a : AT} {x c : Int} (h : 0 ≤ x ∧ x < aS a 1) : aE (pkA a) x c = if aE a (un a x) c = -2 then -2 else rk a (aE a (un a x) c) := if_pos h
theorem cnN_full {f : Int → Int} {n : Nat} (h : ∀ j, 0 ≤ j → j < (n : Int) → f j ≠ 0) : cnN f n = n := by
  induction n with
  | zero => rfl
  | succ n ih =>
    rw [cnN_succ (h n (by omega) (by omega)), ih (fun j a b => h j a (by omega))]
theorem WT_pk {L Q Q' : Int} {a : AT} (hL : L % 2 = 0) (h : WT L Q a) (hQ : aS a 7 + 1 ≤ aS a 3 + Q') : WT L Q' (pkA a) := by
  have hl := WT_left h
  obtain ⟨g1, g2, g3, g4, g5, g6, g7, g8, g9, g10, g11, g12, g13, g14⟩ := id h
  have cell : ∀ x c, 0 ≤ x → x < aS a 1 → 0 ≤ c → c < L → aE a (un a x) c ≠ -2 → VV a (aE a (un a x) c) ∧ aE a (aE a (un a x) c) (oc c) = un a x := fun x c x0 x1 c0 c1 hn => (g1.2.2 _ c (un_rk h x0 x1).1 c0 c1).resolve_left hn
  refine ⟨⟨VV_pk.mpr ⟨by omega, by omega⟩, fun r hr => (VV_pk.mp hr).1, fun x c hx c0 c1 => ?_⟩, fun x hx => ?_, fun x c hn => ?_, fun x hx => ?_, ?_, ?_, ?_, g8, g9, g10, g11, ?_, fun k hk => ?_, ?_⟩
  · obtain ⟨x0, x1⟩ := VV_pk.mp hx
    rw [aE_pk ⟨x0, x1⟩]
    by_cases q : aE a (un a x) c = -2
    · rw [if_pos q]; exact Or.inl rfl
    · rw [if_neg q]
      obtain ⟨d1, d2⟩ := cell x c x0 x1 c0 c1 q
      have k1 := rk_un h d1
      refine Or.inr ⟨VV_pk.mpr ⟨k1.1, k1.2.1⟩, ?_⟩
      rw [aE_pk ⟨k1.1, k1.2.1⟩, k1.2.2, d2, if_neg]
      · exact (un_rk h x0 x1).2
      · have := g1.2.1 _ (un_rk h x0 x1).1
        omega
  · have := VV_pk.mp hx
    exact ⟨if_pos this, this.2⟩
  · by_cases q : 0 ≤ x ∧ x < aS a 1
    · rw [aE_pk q, g3 (un a x) c (fun z => hn ⟨VV_pk.mpr q, z.2⟩), if_pos rfl]
    · exact if_neg q
  · have q : (0 ≤ x ∧ x < aS a 1) ∧ aD a (un a x) ≠ 0 := by
      apply Classical.byContradiction
      intro z
      exact hx (if_neg z)
    exact ⟨if_pos q, VV_pk.mpr q.1⟩
  · show 1 ≤ aS a 1 ∧ aS a 1 ≤ aS a 2 ∧ aS a 2 ≤ 2000
    omega
  · show aS a 1 = cnN (aV (pkA a)) (aS a 1).toNat ∧ aS a 1 ≤ aS a 9 ∧ aS a 9 ≤ 300
    rw [cnN_full (fun j j0 j1 => VV_pk.mpr ⟨j0, by omega⟩)]
    omega
  · show aS a 3 = aS a 2 - aS a 1 ∧ (0 : Int) ≤ 0 ∧ 0 ≤ aS a 7 + 1 ∧ aS a 7 + 1 + 0 ≤ aS a 3 + Q'
    omega
  · show -1 ≤ (if 0 ≤ aM a ∧ aV a (aM a) ≠ 0 then rk a (aM a) else -1) ∧ (if 0 ≤ aM a ∧ aV a (aM a) ≠ 0 then rk a (aM a) else -1) < aS a 1
    split
    · rename_i q
      have := rk_un h q.2
      omega
    · omega
  · show (if k = 0 then aS a 1 else if k = 7 then aS a 7 + 1 else if k = 10 then 0 else aS a k) = 0
    rw [if_neg (by omega), if_neg (by omega), if_neg (by omega)]
    exact g13 k hk
  · intro P hP0 hP x hx
    obtain ⟨x0, x1⟩ := VV_pk.mp hx
    have key := g14 (fun r => P (rk a r)) hP0 (fun r c hr hv c0 c1 hn => by
      have k1 := rk_un h hv
      have e : aE (pkA a) (rk a r) c = rk a (aE a r c) := by rw [aE_pk ⟨k1.1, k1.2.1⟩, k1.2.2, if_neg hn]
      have k2 := rk_un h ((g1.2.2 r c hv c0 c1).resolve_left hn).1
      have := hP (rk a r) c hr (VV_pk.mpr ⟨k1.1, k1.2.1⟩) c0 c1 (by rw [e]; omega)
      rw [e] at this
      exact this) (un a x) (un_rk h x0 x1).1
    have key' : P (rk a (un a x)) := key
    rw [(un_rk h x0 x1).2] at key'
    exact key'
