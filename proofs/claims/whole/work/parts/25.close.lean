/-! CLOSE: words followed from both ends; a table at which no LOOK changes anything, the least of its kind, is one thing -/
def PF {X : Type} (F : X → Int → X → Prop) (w : Int → Int) : Nat → X → X → Prop
  | 0, x, y => x = y
  | i + 1, x, y => ∃ z, PF F w i x z ∧ F z (w i) y
def PB {X : Type} (F : X → Int → X → Prop) (w : Int → Int) (n : Nat) : Nat → X → X → Prop
  | 0, x, y => x = y
  | m + 1, x, y => ∃ z, PB F w n m x z ∧ F z (oc (w ((n : Int) - 1 - m))) y
def Good {X : Type} (F : X → Int → X → Prop) (w : Int → Int) (n : Nat) (x : X) : Prop :=
  (∀ i m y z, i + m = n → PF F w i x y → PB F w n m x z → y = z) ∧ ∀ i m y z, i + m + 1 = n → PF F w i x y → PB F w n m x z → F y (w i) z
/-- a LOOK that changes nothing -/
def NC {X : Type} (F : X → Int → X → Prop) (w : Int → Int) (n : Nat) (r : X) : Prop := ∃ (k m : Nat) (f b : X), PF F w k r f ∧ (k = n ∨ ¬ ∃ y, F f (w k) y) ∧ PB F w n m r b ∧ k + m ≤ n ∧ (k + m = n ∨ ¬ ∃ y, F b (oc (w ((n : Int) - 1 - m))) y) ∧ (k + m = n → f = b) ∧ k + m + 1 ≠ n
theorem PF_det {X : Type} {F : X → Int → X → Prop} (hd : Det F) {w : Int → Int} {i : Nat} {x y z : X} (h1 : PF F w i x y) (h2 : PF F w i x z) : y = z := by
  induction i generalizing y z with
  | zero => exact h1.symm.trans h2
  | succ i ih =>
    obtain ⟨u, a1, a2⟩ := h1
    obtain ⟨v, b1, b2⟩ := h2
    rw [ih a1 b1] at a2
    exact hd _ _ _ _ a2 b2
theorem PB_det {X : Type} {F : X → Int → X → Prop} (hd : Det F) {w : Int → Int} {n i : Nat} {x y z : X} (h1 : PB F w n i x y) (h2 : PB F w n i x z) : y = z := by
  induction i generalizing y z with
  | zero => exact h1.symm.trans h2
  | succ i ih =>
    obtain ⟨u, a1, a2⟩ := h1
    obtain ⟨v, b1, b2⟩ := h2
    rw [ih a1 b1] at a2
    exact hd _ _ _ _ a2 b2
/-- of a way its beginnings -/
theorem PF_pre {X : Type} {F : X → Int → X → Prop} {w : Int → Int} {i : Nat} {x y : X} (h : PF F w i x y) : ∀ j, j ≤ i → ∃ z, PF F w j x z := by
  induction i generalizing y with
  | zero => intro j hj; rw [Nat.le_zero.mp hj]; exact ⟨y, h⟩
  | succ i ih =>
    intro j hj
    by_cases e : j = i + 1
    · rw [e]; exact ⟨y, h⟩
    · obtain ⟨u, a1, -⟩ := h
      exact ih a1 j (by omega)
theorem PB_pre {X : Type} {F : X → Int → X → Prop} {w : Int → Int} {n i : Nat} {x y : X} (h : PB F w n i x y) : ∀ j, j ≤ i → ∃ z, PB F w n j x z := by
  induction i generalizing y with
  | zero => intro j hj; rw [Nat.le_zero.mp hj]; exact ⟨y, h⟩
  | succ i ih =>
    intro j hj
    by_cases e : j = i + 1
    · rw [e]; exact ⟨y, h⟩
    · obtain ⟨u, a1, -⟩ := h
      exact ih a1 j (by omega)
theorem PB_split {X : Type} {F : X → Int → X → Prop} {w : Int → Int} {n p q : Nat} {x z : X} (hp : p ≤ n) (h : PB F w n (p + q) x z) : ∃ b, PB F w n p x b ∧ PB F w (n - p) q b z := by
  induction q generalizing z with
  | zero => exact ⟨z, h, rfl⟩
  | succ q ih =>
    obtain ⟨u, a1, a2⟩ := h
    obtain ⟨b, b1, b2⟩ := ih a1
    refine ⟨b, b1, u, b2, ?_⟩
    have e : ((n - p : Nat) : Int) - 1 - q = (n : Int) - 1 - ((p + q : Nat) : Int) := by omega
    rw [e]
    exact a2
/-- back along a way that was gone -/
theorem PF_rev {X : Type} {F : X → Int → X → Prop} {L : Int} (hs : Sym L F) {w : Int → Int} {n : Nat} (hw : ∀ i, 0 ≤ i → i < (n : Int) → 0 ≤ w i ∧ w i < L) {k : Nat} {x f : X} (hk : k ≤ n) (h : PF F w k x f) : ∀ q, q ≤ k → ∃ y, PF F w (k - q) x y ∧ PB F w k q f y := by
  intro q
  induction q with
  | zero => intro _; exact ⟨f, h, rfl⟩
  | succ q ih =>
    intro hq
    obtain ⟨y, a1, a2⟩ := ih (by omega)
    have e : k - q = (k - (q + 1)) + 1 := by omega
    rw [e] at a1
    obtain ⟨z, b1, b2⟩ := a1
    have e2 : (k : Int) - 1 - q = ((k - (q + 1) : Nat) : Int) := by omega
    have hl := hw ((k - (q + 1) : Nat) : Int) (by omega) (by omega)
    refine ⟨z, b1, y, a2, ?_⟩
    rw [e2]
    exact hs _ _ _ hl.1 hl.2 b2
theorem NC_good {X : Type} {F : X → Int → X → Prop} {L : Int} (hL2 : L % 2 = 0) (hd : Det F) (hs : Sym L F) {w : Int → Int} {n : Nat} (hw : ∀ i, 0 ≤ i → i < (n : Int) → 0 ≤ w i ∧ w i < L) {r : X} (h : NC F w n r) : Good F w n r := by
  obtain ⟨k, m, f, b, hf, hk, hb, hkm, hm, he, hne⟩ := h
  have hkn : k ≤ n := by omega
  -- a way forward is no longer than k
  have fwdle : ∀ i y, i ≤ n → PF F w i r y → i ≤ k := by
    intro i y hi hy
    rcases hk with e | e
    · omega
    · apply Nat.le_of_not_lt
      intro hlt
      obtain ⟨z, z1⟩ := PF_pre hy (k + 1) hlt
      obtain ⟨u, u1, u2⟩ := z1
      rw [PF_det hd u1 hf] at u2
      exact e ⟨z, u2⟩
  have bwdle : ∀ p z, k + p ≤ n → PB F w n p r z → p ≤ m := by
    intro p z hp hz
    rcases hm with e | e
    · omega
    · apply Nat.le_of_not_lt
      intro hlt
      obtain ⟨u, u1⟩ := PB_pre hz (m + 1) hlt
      obtain ⟨v, v1, v2⟩ := u1
      rw [PB_det hd v1 hb] at v2
      exact e ⟨u, v2⟩
  have first : ∀ i p y z, i + p = n → PF F w i r y → PB F w n p r z → y = z := by
    intro i p y z hip hy hz
    have h1 := fwdle i y (by omega) hy
    obtain ⟨b', hb'⟩ := PB_pre hz (n - k) (by omega)
    have h2 := bwdle (n - k) b' (by omega) hb'
    have hmk : m = n - k := by omega
    have hfb := he (by omega)
    have e : p = (n - k) + (k - i) := by omega
    rw [e] at hz
    obtain ⟨b2, c1, c2⟩ := PB_split (by omega) hz
    have hb2 : b2 = b := by rw [hmk] at hb; exact PB_det hd c1 hb
    rw [hb2, ← hfb, show n - (n - k) = k by omega] at c2
    obtain ⟨y2, d1, d2⟩ := PF_rev hs hw hkn hf (k - i) (by omega)
    rw [show k - (k - i) = i by omega] at d1
    rw [PF_det hd hy d1]
    exact PB_det hd d2 c2
  refine ⟨first, fun i p y z hip hy hz => ?_⟩
  have h1 := fwdle i y (by omega) hy
  by_cases e : i = k
  · subst e
    have h2 := bwdle p z (by omega) hz
    -- then m is p + 1, and the two meet
    have hmp : m = p + 1 := by omega
    have hfb := he (by omega)
    rw [hmp] at hb
    obtain ⟨z2, g1, g2⟩ := hb
    rw [PB_det hd g1 hz, ← hfb, PF_det hd hf hy] at g2
    have e2 : (n : Int) - 1 - p = (i : Int) := by omega
    rw [e2] at g2
    have hl := hw i (by omega) (by omega)
    have ho := oc_in hL2 hl.1 hl.2
    have g3 := hs _ _ _ ho.1 ho.2 g2
    rw [oc_oc hl.1] at g3
    exact g3
  · obtain ⟨y', g1⟩ := PF_pre hf (i + 1) (by omega)
    obtain ⟨u, u1, u2⟩ := g1
    rw [PF_det hd u1 hy] at u2
    have := first (i + 1) p y' z (by omega) ⟨y, hy, u2⟩ hz
    rw [← this]
    exact u2
/-- the arrows of a table, among its rows and columns -/
def arV (L : Int) (V : Int → Prop) (E : Int → Int → Int) : Int → Int → Int → Prop := fun x c y => V x ∧ 0 ≤ c ∧ c < L ∧ E x c = y ∧ y ≠ -2
theorem arV_det (L : Int) (V : Int → Prop) (E : Int → Int → Int) : Det (arV L V E) := fun _ _ _ _ h1 h2 => h1.2.2.2.1.symm.trans h2.2.2.2.1
theorem arV_sym {L : Int} {V : Int → Prop} {E : Int → Int → Int} (hL : L % 2 = 0) (hT : TW L V E) : Sym L (arV L V E) := by
  intro x c y h0 h1 h
  obtain ⟨hx, -, -, he, hy⟩ := h
  have g := (hT.2.2 x c hx h0 h1).resolve_left (by rw [he]; exact hy)
  rw [he] at g
  have ho := oc_in hL h0 h1
  exact ⟨g.1, ho.1, ho.2, g.2, by have := hT.2.1 x hx; omega⟩
/-- maps carry ways along -/
theorem PF_map {X Y : Type} {F : X → Int → X → Prop} {G : Y → Int → Y → Prop} {φ : X → Y} (h : ∀ x c y, F x c y → G (φ x) c (φ y)) {w : Int → Int} {i : Nat} {x y : X} (hp : PF F w i x y) : PF G w i (φ x) (φ y) := by
  induction i generalizing y with
  | zero => exact congrArg φ hp
  | succ i ih => obtain ⟨z, a, b⟩ := hp; exact ⟨φ z, ih a, h _ _ _ b⟩
theorem PB_map {X Y : Type} {F : X → Int → X → Prop} {G : Y → Int → Y → Prop} {φ : X → Y} (h : ∀ x c y, F x c y → G (φ x) c (φ y)) {w : Int → Int} {n i : Nat} {x y : X} (hp : PB F w n i x y) : PB G w n i (φ x) (φ y) := by
  induction i generalizing y with
  | zero => exact congrArg φ hp
  | succ i ih => obtain ⟨z, a, b⟩ := hp; exact ⟨φ z, ih a, h _ _ _ b⟩
theorem Hm_arV {X : Type} {L : Int} {V : Int → Prop} {E : Int → Int → Int} {φ : Int → X} {F : X → Int → X → Prop} (h : Hm L V E φ F) : ∀ x c y, arV L V E x c y → F (φ x) c (φ y) := by
  rintro x c y ⟨h1, h2, h3, rfl, h5⟩
  exact h x c h1 h2 h3 h5
/-- words: which they are (letters and length), of all rows (Ws), of row 0 (Ss) -/
abbrev Wds : Type := (Int → Int) → Nat → Prop
def Fit {X : Type} (V : Int → Prop) (Ws Ss : Wds) (φ : Int → X) (F : X → Int → X → Prop) : Prop := (∀ w n r, Ws w n → V r → Good F w n (φ r)) ∧ ∀ w n, Ss w n → Good F w n (φ 0)
/-- (V', E') comes of (V, E) by what must be: nothing that a closed target doesn't have -/
def CP (L : Int) (Ws Ss : Wds) (V : Int → Prop) (E : Int → Int → Int) (ρ : Int → Int) (V' : Int → Prop) (E' : Int → Int → Int) : Prop :=
  (∀ r, V r → V' (ρ r) ∧ ρ r ≤ r) ∧ (∀ r, V' r → V r ∧ ρ r = r) ∧
  (∀ r c, V r → 0 ≤ c → c < L → E r c ≠ -2 → E' (ρ r) c = ρ (E r c)) ∧
  ∀ (X : Type) (φ : Int → X) (F : X → Int → X → Prop), Det F → Sym L F → Hm L V E φ F → Fit V Ws Ss φ F → (∀ r, V r → φ (ρ r) = φ r) ∧ Hm L V' E' φ F
def CR (L : Int) (Ws Ss : Wds) (V : Int → Prop) (E : Int → Int → Int) (V' : Int → Prop) (E' : Int → Int → Int) : Prop := ∃ ρ, CP L Ws Ss V E ρ V' E' ∧ Fit V' Ws Ss (fun r => r) (arV L V' E')
theorem CP_refl {L : Int} {Ws Ss : Wds} {V : Int → Prop} {E : Int → Int → Int} : CP L Ws Ss V E (fun r => r) V E := ⟨fun r h => ⟨h, Int.le_refl r⟩, fun r h => ⟨h, rfl⟩, fun _ _ _ _ _ _ => rfl, fun X φ F _ _ h _ => ⟨fun _ _ => rfl, h⟩⟩
