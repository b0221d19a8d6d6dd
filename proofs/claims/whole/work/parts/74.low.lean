/-! LOW as a map: partial tables one behind another -/
abbrev LE : Type := Int → Int → Int
abbrev LA : Type := Int × Int × List (Int × LE)
noncomputable def pB (p : Prop) : Bool := @decide p (Classical.propDecidable p)
theorem pB_t {p : Prop} (h : p) : pB p = true := by unfold pB; simp [h]
theorem pB_f {p : Prop} (h : ¬ p) : pB p = false := by unfold pB; simp [h]
/-- where a word leads; -2 if it comes to an empty cell -/
def lwF (E : LE) : List Int → Int → Int
  | [], r => r
  | c :: t, r => if E r c = -2 then -2 else lwF E t (E r c)
def brk (E : LE) (N : Int) (W : List (List Int)) : Prop := ∃ r u, 0 ≤ r ∧ r < N ∧ u ∈ W ∧ lwF E u r ≠ -2 ∧ lwF E u r ≠ r
def emP (E : LE) (r c : Int) : Prop := E r c = -2
/-- the first empty cell -/
noncomputable def feA (E : LE) (N L : Int) : Option (Int × Int) :=
  @dite _ (∃ p : Int × Int, isFst (emP E) N L p.1 p.2) (Classical.propDecidable _) (fun h => some (Classical.choose h)) (fun _ => none)
theorem feA_some {E : LE} {N L r c : Int} (h : isFst (emP E) N L r c) : feA E N L = some (r, c) := by
  have hx : ∃ p : Int × Int, isFst (emP E) N L p.1 p.2 := ⟨(r, c), h⟩
  have hs := Classical.choose_spec hx
  unfold feA
  rw [dif_pos hx]
  have := isFst_uniq hs h
  congr 1
  exact Prod.ext this.1 this.2
theorem feA_none {E : LE} {N L : Int} (h : noP (emP E) N L) : feA E N L = none := by
  unfold feA
  rw [dif_neg]
  rintro ⟨p, hp⟩
  exact isFst_no hp h
/-- a table RENAMED from a row against the table as it is: below 0, 0, above 0 -/
def rnD (E : LE) (ms : List Int) (k c : Int) : Int := ixF ms (E (wf ms k) c) - E k c
def cmR (E : LE) (L f v : Int) : Prop :=
  (∃ k c, isFst (fun k c => rnD E (bfA E L.toNat f).1 k c ≠ 0) (bfA E L.toNat f).1.length L k c ∧ (v < 0 ↔ rnD E (bfA E L.toNat f).1 k c < 0) ∧ v ≠ 0) ∨
  (noP (fun k c => rnD E (bfA E L.toNat f).1 k c ≠ 0) (bfA E L.toNat f).1.length L ∧ v = 0)
theorem cmR_uniq {E : LE} {L f v v' : Int} (h : cmR E L f v) (h' : cmR E L f v') : (v < 0 ↔ v' < 0) ∧ (v = 0 ↔ v' = 0) := by
  rcases h with ⟨k, c, a, b1, b2⟩ | ⟨a, b⟩
  · rcases h' with ⟨k', c', a', b1', b2'⟩ | ⟨a', b'⟩
    · obtain ⟨rfl, rfl⟩ := isFst_uniq a a'
      exact ⟨b1.trans b1'.symm, ⟨fun z => absurd z b2, fun z => absurd z b2'⟩⟩
    · exact (isFst_no a a').elim
  · rcases h' with ⟨k', c', a', b1', b2'⟩ | ⟨a', b'⟩
    · exact (isFst_no a' a).elim
    · rw [b, b']; exact ⟨Iff.rfl, Iff.rfl⟩
/-- no renaming is less; all are the same -/
def lstE (E : LE) (N L : Int) : Prop := ∀ f, 1 ≤ f → f < N → ∀ v, cmR E L f v → ¬ v < 0
def nrmE (E : LE) (N L : Int) : Prop := ∀ f, 1 ≤ f → f < N → ∀ v, cmR E L f v → v = 0
noncomputable def fdA (L : Int) (E : LE) (N : Int) (a : LA) : LA := if pB (lstE E N L) then (a.1, a.2.1, a.2.2 ++ [(N, E)]) else a
def upL (N t : Int) : Int := if t = N then N + 1 else N
noncomputable def tyA (rec : LE → Int → LA → LA) (W : List (List Int)) (L : Int) (E : LE) (N r c t : Int) (a : LA) : LA :=
  if pB (brk (putE E r c t) (upL N t) W) then (a.1 + 1, a.2)
  else match feA (putE E r c t) (upL N t) L with
    | none => fdA L (putE E r c t) (upL N t) (a.1 + 1, a.2)
    | some _ => rec (putE E r c t) (upL N t) (a.1 + 1, a.2)
noncomputable def loA (rec : LE → Int → LA → LA) (W : List (List Int)) (L : Int) (E : LE) (N r c : Int) : Nat → Int → LA → LA
  | 0, _, a => a
  | n + 1, t, a => if a.2.1 ≠ 0 then a else if E t (oc c) ≠ -2 then loA rec W L E N r c n (t + 1) a else if 3000 ≤ a.1 then (a.1, 1, a.2.2) else loA rec W L E N r c n (t + 1) (tyA rec W L E N r c t a)
/-- how many targets there are from t on -/
def ntA (N M t : Int) : Nat := ((if N < M then N + 1 else M) - t).toNat
noncomputable def goA (W : List (List Int)) (L M : Int) : Nat → LE → Int → LA → LA
  | 0, _, _, a => a
  | k + 1, E, N, a => match feA E N L with
    | none => a
    | some p => loA (goA W L M k) W L E N p.1 p.2 (ntA N M 0) 0 a
theorem exK : ∃ n : Nat, n = 60 := ⟨60, rfl⟩
noncomputable def KL : Nat := Classical.choose exK
theorem KL_eq : KL = 60 := Classical.choose_spec exK
/-- all that LOW comes to -/
noncomputable def lowA (W : List (List Int)) (L M : Int) : LA := goA W L M (KL + 1) (fun _ _ => -2) 1 (0, 0, [])
abbrev LF : Type := LE × Int × Int × Int × Int
/-- what is left to do, from the top frame down -/
noncomputable def fnA (W : List (List Int)) (L M : Int) : List LF → LA → LA
  | [], a => a
  | (E, N, r, c, t) :: fs, a => fnA W L M fs (loA (goA W L M (KL - fs.length)) W L E N r c (ntA N M t) t a)
theorem loA_ended {rec : LE → Int → LA → LA} {W : List (List Int)} {L : Int} {E : LE} {N r c : Int} {n : Nat} {t : Int} {a : LA} (h : a.2.1 ≠ 0) : loA rec W L E N r c n t a = a := by
  cases n with
  | zero => rfl
  | succ n => exact if_pos h
theorem fnA_ended {W : List (List Int)} {L M : Int} : ∀ {fs : List LF} {a : LA}, a.2.1 ≠ 0 → fnA W L M fs a = a
  | [], _, _ => rfl
  | (E, N, r, c, t) :: fs, a, h => by
    show fnA W L M fs (loA _ W L E N r c _ t a) = a
    rw [loA_ended h]
    exact fnA_ended h
/-- targets that are none -/
theorem loA_skip {rec : LE → Int → LA → LA} {W : List (List Int)} {L : Int} {E : LE} {N r c : Int} {a : LA} : ∀ {m n : Nat} {t : Int}, (∀ x, t ≤ x → x < t + m → E x (oc c) ≠ -2) → loA rec W L E N r c (m + n) t a = loA rec W L E N r c n (t + m) a
  | 0, n, t, _ => by rw [Nat.zero_add]; congr 1; omega
  | m + 1, n, t, h => by
    by_cases e : a.2.1 ≠ 0
    · rw [loA_ended e, loA_ended e]
    · rw [show m + 1 + n = (m + n) + 1 by omega]
      show (if a.2.1 ≠ 0 then a else if E t (oc c) ≠ -2 then loA rec W L E N r c (m + n) (t + 1) a else _) = _
      rw [if_neg e, if_pos (h t (by omega) (by omega)), loA_skip (fun x h0 h1 => h x (by omega) (by omega))]
      congr 1
      omega
/-- a partial table of N rows -/
def LWT (L : Int) (E : LE) (N : Int) : Prop := 1 ≤ N ∧ (∀ r c, ¬ (0 ≤ r ∧ r < N ∧ 0 ≤ c ∧ c < L) → E r c = -2) ∧ ∀ r c, 0 ≤ r → r < N → 0 ≤ c → c < L → E r c = -2 ∨ (0 ≤ E r c ∧ E r c < N)
theorem LWT_put {L : Int} {E : LE} {N r c t : Int} (hL : L % 2 = 0) (h : LWT L E N) (r0 : 0 ≤ r) (r1 : r < N) (c0 : 0 ≤ c) (c1 : c < L) (t0 : 0 ≤ t) (t1 : t ≤ N) : LWT L (putE E r c t) (upL N t) := by
  have o := oc_in hL c0 c1
  have hu : N ≤ upL N t ∧ t < upL N t := by unfold upL; split <;> omega
  have h1 := h.1
  refine ⟨by omega, fun x d hn => ?_, fun x d x0 x1 d0 d1 => ?_⟩
  · rw [putE_3]
    · exact h.2.1 x d (fun z => hn ⟨z.1, by omega, z.2.2⟩)
    · rintro ⟨rfl, rfl⟩; exact hn ⟨t0, hu.2, o.1, o.2⟩
    · rintro ⟨rfl, rfl⟩; exact hn ⟨r0, by omega, c0, c1⟩
  · by_cases q1 : x = t ∧ d = oc c
    · rw [q1.1, q1.2, putE_1]; exact Or.inr ⟨r0, by omega⟩
    · by_cases q2 : x = r ∧ d = c
      · rw [q2.1, q2.2, putE_2]; exact Or.inr ⟨t0, hu.2⟩
      · rw [putE_3 q1 q2]
        by_cases q : x < N
        · rcases h.2.2 x d x0 q d0 d1 with z | z
          · exact Or.inl z
          · exact Or.inr ⟨z.1, by omega⟩
        · exact Or.inl (h.2.1 x d (fun z => q z.2.1))
/-- how many cells are filled -/
def flN (E : LE) : Nat := cnN (fun j => if E (j / 10) (j % 10) = -2 then 0 else 1) 60
theorem flN_put {E : LE} {r c t : Int} (r0 : 0 ≤ r) (r1 : r < 6) (c0 : 0 ≤ c) (c1 : c < 10) (he : E r c = -2) (t0 : t ≠ -2) (r2 : r ≠ -2) : flN E < flN (putE E r c t) := by
  unfold flN
  refine cnN_strict (k := 10 * r + c) (by omega) (by omega) ?_ ?_ (fun j j0 j1 hj => ?_)
  · rw [show (10 * r + c) / 10 = r by omega, show (10 * r + c) % 10 = c by omega, if_pos he]
  · rw [show (10 * r + c) / 10 = r by omega, show (10 * r + c) % 10 = c by omega, putE_2, if_neg t0]; decide
  · by_cases z : E (j / 10) (j % 10) = -2
    · rw [if_pos z] at hj; exact absurd rfl hj
    · have : putE E r c t (j / 10) (j % 10) ≠ -2 := by
        by_cases q1 : j / 10 = t ∧ j % 10 = oc c
        · rw [q1.1, q1.2, putE_1]; exact r2
        · by_cases q2 : j / 10 = r ∧ j % 10 = c
          · rw [q2.1, q2.2, putE_2]; exact t0
          · rw [putE_3 q1 q2]; exact z
      rw [if_neg this]; decide
theorem flN_lt {E : LE} {r c : Int} (r0 : 0 ≤ r) (r1 : r < 6) (c0 : 0 ≤ c) (c1 : c < 10) (he : E r c = -2) : flN E < 60 := by
  have h1 : flN E < cnN (fun _ => 1) 60 := by
    unfold flN
    refine cnN_strict (k := 10 * r + c) (by omega) (by omega) ?_ (by decide) (fun j j0 j1 hj => by decide)
    rw [show (10 * r + c) / 10 = r by omega, show (10 * r + c) % 10 = c by omega, if_pos he]
  have h2 := cnN_bound (fun _ => 1) 60
  omega
/-- tries and tables found are few -/
theorem fdA_fst {L : Int} {E : LE} {N : Int} {a : LA} : (fdA L E N a).1 = a.1 ∧ (fdA L E N a).2.1 = a.2.1 := by
  unfold fdA
  split <;> exact ⟨rfl, rfl⟩
