/-! FILL and STEP, as maps of tables -/
abbrev wkg (a : AT) : Prop := 0 ≤ aM a ∧ aV a (aM a) ≠ 0
abbrev hasP (a : AT) : Prop := aS a 1 < aS a 9 ∧ aS a 2 < 2000
noncomputable def seekA (L : Int) (W U : List (List Int)) (a : AT) : AT := if 0 < aS (clA L W U a) 10 then pkA (clA L W U a) else clA L W U a
def nwA (u : List Int) (a : AT) : AT := newA a (lkp (aE a) u (aM a)).1 (wf u (lkp (aE a) u (aM a)).2)
noncomputable def fillA (L : Int) (W U : List (List Int)) (u : List Int) : Nat → AT → AT × Int
  | 0, a => (a, 1)
  | k + 1, a =>
    if wkg a then
      if 1 < gap (aE a) u (aM a) then
        if hasP a then fillA L W U u k (nwA u a)
        else if aS a 8 ≠ 4 then (a, 0)
        else if wkg (seekA L W U a) then
          if 1 < gap (aE (seekA L W U a)) u (aM (seekA L W U a)) then
            if hasP (seekA L W U a) then fillA L W U u k (nwA u (seekA L W U a)) else (seekA L W U a, 0)
          else (lookA L (seekA L W U a) u (aM (seekA L W U a)), 1)
        else (seekA L W U a, 1)
      else (lookA L a u (aM a), 1)
    else (a, 1)
noncomputable def filA (L : Int) (W U : List (List Int)) (u : List Int) (a : AT) : AT × Int := fillA L W U u (2001 - aS a 2).toNat a
theorem aS_mel {L : Int} {a : AT} {v : Int → Int} {e : Int → Int → Int} {j : Int} (h1 : j ≠ 1) (h3 : j ≠ 3) (h10 : j ≠ 10) : aS (mel L a v e) j = aS a j := by
  show melS (aS a) _ j = aS a j
  unfold melS
  rw [if_neg h1, if_neg h3, if_neg h10]
theorem aM_clA {L : Int} {W U : List (List Int)} {a : AT} : aM (clA L W U a) = aM a := by
  unfold clA
  split
  · rfl
  · rfl
theorem aS_clA {L : Int} {W U : List (List Int)} {a : AT} {j : Int} (h1 : j ≠ 1) (h3 : j ≠ 3) (h10 : j ≠ 10) : aS (clA L W U a) j = aS a j := by
  unfold clA
  split
  · exact aS_mel h1 h3 h10
  · rfl
theorem aS_pkA {a : AT} {j : Int} (h0 : j ≠ 0) (h7 : j ≠ 7) (h10 : j ≠ 10) : aS (pkA a) j = aS a j := by
  show (if j = 0 then aS a 1 else if j = 7 then aS a 7 + 1 else if j = 10 then 0 else aS a j) = aS a j
  rw [if_neg h0, if_neg h7, if_neg h10]
theorem aS_seekA {L : Int} {W U : List (List Int)} {a : AT} {j : Int} (h0 : j ≠ 0) (h1 : j ≠ 1) (h3 : j ≠ 3) (h7 : j ≠ 7) (h10 : j ≠ 10) : aS (seekA L W U a) j = aS a j := by
  unfold seekA
  split
  · rw [aS_pkA h0 h7 h10, aS_clA h1 h3 h10]
  · exact aS_clA h1 h3 h10
theorem aS_new2 {a : AT} {r c : Int} : aS (newA a r c) 2 = aS a 2 + 1 := rfl
theorem filA_eq {L : Int} {W U : List (List Int)} {u : List Int} {a : AT} (h : aS a 2 ≤ 2000) : filA L W U u a =
    if wkg a then
      if 1 < gap (aE a) u (aM a) then
        if hasP a then filA L W U u (nwA u a)
        else if aS a 8 ≠ 4 then (a, 0)
        else if wkg (seekA L W U a) then
          if 1 < gap (aE (seekA L W U a)) u (aM (seekA L W U a)) then
            if hasP (seekA L W U a) then filA L W U u (nwA u (seekA L W U a)) else (seekA L W U a, 0)
          else (lookA L (seekA L W U a) u (aM (seekA L W U a)), 1)
        else (seekA L W U a, 1)
      else (lookA L a u (aM a), 1)
    else (a, 1) := by
  have e1 : filA L W U u a = fillA L W U u ((2000 - aS a 2).toNat + 1) a := by
    unfold filA
    congr 1
    omega
  have e2 : fillA L W U u (2000 - aS a 2).toNat (nwA u a) = filA L W U u (nwA u a) := by
    unfold filA
    congr 1
    have : aS (nwA u a) 2 = aS a 2 + 1 := rfl
    omega
  have e3 : fillA L W U u (2000 - aS a 2).toNat (nwA u (seekA L W U a)) = filA L W U u (nwA u (seekA L W U a)) := by
    unfold filA
    congr 1
    have : aS (nwA u (seekA L W U a)) 2 = aS (seekA L W U a) 2 + 1 := rfl
    rw [aS_seekA (by decide) (by decide) (by decide) (by decide) (by decide)] at this
    omega
  rw [e1]
  show (if wkg a then _ else _) = _
  rw [e2, e3]
noncomputable def fsA (L : Int) (W U : List (List Int)) : List (List Int) → AT → AT × Int
  | [], a => (a, 1)
  | u :: t, a => if (filA L W U u (setM a 0)).2 ≠ 0 then fsA L W U t (filA L W U u (setM a 0)).1 else ((filA L W U u (setM a 0)).1, 0)
noncomputable def fwA (L : Int) (W U : List (List Int)) : List (List Int) → AT → AT × Int
  | [], a => (a, 1)
  | u :: t, a => if (filA L W U u a).2 ≠ 0 then fwA L W U t (filA L W U u a).1 else ((filA L W U u a).1, 0)
noncomputable def fcA (L : Int) (W U : List (List Int)) : Nat → Int → AT → AT × Int
  | 0, _, a => (a, 1)
  | n + 1, c, a =>
    if wkg a ∧ aE a (aM a) c = -2 then
      if hasP a then fcA L W U n (c + 1) (newA a (aM a) c)
      else if aS a 8 ≠ 4 then (a, 0)
      else if wkg (seekA L W U a) ∧ aE (seekA L W U a) (aM (seekA L W U a)) c = -2 then
        if hasP (seekA L W U a) then fcA L W U n (c + 1) (newA (seekA L W U a) (aM (seekA L W U a)) c) else (seekA L W U a, 0)
      else fcA L W U n (c + 1) (seekA L W U a)
    else fcA L W U n (c + 1) a
/-- the first of n from x on that is not 0; x + n -/
def lsF (g : Int → Int) : Nat → Int → Int
  | 0, x => x
  | n + 1, x => if g x ≠ 0 then x else lsF g n (x + 1)
theorem lsF_le {g : Int → Int} : ∀ {n : Nat} {x : Int}, x ≤ lsF g n x ∧ lsF g n x ≤ x + n
  | 0, x => by show x ≤ x ∧ x ≤ x + ((0 : Nat) : Int); omega
  | n + 1, x => by
    show x ≤ (if g x ≠ 0 then x else lsF g n (x + 1)) ∧ (if g x ≠ 0 then x else lsF g n (x + 1)) ≤ x + ((n + 1 : Nat) : Int)
    have := lsF_le (g := g) (n := n) (x := x + 1)
    split <;> omega
/-- it is what one finds that goes up from x -/
theorem lsF_eq {g : Int → Int} : ∀ {n : Nat} {x y : Int}, x ≤ y → y ≤ x + n → (∀ j, x ≤ j → j < y → g j = 0) → (y < x + n → g y ≠ 0) → lsF g n x = y
  | 0, x, y, h0, h1, _, _ => by show x = y; omega
  | n + 1, x, y, h0, h1, h2, h3 => by
    show (if g x ≠ 0 then x else lsF g n (x + 1)) = y
    by_cases q : x = y
    · rw [q] at h3 ⊢
      rw [if_pos (h3 (by omega))]
    · rw [if_neg (fun z => z (h2 x (by omega) (by omega)))]
      exact lsF_eq (by omega) (by omega) (fun j a b => h2 j (by omega) b) (fun z => h3 (by omega))
theorem lsF_has {g : Int → Int} : ∀ {n : Nat} {x : Int}, lsF g n x < x + n → g (lsF g n x) ≠ 0
  | 0, x, h => by have : x < x + ((0 : Nat) : Int) := h; omega
  | n + 1, x, h => by
    by_cases q : g x ≠ 0
    · have e : lsF g (n + 1) x = x := if_pos q
      rw [e]; exact q
    · have e : lsF g (n + 1) x = lsF g n (x + 1) := if_neg q
      rw [e] at h ⊢
      exact lsF_has (by omega)
def ndA (a : AT) : Int := lsF (fun x => if aV a x ≠ 0 ∧ aD a x = 0 then 1 else 0) (aN a) 0
def mkD (a : AT) : AT := if wkg a then (aV a, aE a, fun x => if x = aM a then 1 else aD a x, aS a, aM a) else a
noncomputable def frA (L : Int) (W U : List (List Int)) (a : AT) : AT × Int :=
  if ndA a = aS a 0 then (a, 1)
  else if (fwA L W U W (setM a (ndA a))).2 = 0 then fwA L W U W (setM a (ndA a))
  else if (fcA L W U L.toNat 0 (fwA L W U W (setM a (ndA a))).1).2 = 0 then fcA L W U L.toNat 0 (fwA L W U W (setM a (ndA a))).1
  else (mkD (fcA L W U L.toNat 0 (fwA L W U W (setM a (ndA a))).1).1, 1)
def emA (L : Int) (a : AT) : Int := lsF (fun j => if aV a (j / 10) ≠ 0 ∧ j % 10 < L ∧ aE a (j / 10) (j % 10) = -2 then 1 else 0) (10 * aN a) 0
noncomputable def lsA (L : Int) (W U : List (List Int)) (a : AT) : AT × Int :=
  if emA L a = 10 * aS a 0 then (clA L W U a, 1)
  else if hasP a then (clA L W U (newA a (emA L a / 10) (emA L a % 10)), 1) else (a, 0)
/-- CLOSED -/
def clsd (L : Int) (W U : List (List Int)) (a : AT) : Prop := (∀ r c, VV a r → 0 ≤ c → c < L → aE a r c ≠ -2) ∧ (∀ u, u ∈ W → ∀ r, VV a r → goF (aE a) u r = (r, u.length)) ∧ ∀ u, u ∈ U → goF (aE a) u 0 = (0, u.length)
noncomputable def clI (L : Int) (W U : List (List Int)) (a : AT) : Int := @ite _ (clsd L W U a) (Classical.propDecidable _) 1 0
def setS (a : AT) (j v : Int) : AT := (aV a, aE a, aD a, fun k => if k = j then v else aS a k, aM a)
/-- a STEP's filling -/
noncomputable def stF (L : Int) (W U : List (List Int)) (a : AT) : AT × Int :=
  if aS a 5 = 1 then fsA L W U U a
  else if aS a 8 = 1 ∨ (aS a 8 = 3 ∧ (aS a 5 - 1) % 2 = 0) then lsA L W U a
  else frA L W U a
noncomputable def stG (L : Int) (W U : List (List Int)) (a : AT) : AT := if (stF L W U a).2 ≠ 0 ∧ 1 < aS a 5 ∧ aS a 8 = 2 then clA L W U (stF L W U a).1 else (stF L W U a).1
noncomputable def stE (L : Int) (W U : List (List Int)) (a : AT) : Int := if (stF L W U a).2 = 0 then 2 else clI L W U (stG L W U a)
noncomputable def stA (L : Int) (W U : List (List Int)) (a : AT) : AT :=
  if 0 < aS a 6 then a else setS (setM (stG L W U (setM (setS a 5 (aS a 5 + 1)) (-1))) (-1)) 6 (stE L W U (setM (setS a 5 (aS a 5 + 1)) (-1)))
noncomputable def runA (L : Int) (W U : List (List Int)) : Nat → AT → AT
  | 0, a => a
  | n + 1, a => if aS a 6 = 0 then runA L W U n (stA L W U a) else a
/-- what a word leads to, two ways told -/
theorem fwd_goF {L Q : Int} {h : PH} {g : Int → Int} {f : Int} (hW : WT L Q (atM h)) (hL : L ≤ 10) : ∀ {n : Nat} {r : Int}, VV (atM h) r → (∀ k : Nat, k < n → 0 ≤ g (f + k) ∧ g (f + k) < L) → fwd (gI h pMo_cells) g f n r = if (goF (aE (atM h)) (seg g f n) r).2 = n then (goF (aE (atM h)) (seg g f n) r).1 else -2 := by
  -- by the last letter
  have ap : ∀ (u : List Int) (c r : Int), goF (aE (atM h)) (u ++ [c]) r = if (goF (aE (atM h)) u r).2 = u.length then (if aE (atM h) (goF (aE (atM h)) u r).1 c = -2 then goF (aE (atM h)) u r else (aE (atM h) (goF (aE (atM h)) u r).1 c, u.length + 1)) else goF (aE (atM h)) u r := by
    intro u c
    induction u with
    | nil =>
      intro r
      show goF (aE (atM h)) [c] r = if (0 : Nat) = 0 then (if aE (atM h) r c = -2 then (r, 0) else (aE (atM h) r c, 0 + 1)) else (r, 0)
      rw [if_pos rfl]
      rfl
    | cons d t ih =>
      intro r
      by_cases q : aE (atM h) r d = -2
      · have e1 : goF (aE (atM h)) ((d :: t) ++ [c]) r = (r, 0) := if_pos q
        have e2 : goF (aE (atM h)) (d :: t) r = (r, 0) := if_pos q
        rw [e1, e2, if_neg (by show ¬ 0 = t.length + 1; omega)]
      · have e1 : goF (aE (atM h)) ((d :: t) ++ [c]) r = ((goF (aE (atM h)) (t ++ [c]) (aE (atM h) r d)).1, (goF (aE (atM h)) (t ++ [c]) (aE (atM h) r d)).2 + 1) := if_neg q
        have e2 : goF (aE (atM h)) (d :: t) r = ((goF (aE (atM h)) t (aE (atM h) r d)).1, (goF (aE (atM h)) t (aE (atM h) r d)).2 + 1) := if_neg q
        rw [e1, e2, ih]
        generalize goF (aE (atM h)) t (aE (atM h) r d) = p
        show ((if p.2 = t.length then (if aE (atM h) p.1 c = -2 then p else (aE (atM h) p.1 c, t.length + 1)) else p).1, (if p.2 = t.length then (if aE (atM h) p.1 c = -2 then p else (aE (atM h) p.1 c, t.length + 1)) else p).2 + 1) = if p.2 + 1 = t.length + 1 then (if aE (atM h) p.1 c = -2 then (p.1, p.2 + 1) else (aE (atM h) p.1 c, t.length + 1 + 1)) else (p.1, p.2 + 1)
        by_cases z : p.2 = t.length
        · by_cases z2 : aE (atM h) p.1 c = -2
          · simp [z, z2]
          · simp [z, z2]
        · simp [z]
  have sg : ∀ (n : Nat) (f : Int), seg g f (n + 1) = seg g f n ++ [g (f + n)] := by
    intro n
    induction n with
    | zero => intro f; show [g f] = [g (f + ((0 : Nat) : Int))]; congr 2; omega
    | succ n ih =>
      intro f
      show g f :: seg g (f + 1) (n + 1) = g f :: (seg g (f + 1) n ++ [g (f + ((n + 1 : Nat) : Int))])
      rw [ih (f + 1)]
      congr 4
      omega
  intro n
  induction n with
  | zero => intro r hr _; rfl
  | succ n ih =>
    intro r hr hl
    have ihn := ih hr (fun k hk => hl k (by omega))
    have hs := goF_spec hW.1 (seg g f n) r hr (seg_mem (fun k hk => hl k (by omega)))
    show (if fwd (gI h pMo_cells) g f n r = -2 then -2 else gI h pMo_cells (10 * fwd (gI h pMo_cells) g f n r + g (f + n))) = _
    rw [sg, ap, seg_len, ihn]
    have hc := hl n (by omega)
    by_cases z : (goF (aE (atM h)) (seg g f n) r).2 = n
    · have p0 := hW.1.2.1 _ hs.2.1
      rw [if_pos z, if_neg (by omega), if_pos z, ← aE_atM hs.2.1 hc.1 (by omega)]
      by_cases z2 : aE (atM h) (goF (aE (atM h)) (seg g f n) r).1 (g (f + n)) = -2
      · rw [if_pos z2, z2, if_neg (by omega)]
      · rw [if_neg z2, if_pos rfl]
    · rw [if_neg z, if_pos rfl, if_neg z, if_neg (by have := hs.2.2.1; rw [seg_len] at this; omega)]
