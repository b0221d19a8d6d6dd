/-! A TABLE AS ONE THING: the rows that are left, the cells, the rows that are done, the numbers of its state, the row at work -/
abbrev AT : Type := (Int → Int) × (Int → Int → Int) × (Int → Int) × (Int → Int) × Int
def aV (a : AT) : Int → Int := a.1
def aE (a : AT) : Int → Int → Int := a.2.1
def aD (a : AT) : Int → Int := a.2.2.1
def aS (a : AT) : Int → Int := a.2.2.2.1
def aM (a : AT) : Int := a.2.2.2.2
def VV (a : AT) : Int → Prop := fun x => aV a x ≠ 0
def aN (a : AT) : Nat := (aS a 0).toNat
def cV (N : Int) (lf : Int → Int) : Int → Int := fun x => if 0 ≤ x ∧ x < N ∧ lf x ≠ 0 then 1 else 0
def b1 (v : Int → Int) : Int → Int := fun x => if v x ≠ 0 then 1 else 0
def kE (L : Int) (v : Int → Int) (e : Int → Int → Int) : Int → Int → Int := fun r c => if v r ≠ 0 ∧ 0 ≤ c ∧ c < L then e r c else -2
def cD (v d : Int → Int) : Int → Int := fun r => if v r ≠ 0 ∧ d r ≠ 0 then 1 else 0
def cS (S : Int → Int) : Int → Int := fun k => if 0 ≤ k ∧ k < 11 then S k else 0
def mkA (L N : Int) (lf : Int → Int) (e : Int → Int → Int) (dn S : Int → Int) (m : Int) : AT := (cV N lf, kE L (cV N lf) e, cD (cV N lf) dn, cS S, m)
/-- the model's table -/
def atM (h : PH) : AT := mkA 10 (gI h pMo_state 0) (gI h pMo_isLeft) (c2 (gI h pMo_cells)) (gI h pMo_isDone) (gI h pMo_state) (gI h pMo 39)
theorem aS_atM {h : PH} {k : Int} (h0 : 0 ≤ k) (h1 : k < 11) : aS (atM h) k = gI h pMo_state k := if_pos ⟨h0, h1⟩
theorem aM_atM {h : PH} : aM (atM h) = gI h pMo 39 := rfl
theorem VV_atM {h : PH} {x : Int} : VV (atM h) x ↔ 0 ≤ x ∧ x < gI h pMo_state 0 ∧ gI h pMo_isLeft x ≠ 0 := by
  show (if 0 ≤ x ∧ x < gI h pMo_state 0 ∧ gI h pMo_isLeft x ≠ 0 then (1 : Int) else 0) ≠ 0 ↔ _
  split
  · rename_i q; exact ⟨fun _ => q, fun _ => by decide⟩
  · rename_i q; exact ⟨fun z => absurd rfl z, fun z => absurd z q⟩
theorem aE_atM {h : PH} {r c : Int} (hr : VV (atM h) r) (h0 : 0 ≤ c) (h1 : c < 10) : aE (atM h) r c = gI h pMo_cells (10 * r + c) := if_pos ⟨hr, h0, h1⟩
theorem aD_atM {h : PH} {r : Int} (hr : VV (atM h) r) : aD (atM h) r ≠ 0 ↔ gI h pMo_isDone r ≠ 0 := by
  show (if aV (atM h) r ≠ 0 ∧ gI h pMo_isDone r ≠ 0 then (1 : Int) else 0) ≠ 0 ↔ _
  split
  · rename_i q; exact ⟨fun _ => q.2, fun _ => by decide⟩
  · rename_i q; exact ⟨fun z => absurd rfl z, fun z => absurd ⟨hr, z⟩ q⟩
/-- which cells of the heap are the model's table's -/
def Tb (b : Nat) (j : Int) : Prop := b = pMo_cells ∨ b = pMo_isLeft ∨ b = pMo_isDone ∨ b = pMo_state ∨ b = pMo_name ∨ (b = pMo ∧ 34 ≤ j ∧ j ≤ 39)
/-- booleans are 0 or 1 -/
def BB (h : PH) : Prop := ∀ j, (gI h pMo_isLeft j = 0 ∨ gI h pMo_isLeft j = 1) ∧ (gI h pMo_isDone j = 0 ∨ gI h pMo_isDone j = 1)
theorem BB_of {h h' : PH} (e1 : gI h' pMo_isLeft = gI h pMo_isLeft) (e2 : gI h' pMo_isDone = gI h pMo_isDone) (b : BB h) : BB h' := by
  unfold BB
  rw [e1, e2]
  exact b
theorem BB_sI {h : PH} {b : Nat} {k v : Int} (h1 : b ≠ pMo_isLeft) (h2 : b ≠ pMo_isDone) (hb : BB h) : BB (sI h b k v) := by
  intro j
  rw [gI_sI, if_neg (fun z => h1 z.1.symm), gI_sI, if_neg (fun z => h2 z.1.symm)]
  exact hb j
/-- nothing changes but ints of P -/
def FrP (P : Nat → Int → Prop) (h h' : PH) : Prop := (∀ b j, ¬ P b j → gI h' b j = gI h b j) ∧ (∀ b j, gR h' b j = gR h b j) ∧ hN h' = hN h ∧ hC h' = hC h ∧ hZ h' = hZ h
abbrev Fr : PH → PH → Prop := FrP Tb
theorem FrP_refl (P : Nat → Int → Prop) (h : PH) : FrP P h h := ⟨fun _ _ _ => rfl, fun _ _ => rfl, rfl, rfl, rfl⟩
theorem FrP_trans {P : Nat → Int → Prop} {h h' h'' : PH} (a : FrP P h h') (b : FrP P h' h'') : FrP P h h'' := ⟨fun p j q => (b.1 p j q).trans (a.1 p j q), fun p j => (b.2.1 p j).trans (a.2.1 p j), b.2.2.1.trans a.2.2.1, b.2.2.2.1.trans a.2.2.2.1, b.2.2.2.2.trans a.2.2.2.2⟩
theorem FrP_mono {P P' : Nat → Int → Prop} {h h' : PH} (hP : ∀ b j, P b j → P' b j) (a : FrP P h h') : FrP P' h h' := ⟨fun b j q => a.1 b j (fun z => q (hP b j z)), a.2⟩
theorem FrP_sI {P : Nat → Int → Prop} {h h' : PH} {b : Nat} {k v : Int} (hb : P b k) (f : FrP P h h') : FrP P h (sI h' b k v) := by
  refine ⟨fun p j q => ?_, f.2.1, f.2.2.1, f.2.2.2.1, f.2.2.2.2⟩
  rw [gI_sI, if_neg, f.1 p j q]
  rintro ⟨rfl, rfl⟩
  exact q hb
theorem FrP_sA {P : Nat → Int → Prop} {h h' : PH} {b : Nat} {g : Int → Int} (hb : ∀ j, P b j) (f : FrP P h h') : FrP P h (sA h' b g) := by
  refine ⟨fun p j q => ?_, f.2.1, f.2.2.1, f.2.2.2.1, f.2.2.2.2⟩
  rw [gI_sA, if_neg, f.1 p j q]
  rintro rfl
  exact q (hb j)
theorem FrP_MW {P : Nat → Int → Prop} {h h' : PH} (f : FrP P h h') (w : MW h) : MW h' := by
  unfold MW at w ⊢
  simp only [f.2.1, f.2.2.1]
  exact w
theorem FrP_arr {P : Nat → Int → Prop} {h h' : PH} (f : FrP P h h') {b : Nat} (hb : ∀ j, ¬ P b j) : gI h' b = gI h b := funext fun j => f.1 b j (hb j)
theorem FrP_isAr {P : Nat → Int → Prop} {h h' : PH} (f : FrP P h h') {b n : Nat} (hb : isAr h b n) : isAr h' b n := by
  unfold isAr at hb ⊢
  rw [f.2.2.1]
  exact hb
theorem Fr_fld {h h' : PH} (f : Fr h h') {j : Int} (hj : j < 34 ∨ 39 < j) : gI h' pMo j = gI h pMo j := f.1 pMo j (by unfold Tb; simp (decide := true) only [false_or, true_and]; omega)
theorem Fr_arr {h h' : PH} (f : Fr h h') {b : Nat} (hb : b ≠ pMo_cells ∧ b ≠ pMo_isLeft ∧ b ≠ pMo_isDone ∧ b ≠ pMo_state ∧ b ≠ pMo_name ∧ b ≠ pMo) : gI h' b = gI h b := by
  funext j
  exact f.1 b j (by unfold Tb; simp only [hb, false_and, or_self, not_false_eq_true])
/-- rows melt -/
def melS (S : Int → Int) (k : Int) : Int → Int := fun j => if j = 1 then S 1 - k else if j = 3 then S 3 + k else if j = 10 then S 10 + k else S j
def mel (L : Int) (a : AT) (v : Int → Int) (e : Int → Int → Int) : AT := (b1 v, kE L v e, cD v (aD a), melS (aS a) (cnN (aV a) (aN a) - cnN v (aN a)), aM a)
theorem b1_ne {v : Int → Int} {x : Int} : b1 v x ≠ 0 ↔ v x ≠ 0 := by
  unfold b1
  split
  · rename_i q; exact ⟨fun _ => q, fun _ => by decide⟩
  · rename_i q; exact ⟨fun z => absurd rfl z, fun z => absurd z q⟩
theorem b1_cong {v v' : Int → Int} (hv : ∀ x, v x ≠ 0 ↔ v' x ≠ 0) : b1 v = b1 v' := by
  funext x
  unfold b1
  simp only [hv]
theorem cE_cong {L : Int} {v v' : Int → Int} {e e' : Int → Int → Int} (hv : ∀ x, v x ≠ 0 ↔ v' x ≠ 0) (he : ∀ x c, v x ≠ 0 → 0 ≤ c → c < L → e x c = e' x c) : kE L v e = kE L v' e' := by
  funext x c
  unfold kE
  by_cases q : v x ≠ 0 ∧ 0 ≤ c ∧ c < L
  · rw [if_pos q, if_pos ⟨(hv x).mp q.1, q.2⟩, he x c q.1 q.2.1 q.2.2]
  · rw [if_neg q, if_neg (fun z => q ⟨(hv x).mpr z.1, z.2⟩)]
theorem cD_cong {v v' d d' : Int → Int} (hv : ∀ x, v x ≠ 0 ↔ v' x ≠ 0) (hd : ∀ x, v x ≠ 0 → (d x ≠ 0 ↔ d' x ≠ 0)) : cD v d = cD v' d' := by
  funext x
  unfold cD
  by_cases q : v x ≠ 0 ∧ d x ≠ 0
  · rw [if_pos q, if_pos ⟨(hv x).mp q.1, (hd x q.1).mp q.2⟩]
  · rw [if_neg q, if_neg (fun z => q ⟨(hv x).mpr z.1, (hd x ((hv x).mpr z.1)).mpr z.2⟩)]
theorem mel_cong {L : Int} {a : AT} {v v' : Int → Int} {e e' : Int → Int → Int} (hv : ∀ x, v x ≠ 0 ↔ v' x ≠ 0) (he : ∀ x c, v x ≠ 0 → 0 ≤ c → c < L → e x c = e' x c) : mel L a v e = mel L a v' e' := by
  unfold mel
  rw [b1_cong hv, cE_cong hv he, cD_cong (d := aD a) (d' := aD a) hv (fun _ _ => Iff.rfl), cnN_same (f := v) (g := v') (fun j _ _ => hv j)]
theorem mel_mel {L : Int} {a : AT} {v v' : Int → Int} {e e' : Int → Int → Int} (hs : ∀ x, v' x ≠ 0 → v x ≠ 0) : mel L (mel L a v e) v' e' = mel L a v' e' := by
  have h1 : aN (mel L a v e) = aN a := rfl
  have h2 : cD v' (aD (mel L a v e)) = cD v' (aD a) := by
    refine cD_cong (fun _ => Iff.rfl) (fun x hx => ?_)
    show cD v (aD a) x ≠ 0 ↔ _
    unfold cD
    split
    · rename_i q; exact ⟨fun _ => q.2, fun _ => by decide⟩
    · rename_i q; exact ⟨fun z => absurd rfl z, fun z => absurd ⟨hs x hx, z⟩ q⟩
  have h3 : cnN (aV (mel L a v e)) (aN a) = cnN v (aN a) := cnN_same (fun j _ _ => b1_ne)
  have h4 : ∀ k1 k2 : Int, melS (melS (aS a) k1) k2 = melS (aS a) (k1 + k2) := by
    intro k1 k2
    funext j
    unfold melS
    simp (decide := true) only [if_false, if_true]
    split
    · omega
    · split
      · omega
      · split
        · omega
        · rfl
  show (b1 v', kE L v' e', cD v' (aD (mel L a v e)), melS (melS (aS a) _) (cnN (aV (mel L a v e)) (aN (mel L a v e)) - cnN v' (aN (mel L a v e))), aM a) = _
  rw [h1, h2, h3, h4]
  unfold mel
  congr 5
  omega
theorem VV_mel {L : Int} {a : AT} {v : Int → Int} {e : Int → Int → Int} {x : Int} : VV (mel L a v e) x ↔ v x ≠ 0 := b1_ne
theorem aE_mel {L : Int} {a : AT} {v : Int → Int} {e : Int → Int → Int} {x c : Int} (hx : v x ≠ 0) (h0 : 0 ≤ c) (h1 : c < L) : aE (mel L a v e) x c = e x c := if_pos ⟨hx, h0, h1⟩
/-- a table on the same rows with the same cells -/
theorem TW_cong {L : Int} {V V' : Int → Prop} {E E' : Int → Int → Int} (hL : L % 2 = 0) (hv : ∀ x, V x ↔ V' x) (he : ∀ x c, V x → 0 ≤ c → c < L → E x c = E' x c) (h : TW L V E) : TW L V' E' := by
  refine ⟨(hv 0).mp h.1, fun r hr => h.2.1 r ((hv r).mpr hr), fun r c hr h0 h1 => ?_⟩
  have hr' := (hv r).mpr hr
  have o := oc_in hL h0 h1
  rw [← he r c hr' h0 h1]
  rcases h.2.2 r c hr' h0 h1 with q | ⟨q1, q2⟩
  · exact Or.inl q
  · refine Or.inr ⟨(hv _).mp q1, ?_⟩
    rw [← he _ _ q1 o.1 o.2]
    exact q2
theorem QR_cong {L : Int} {V V1 V1' : Int → Prop} {E E1 E1' : Int → Int → Int} {a b : Int} (hv : ∀ x, V1 x ↔ V1' x) (he : ∀ x c, V1 x → 0 ≤ c → c < L → E1 x c = E1' x c) (h : QR L V E a b V1 E1) : QR L V E a b V1' E1' := by
  obtain ⟨ρ, h1, h2, h3, h4, h5, h6⟩ := h
  refine ⟨ρ, fun r hr => ⟨(hv _).mp (h1 r hr).1, (h1 r hr).2⟩, fun r hr => h2 r ((hv r).mpr hr), h3, fun r c hr c0 c1 hn => ?_, fun r c hr c0 c1 hn => ?_, h6⟩
  · rw [← he _ c (h1 r hr).1 c0 c1]; exact h4 r c hr c0 c1 hn
  · have hr' := (hv r).mpr hr
    rw [← he r c hr' c0 c1] at hn ⊢
    exact h5 r c hr' c0 c1 hn
/-- .. the QUARREL of tables that are the same on their rows -/
theorem QR_cong2 {L : Int} {V V' V1 : Int → Prop} {E E' E1 : Int → Int → Int} {a b : Int} (hT : TW L V E) (hv : ∀ x, V x ↔ V' x) (he : ∀ x c, V x → 0 ≤ c → c < L → E x c = E' x c) (h : QR L V E a b V1 E1) : QR L V' E' a b V1 E1 := by
  obtain ⟨ρ, h1, h2, h3, h4, h5, h6⟩ := h
  refine ⟨ρ, fun r hr => h1 r ((hv r).mpr hr), fun r hr => ⟨(hv r).mp (h2 r hr).1, (h2 r hr).2⟩, h3, fun r c hr c0 c1 hn => ?_, fun r c hr c0 c1 hn => ?_, fun X φ F hD hH hab r hr => ?_⟩
  · have hr' := (hv r).mpr hr
    rw [← he r c hr' c0 c1] at hn ⊢
    exact h4 r c hr' c0 c1 hn
  · obtain ⟨r0, g1, g2, g3, g4⟩ := h5 r c hr c0 c1 hn
    refine ⟨r0, (hv r0).mp g1, g2, ?_, ?_⟩
    · rw [← he r0 c g1 c0 c1]; exact g3
    · rw [← he r0 c g1 c0 c1]; exact g4
  · refine h6 X φ F hD (fun x c hx c0 c1 hn => ?_) hab r ((hv r).mpr hr)
    have := hH x c ((hv x).mp hx) c0 c1
    rw [← he x c hx c0 c1] at this
    exact this hn
noncomputable def quA (L : Int) (a : AT) (x y : Int) : AT :=
  @dite _ (∃ p : (Int → Int) × (Int → Int → Int), QR L (VV a) (aE a) x y (fun r => p.1 r ≠ 0) p.2) (Classical.propDecidable _) (fun h => mel L a (Classical.choose h).1 (Classical.choose h).2) (fun _ => a)
theorem quA_eq {L : Int} {a : AT} {x y : Int} {v : Int → Int} {e : Int → Int → Int} (hT : TW L (VV a) (aE a)) (hq : QR L (VV a) (aE a) x y (fun r => v r ≠ 0) e) : quA L a x y = mel L a v e := by
  have h : ∃ p : (Int → Int) × (Int → Int → Int), QR L (VV a) (aE a) x y (fun r => p.1 r ≠ 0) p.2 := ⟨(v, e), hq⟩
  have hs := Classical.choose_spec h
  have u := QR_uniq hT hs hq
  unfold quA
  rw [dif_pos h]
  exact mel_cong u.1 u.2
/-- a word's letters as a map, and words as CLOSE knows them -/
def wf (u : List Int) : Int → Int := fun i => u.getD i.toNat 0
def Wof (W : List (List Int)) : Wds := fun w n => ∃ u, u ∈ W ∧ w = wf u ∧ n = u.length
noncomputable def clA (L : Int) (W U : List (List Int)) (a : AT) : AT :=
  @dite _ (∃ p : (Int → Int) × (Int → Int → Int), TW L (fun r => p.1 r ≠ 0) p.2 ∧ CR L (Wof W) (Wof U) (VV a) (aE a) (fun r => p.1 r ≠ 0) p.2) (Classical.propDecidable _) (fun h => mel L a (Classical.choose h).1 (Classical.choose h).2) (fun _ => a)
theorem clA_eq {L : Int} {W U : List (List Int)} {a : AT} {v : Int → Int} {e : Int → Int → Int} (hL : L % 2 = 0) (hT : TW L (VV a) (aE a)) (hT1 : TW L (fun r => v r ≠ 0) e) (hc : CR L (Wof W) (Wof U) (VV a) (aE a) (fun r => v r ≠ 0) e) : clA L W U a = mel L a v e := by
  have h : ∃ p : (Int → Int) × (Int → Int → Int), TW L (fun r => p.1 r ≠ 0) p.2 ∧ CR L (Wof W) (Wof U) (VV a) (aE a) (fun r => p.1 r ≠ 0) p.2 := ⟨(v, e), hT1, hc⟩
  have hs := Classical.choose_spec h
  have u := CR_uniq hL hT hs.1 hT1 hs.2 hc
  unfold clA
  rw [dif_pos h]
  exact mel_cong u.1 u.2
def putA (a : AT) (r c s : Int) : AT := (aV a, putE (aE a) r c s, aD a, aS a, aM a)
def newA (a : AT) (r c : Int) : AT := (fun x => if x = aS a 0 then 1 else aV a x, putE (aE a) r c (aS a 0), aD a, adS (aS a), aM a)
def setM (a : AT) (m : Int) : AT := (aV a, aE a, aD a, aS a, m)
/-- as far as a word leads: where, and how many letters -/
def goF (E : Int → Int → Int) : List Int → Int → Int × Nat
  | [], r => (r, 0)
  | c :: t, r => if E r c = -2 then (r, 0) else ((goF E t (E r c)).1, (goF E t (E r c)).2 + 1)
def bk (u : List Int) (k : Nat) : List Int := ((u.drop k).reverse).map oc
def lkp (E : Int → Int → Int) (u : List Int) (r : Int) : Int × Nat := goF E u r
def lkq (E : Int → Int → Int) (u : List Int) (r : Int) : Int × Nat := goF E (bk u (lkp E u r).2) r
def gap (E : Int → Int → Int) (u : List Int) (r : Int) : Nat := u.length - (lkp E u r).2 - (lkq E u r).2
noncomputable def lookA (L : Int) (a : AT) (u : List Int) (r : Int) : AT :=
  if gap (aE a) u r = 0 then (if (lkp (aE a) u r).1 = (lkq (aE a) u r).1 then a else quA L a (lkp (aE a) u r).1 (lkq (aE a) u r).1)
  else if gap (aE a) u r = 1 then putA a (lkp (aE a) u r).1 (wf u (lkp (aE a) u r).2) (lkq (aE a) u r).1 else a
/-- a LOOK that changes something -/
def chg (a : AT) (u : List Int) (r : Int) : Prop := (gap (aE a) u r = 0 ∧ (lkp (aE a) u r).1 ≠ (lkq (aE a) u r).1) ∨ gap (aE a) u r = 1
/-- each row is reached from row 0 -/
def Con (L : Int) (a : AT) : Prop := ∀ P : Int → Prop, P 0 → (∀ x c, P x → VV a x → 0 ≤ c → c < L → aE a x c ≠ -2 → P (aE a x c)) → ∀ r, VV a r → P r
/-- what a table keeps to -/
def WT (L Q : Int) (a : AT) : Prop :=
  TW L (VV a) (aE a) ∧ (∀ r, aV a r ≠ 0 → aV a r = 1 ∧ r < aS a 0) ∧ (∀ r c, ¬ (aV a r ≠ 0 ∧ 0 ≤ c ∧ c < L) → aE a r c = -2) ∧ (∀ r, aD a r ≠ 0 → aD a r = 1 ∧ aV a r ≠ 0) ∧
  (1 ≤ aS a 0 ∧ aS a 0 ≤ aS a 2 ∧ aS a 2 ≤ 2000) ∧ (aS a 1 = cnN (aV a) (aN a) ∧ aS a 1 ≤ aS a 9 ∧ aS a 9 ≤ 300) ∧ (aS a 3 = aS a 2 - aS a 1 ∧ 0 ≤ aS a 10 ∧ 0 ≤ aS a 7 ∧ aS a 7 + aS a 10 ≤ aS a 3 + Q) ∧
  (0 ≤ aS a 8 ∧ aS a 8 ≤ 4) ∧ (0 ≤ aS a 4 ∧ aS a 4 ≤ 300) ∧ (0 ≤ aS a 6 ∧ aS a 6 ≤ 2) ∧ 0 ≤ aS a 5 ∧ (-1 ≤ aM a ∧ aM a < aS a 0) ∧ (∀ k, ¬ (0 ≤ k ∧ k < 11) → aS a k = 0) ∧ Con L a
theorem cnN_mono {f g : Int → Int} {n : Nat} (h : ∀ j, 0 ≤ j → j < (n : Int) → f j ≠ 0 → g j ≠ 0) : cnN f n ≤ cnN g n := by
  induction n with
  | zero => exact Nat.le_refl _
  | succ n ih =>
    show cnN f n + (if f n ≠ 0 then 1 else 0) ≤ cnN g n + (if g n ≠ 0 then 1 else 0)
    have := ih (fun j a b => h j a (by omega))
    have q := h n (by omega) (by omega)
    by_cases z : f n ≠ 0
    · rw [if_pos z, if_pos (q z)]; omega
    · rw [if_neg z]; omega
theorem WT_mel {L Q : Int} {a : AT} {v : Int → Int} {e : Int → Int → Int} (hL : L % 2 = 0) (h : WT L Q a) (ρ : Int → Int) (hρ : ∀ r, VV a r → v (ρ r) ≠ 0 ∧ ρ r ≤ r) (hs' : ∀ x, v x ≠ 0 → VV a x ∧ ρ x = x) (he : ∀ r c, VV a r → 0 ≤ c → c < L → aE a r c ≠ -2 → e (ρ r) c = ρ (aE a r c)) (hT : TW L (fun r => v r ≠ 0) e) : WT L Q (mel L a v e) := by
  obtain ⟨h1, h2, h3, h4, h5, h6, h7, h8, h9, h10, h11, h12, h13, h14⟩ := h
  have hs : ∀ x, v x ≠ 0 → VV a x := fun x hx => (hs' x hx).1
  have hc : cnN v (aN a) ≤ cnN (aV a) (aN a) := cnN_mono (fun j _ _ q => hs j q)
  have hc1 : cnN (b1 v) (aN a) = cnN v (aN a) := cnN_same (fun j _ _ => b1_ne)
  refine ⟨TW_cong hL (fun x => b1_ne.symm) (fun x c hx c0 c1 => (if_pos ⟨hx, c0, c1⟩ : kE L v e x c = e x c).symm) hT, fun r hr => ?_, fun r c hn => ?_, fun r hr => ?_, h5, ?_, ?_, h8, h9, h10, h11, h12, fun k hk => ?_, ?_⟩
  · have q := b1_ne.mp hr
    exact ⟨if_pos q, (h2 r (hs r q)).2⟩
  · exact if_neg (fun z => hn ⟨b1_ne.mpr z.1, z.2⟩)
  · have q : v r ≠ 0 ∧ aD a r ≠ 0 := by
      apply Classical.byContradiction
      intro z
      exact hr (if_neg z)
    exact ⟨if_pos q, b1_ne.mpr q.1⟩
  · show aS a 1 - (cnN (aV a) (aN a) - cnN v (aN a)) = cnN (b1 v) (aN a) ∧ aS a 1 - (cnN (aV a) (aN a) - cnN v (aN a)) ≤ aS a 9 ∧ aS a 9 ≤ 300
    rw [hc1]
    omega
  · show aS a 3 + (cnN (aV a) (aN a) - cnN v (aN a)) = aS a 2 - (aS a 1 - (cnN (aV a) (aN a) - cnN v (aN a))) ∧ 0 ≤ aS a 10 + ((cnN (aV a) (aN a) : Int) - cnN v (aN a)) ∧ 0 ≤ aS a 7 ∧ aS a 7 + (aS a 10 + (cnN (aV a) (aN a) - cnN v (aN a))) ≤ aS a 3 + (cnN (aV a) (aN a) - cnN v (aN a)) + Q
    omega
  · show melS _ _ k = 0
    unfold melS
    rw [if_neg (by omega), if_neg (by omega), if_neg (by omega)]
    exact h13 k hk
  · intro P hP0 hP r hr
    have z0 : ρ 0 = 0 := by
      have g1 := hρ 0 h1.1
      have g2 := h1.2.1 _ (hs _ g1.1)
      omega
    have key := h14 (fun x => P (ρ x)) (by show P (ρ 0); rw [z0]; exact hP0) (fun x c hx hv c0 c1 hn => by
      have g1 := he x c hv c0 c1 hn
      have g2 := ((h1.2.2 x c hv c0 c1).resolve_left hn).1
      have g3 := h1.2.1 _ (hs _ (hρ _ g2).1)
      have g4 : aE (mel L a v e) (ρ x) c = ρ (aE a x c) := by rw [aE_mel (hρ x hv).1 c0 c1, g1]
      have g5 := hP (ρ x) c hx (VV_mel.mpr (hρ x hv).1) c0 c1 (by rw [g4]; omega)
      rw [g4] at g5
      exact g5) r (hs r (VV_mel.mp hr))
    have g6 := (hs' r (VV_mel.mp hr)).2
    have key' : P (ρ r) := key
    rw [g6] at key'
    exact key'
theorem WT_put {L Q : Int} {a : AT} {f c b : Int} (hL : L % 2 = 0) (h : WT L Q a) (hf : VV a f) (hb : VV a b) (h0 : 0 ≤ c) (h1 : c < L) (e1 : aE a f c = -2) (e2 : aE a b (oc c) = -2) : WT L Q (putA a f c b) := by
  obtain ⟨g1, g2, g3, g4, g5, g6, g7, g8, g9, g10, g11, g12, g13, g14⟩ := h
  refine ⟨TW_put hL g1 hf hb h0 h1 e1 e2, g2, fun r d hn => ?_, g4, g5, g6, g7, g8, g9, g10, g11, g12, g13, fun P hP0 hP r hr => g14 P hP0 (fun x d hx hv d0 d1 hn => ?_) r hr⟩
  · show putE (aE a) f c b r d = -2
    have o := oc_in hL h0 h1
    rw [putE_3, g3 r d hn]
    · rintro ⟨rfl, rfl⟩; exact hn ⟨hb, o.1, o.2⟩
    · rintro ⟨rfl, rfl⟩; exact hn ⟨hf, h0, h1⟩
  · have e : aE (putA a f c b) x d = aE a x d := by
      show putE (aE a) f c b x d = aE a x d
      rw [putE_3]
      · rintro ⟨rfl, rfl⟩; exact hn e2
      · rintro ⟨rfl, rfl⟩; exact hn e1
    have := hP x d hx hv d0 d1 (by rw [e]; exact hn)
    rw [e] at this
    exact this
theorem WT_setM {L Q : Int} {a : AT} {m : Int} (h : WT L Q a) (h0 : -1 ≤ m) (h1 : m < aS a 0) : WT L Q (setM a m) := by
  obtain ⟨g1, g2, g3, g4, g5, g6, g7, g8, g9, g10, g11, g12, g13⟩ := h
  exact ⟨g1, g2, g3, g4, g5, g6, g7, g8, g9, g10, g11, ⟨h0, h1⟩, g13⟩
theorem cnN_cut {f : Int → Int} {n : Nat} {k : Int} (h0 : 0 ≤ k) (hk : k.toNat ≤ n) (h : ∀ j, k ≤ j → f j = 0) : cnN f n = cnN f k.toNat := by
  induction n with
  | zero => rw [show k.toNat = 0 by omega]
  | succ n ih =>
    by_cases e : k.toNat = n + 1
    · rw [e]
    · show cnN f n + (if f n ≠ 0 then 1 else 0) = _
      rw [ih (by omega), if_neg (by rw [h n (by omega)]; simp)]
      rfl
theorem WT_new {L Q : Int} {a : AT} {r c : Int} (hL : L % 2 = 0) (h : WT L Q a) (hr : VV a r) (h0 : 0 ≤ c) (h1 : c < L) (e1 : aE a r c = -2) (hp : aS a 1 < aS a 9) (hp2 : aS a 2 < 2000) : WT L Q (newA a r c) := by
  obtain ⟨g1, g2, g3, g4, g5, g6, g7, g8, g9, g10, g11, g12, g13, g14⟩ := h
  have o := oc_in hL h0 h1
  have hn0 : aV a (aS a 0) = 0 := by
    apply Classical.byContradiction
    intro z
    have := (g2 _ z).2
    omega
  have hrn : r ≠ aS a 0 := by rintro rfl; exact hr hn0
  have hv : ∀ x, VV (newA a r c) x ↔ (x = aS a 0 ∨ VV a x) := by
    intro x
    show (if x = aS a 0 then (1 : Int) else aV a x) ≠ 0 ↔ _
    split
    · rename_i q; exact ⟨fun _ => Or.inl q, fun _ => by decide⟩
    · rename_i q; exact ⟨fun z => Or.inr z, fun z => z.resolve_left q⟩
  have hvn := hv
  have hT0 : TW L (fun x => x = aS a 0 ∨ VV a x) (aE a) := by
    refine ⟨Or.inr g1.1, fun x hx => ?_, fun x d hx d0 d1 => ?_⟩
    · rcases hx with rfl | hx
      · omega
      · exact g1.2.1 x hx
    · rcases hx with rfl | hx
      · exact Or.inl (g3 _ d (fun z => z.1 hn0))
      · rcases g1.2.2 x d hx d0 d1 with q | ⟨q1, q2⟩
        · exact Or.inl q
        · exact Or.inr ⟨Or.inr q1, q2⟩
  have hT := TW_put (f := r) (c := c) (b := aS a 0) hL hT0 (Or.inr hr) (Or.inl rfl) h0 h1 e1 (g3 _ _ (fun z => z.1 hn0))
  have hcn : cnN (fun x => if x = aS a 0 then (1 : Int) else aV a x) (aN a + 1) = cnN (aV a) (aN a) + 1 := by
    show cnN _ (aN a) + (if (if ((aN a : Nat) : Int) = aS a 0 then (1 : Int) else aV a (aN a)) ≠ 0 then 1 else 0) = _
    have e : ((aN a : Nat) : Int) = aS a 0 := by unfold aN; omega
    rw [if_pos e, if_pos (by decide)]
    congr 1
    refine cnN_same (fun j j0 j1 => ?_)
    rw [if_neg (by omega)]
  have hN : aN (newA a r c) = aN a + 1 := by
    show (adS (aS a) 0).toNat = (aS a 0).toNat + 1
    unfold adS
    simp (decide := true) only [if_true]
    omega
  refine ⟨TW_cong hL (fun x => (hv x).symm) (fun _ _ _ _ _ => rfl) hT, fun x hx => ?_, fun x d hn => ?_, fun x hx => ⟨(g4 x hx).1, (hv x).mpr (Or.inr (g4 x hx).2)⟩, ?_, ?_, ?_, g8, ?_, g10, g11, ⟨g12.1, ?_⟩, fun k hk => ?_, ?_⟩
  · show (if x = aS a 0 then (1 : Int) else aV a x) = 1 ∧ x < aS a 0 + 1
    rcases (hv x).mp hx with rfl | q
    · exact ⟨if_pos rfl, by omega⟩
    · have := g2 x q
      refine ⟨?_, by omega⟩
      split
      · rfl
      · exact this.1
  · show putE (aE a) r c (aS a 0) x d = -2
    rw [putE_3]
    · refine g3 x d (fun z => hn ⟨(hv x).mpr (Or.inr z.1), z.2⟩)
    · rintro ⟨rfl, rfl⟩; exact hn ⟨(hv _).mpr (Or.inl rfl), o.1, o.2⟩
    · rintro ⟨rfl, rfl⟩; exact hn ⟨(hv _).mpr (Or.inr hr), h0, h1⟩
  · show 1 ≤ aS a 0 + 1 ∧ aS a 0 + 1 ≤ aS a 2 + 1 ∧ aS a 2 + 1 ≤ 2000
    omega
  · rw [hN]
    show aS a 1 + 1 = cnN (fun x => if x = aS a 0 then (1 : Int) else aV a x) (aN a + 1) ∧ aS a 1 + 1 ≤ aS a 9 ∧ aS a 9 ≤ 300
    rw [hcn]
    push_cast
    omega
  · show aS a 3 = aS a 2 + 1 - (aS a 1 + 1) ∧ 0 ≤ aS a 10 ∧ 0 ≤ aS a 7 ∧ aS a 7 + aS a 10 ≤ aS a 3 + Q
    omega
  · show 0 ≤ (if aS a 4 < aS a 1 + 1 then aS a 1 + 1 else aS a 4) ∧ (if aS a 4 < aS a 1 + 1 then aS a 1 + 1 else aS a 4) ≤ 300
    split <;> omega
  · show aM a < aS a 0 + 1
    omega
  · show adS (aS a) k = 0
    unfold adS
    rw [if_neg (by omega), if_neg (by omega), if_neg (by omega), if_neg (by omega)]
    exact g13 k hk
  · intro P hP0 hP x hx
    have old := g14 P hP0 (fun x d hx hv d0 d1 hn => by
      have e : aE (newA a r c) x d = aE a x d := by
        show putE (aE a) r c (aS a 0) x d = aE a x d
        rw [putE_3]
        · rintro ⟨rfl, rfl⟩; exact hv hn0
        · rintro ⟨rfl, rfl⟩; exact hn e1
      have := hP x d hx ((hvn x).mpr (Or.inr hv)) d0 d1 (by rw [e]; exact hn)
      rw [e] at this
      exact this)
    rcases (hv x).mp hx with rfl | q
    · have e : aE (newA a r c) r c = aS a 0 := putE_2
      have := hP r c (old r hr) ((hv r).mpr (Or.inr hr)) h0 h1 (by rw [e]; omega)
      rw [e] at this
      exact this
    · exact old x q
