/-! LOOK: what it finds, what it changes, what CLOSE makes of it -/
theorem PF_wcong {X : Type} {F : X → Int → X → Prop} {w w' : Int → Int} {n : Nat} {x y : X} (hw : ∀ i : Nat, i < n → w i = w' i) (h : PF F w n x y) : PF F w' n x y := by
  induction n generalizing y with
  | zero => exact h
  | succ n ih =>
    obtain ⟨z, a, b⟩ := h
    exact ⟨z, ih (fun i hi => hw i (by omega)) a, by rw [← hw n (by omega)]; exact b⟩
theorem PF_cons {X : Type} {F : X → Int → X → Prop} {w w' : Int → Int} {n : Nat} {x z y : X} (hw : ∀ i : Nat, w ((i : Int) + 1) = w' i) (h0 : F x (w 0) z) (h : PF F w' n z y) : PF F w (n + 1) x y := by
  induction n generalizing y with
  | zero =>
    have e : z = y := h
    exact ⟨x, rfl, by rw [← e]; exact h0⟩
  | succ n ih =>
    obtain ⟨t, a, b⟩ := h
    refine ⟨t, ih a, ?_⟩
    have := hw n
    show F t (w ((n + 1 : Nat) : Int)) y
    rw [show ((n + 1 : Nat) : Int) = (n : Int) + 1 by omega, this]
    exact b
theorem PB_PF {X : Type} {F : X → Int → X → Prop} {w : Int → Int} {n m : Nat} {x y : X} (h : PF F (fun j => oc (w ((n : Int) - 1 - j))) m x y) : PB F w n m x y := by
  induction m generalizing y with
  | zero => exact h
  | succ m ih =>
    obtain ⟨z, a, b⟩ := h
    exact ⟨z, ih a, b⟩
theorem wf_succ {c : Int} {t : List Int} (i : Nat) : wf (c :: t) ((i : Int) + 1) = wf t i := by
  unfold wf
  rw [show ((i : Int) + 1).toNat = i + 1 by omega, show ((i : Int)).toNat = i by omega]
  rfl
theorem wf_zero {c : Int} {t : List Int} : wf (c :: t) 0 = c := rfl
theorem wf_mem {u : List Int} {i : Nat} (h : i < u.length) : wf u i ∈ u := by
  unfold wf
  rw [show ((i : Int)).toNat = i by omega, List.getD_eq_getElem?_getD, List.getElem?_eq_getElem h]
  exact List.getElem_mem h
theorem goF_spec {L : Int} {V : Int → Prop} {E : Int → Int → Int} (hT : TW L V E) : ∀ (u : List Int) (r : Int), V r → (∀ c, c ∈ u → 0 ≤ c ∧ c < L) → PF (arV L V E) (wf u) (goF E u r).2 r (goF E u r).1 ∧ V (goF E u r).1 ∧ (goF E u r).2 ≤ u.length ∧ ((goF E u r).2 = u.length ∨ E (goF E u r).1 (wf u (goF E u r).2) = -2)
  | [], r, hr, _ => ⟨rfl, hr, Nat.le_refl _, Or.inl rfl⟩
  | c :: t, r, hr, hu => by
    by_cases q : E r c = -2
    · have e : goF E (c :: t) r = (r, 0) := if_pos q
      rw [e]
      exact ⟨rfl, hr, Nat.zero_le _, Or.inr q⟩
    · have e : goF E (c :: t) r = ((goF E t (E r c)).1, (goF E t (E r c)).2 + 1) := if_neg q
      have hc := hu c (List.mem_cons_self ..)
      have hv := ((hT.2.2 r c hr hc.1 hc.2).resolve_left q).1
      obtain ⟨i1, i2, i3, i4⟩ := goF_spec hT t (E r c) hv (fun d hd => hu d (List.mem_cons_of_mem _ hd))
      rw [e]
      refine ⟨PF_cons (wf_succ (c := c) (t := t)) ⟨hr, hc.1, hc.2, rfl, q⟩ i1, i2, ?_, ?_⟩
      · show (goF E t (E r c)).2 + 1 ≤ t.length + 1
        omega
      · rcases i4 with i4 | i4
        · left; show (goF E t (E r c)).2 + 1 = t.length + 1; omega
        · right
          show E (goF E t (E r c)).1 (wf (c :: t) (((goF E t (E r c)).2 + 1 : Nat) : Int)) = -2
          rw [show (((goF E t (E r c)).2 + 1 : Nat) : Int) = ((goF E t (E r c)).2 : Int) + 1 by omega, wf_succ]
          exact i4
theorem bk_len {u : List Int} {k : Nat} : (bk u k).length = u.length - k := by simp [bk]
theorem wf_bk {u : List Int} {k i : Nat} (h : i < u.length - k) : wf (bk u k) i = oc (wf u ((u.length : Int) - 1 - i)) := by
  unfold wf
  rw [show ((i : Int)).toNat = i by omega, show ((u.length : Int) - 1 - i).toNat = u.length - 1 - i by omega]
  have h2 : i < (bk u k).length := by rw [bk_len]; exact h
  rw [List.getD_eq_getElem?_getD, List.getD_eq_getElem?_getD, List.getElem?_eq_getElem h2, List.getElem?_eq_getElem (show u.length - 1 - i < u.length by omega)]
  simp only [bk, List.getElem_map, List.getElem_reverse, List.getElem_drop, List.length_drop, Option.getD_some]
  congr 2
  omega
theorem bk_mem {L : Int} {u : List Int} {k : Nat} (hL : L % 2 = 0) (hu : ∀ c, c ∈ u → 0 ≤ c ∧ c < L) : ∀ c, c ∈ bk u k → 0 ≤ c ∧ c < L := by
  intro c hc
  simp only [bk, List.mem_map, List.mem_reverse] at hc
  obtain ⟨d, hd, rfl⟩ := hc
  have := hu d (List.mem_of_mem_drop hd)
  exact oc_in hL this.1 this.2
/-- what a LOOK finds -/
theorem look_spec {L : Int} {V : Int → Prop} {E : Int → Int → Int} (hL : L % 2 = 0) (hT : TW L V E) {u : List Int} {r : Int} (hr : V r) (hu : ∀ c, c ∈ u → 0 ≤ c ∧ c < L) :
    PF (arV L V E) (wf u) (lkp E u r).2 r (lkp E u r).1 ∧ V (lkp E u r).1 ∧ (lkp E u r).2 ≤ u.length ∧ ((lkp E u r).2 = u.length ∨ E (lkp E u r).1 (wf u (lkp E u r).2) = -2) ∧
    PB (arV L V E) (wf u) u.length (lkq E u r).2 r (lkq E u r).1 ∧ V (lkq E u r).1 ∧ (lkp E u r).2 + (lkq E u r).2 ≤ u.length ∧ ((lkp E u r).2 + (lkq E u r).2 = u.length ∨ E (lkq E u r).1 (oc (wf u ((u.length : Int) - 1 - (lkq E u r).2))) = -2) := by
  obtain ⟨a1, a2, a3, a4⟩ := goF_spec hT u r hr hu
  obtain ⟨b1, b2, b3, b4⟩ := goF_spec hT (bk u (lkp E u r).2) r hr (bk_mem hL hu)
  rw [bk_len] at b3 b4
  have h3 : (lkq E u r).2 ≤ u.length - (lkp E u r).2 := b3
  have h3' : (lkp E u r).2 ≤ u.length := a3
  refine ⟨a1, a2, a3, a4, PB_PF (PF_wcong (fun i hi => wf_bk ?_) b1), b2, by omega, ?_⟩
  · have : i < (lkq E u r).2 := hi
    omega
  · rcases b4 with b4 | b4
    · left
      have : (lkq E u r).2 = u.length - (lkp E u r).2 := b4
      omega
    · by_cases z : (lkp E u r).2 + (lkq E u r).2 = u.length
      · exact Or.inl z
      · right
        rw [← wf_bk (k := (lkp E u r).2) (by omega)]
        exact b4
theorem arV_no {L : Int} {V : Int → Prop} {E : Int → Int → Int} {x c : Int} (h : E x c = -2) : ¬ ∃ y, arV L V E x c y := by
  rintro ⟨y, -, -, -, h4, h5⟩
  exact h5 (h4.symm.trans h)
theorem look_NC {L : Int} {a : AT} (hL : L % 2 = 0) (hT : TW L (VV a) (aE a)) {u : List Int} {r : Int} (hr : VV a r) (hu : ∀ c, c ∈ u → 0 ≤ c ∧ c < L) (hn : ¬ chg a u r) : NC (arV L (VV a) (aE a)) (wf u) u.length r := by
  obtain ⟨a1, a2, a3, a4, b1, b2, b3, b4⟩ := look_spec hL hT hr hu
  refine ⟨_, _, _, _, a1, a4.imp id arV_no, b1, b3, b4.imp id arV_no, fun q => ?_, fun q => hn (Or.inr ?_)⟩
  · apply Classical.byContradiction
    intro z
    exact hn (Or.inl ⟨by unfold gap; omega, z⟩)
  · unfold gap; omega
/-- the two cells of a LOOK that puts -/
theorem look_one {L : Int} {a : AT} (hL : L % 2 = 0) (hT : TW L (VV a) (aE a)) {u : List Int} {r : Int} (hr : VV a r) (hu : ∀ c, c ∈ u → 0 ≤ c ∧ c < L) (hg : gap (aE a) u r = 1) :
    (lkp (aE a) u r).2 + (lkq (aE a) u r).2 + 1 = u.length ∧ 0 ≤ wf u (lkp (aE a) u r).2 ∧ wf u (lkp (aE a) u r).2 < L ∧ aE a (lkp (aE a) u r).1 (wf u (lkp (aE a) u r).2) = -2 ∧ aE a (lkq (aE a) u r).1 (oc (wf u (lkp (aE a) u r).2)) = -2 := by
  obtain ⟨a1, a2, a3, a4, b1, b2, b3, b4⟩ := look_spec hL hT hr hu
  unfold gap at hg
  have e : (lkp (aE a) u r).2 + (lkq (aE a) u r).2 + 1 = u.length := by omega
  have hm := hu _ (wf_mem (show (lkp (aE a) u r).2 < u.length by omega))
  refine ⟨e, hm.1, hm.2, a4.resolve_left (by omega), ?_⟩
  have := b4.resolve_left (by omega)
  rw [show (u.length : Int) - 1 - (lkq (aE a) u r).2 = ((lkp (aE a) u r).2 : Int) by omega] at this
  exact this
/-- the cell of a LOOK that wants a new row -/
theorem look_two {L : Int} {a : AT} (hL : L % 2 = 0) (hT : TW L (VV a) (aE a)) {u : List Int} {r : Int} (hr : VV a r) (hu : ∀ c, c ∈ u → 0 ≤ c ∧ c < L) (hg : 1 < gap (aE a) u r) :
    VV a (lkp (aE a) u r).1 ∧ (lkp (aE a) u r).2 < u.length ∧ 0 ≤ wf u (lkp (aE a) u r).2 ∧ wf u (lkp (aE a) u r).2 < L ∧ aE a (lkp (aE a) u r).1 (wf u (lkp (aE a) u r).2) = -2 := by
  obtain ⟨a1, a2, a3, a4, b1, b2, b3, b4⟩ := look_spec hL hT hr hu
  unfold gap at hg
  have hm := hu _ (wf_mem (show (lkp (aE a) u r).2 < u.length by omega))
  exact ⟨a2, by omega, hm.1, hm.2, a4.resolve_left (by omega)⟩
theorem lookA_two {L : Int} {a : AT} {u : List Int} {r : Int} (hg : 1 < gap (aE a) u r) : lookA L a u r = a := by
  unfold lookA
  rw [if_neg (by omega), if_neg (by omega)]
theorem lookA_same {L : Int} {a : AT} {u : List Int} {r : Int} (h : ¬ chg a u r) : lookA L a u r = a := by
  unfold lookA
  split
  · rename_i q
    rw [if_pos]
    apply Classical.byContradiction
    intro z
    exact h (Or.inl ⟨q, z⟩)
  · rw [if_neg (fun z => h (Or.inr z))]
/-- that a QUARREL comes to something, where a LOOK asks for it -/
def hasQ (L : Int) (a : AT) (x y : Int) : Prop := ∃ (v : Int → Int) (e : Int → Int → Int), QR L (VV a) (aE a) x y (fun r => v r ≠ 0) e
theorem quA_WT {L Q : Int} {a : AT} {x y : Int} (hL : L % 2 = 0) (h : WT L Q a) (hq : hasQ L a x y) : WT L Q (quA L a x y) := by
  obtain ⟨v, e, q⟩ := hq
  rw [quA_eq h.1 q]
  obtain ⟨ρ, h1, h2, h3, h4, h5⟩ := id q
  exact WT_mel hL h ρ h1 h2 h4 (QR_TW hL h.1 q)
theorem look_WT {L Q : Int} {a : AT} (hL : L % 2 = 0) (h : WT L Q a) {u : List Int} {r : Int} (hr : VV a r) (hu : ∀ c, c ∈ u → 0 ≤ c ∧ c < L) (hq : gap (aE a) u r = 0 → (lkp (aE a) u r).1 ≠ (lkq (aE a) u r).1 → hasQ L a (lkp (aE a) u r).1 (lkq (aE a) u r).1) : WT L Q (lookA L a u r) := by
  unfold lookA
  split
  · rename_i g
    split
    · exact h
    · rename_i n
      exact quA_WT hL h (hq g n)
  · split
    · rename_i g
      obtain ⟨o1, o2, o3, o4, o5⟩ := look_one hL h.1 hr hu g
      obtain ⟨a1, a2, a3, a4, b1, b2, b3, b4⟩ := look_spec hL h.1 hr hu
      exact WT_put hL h a2 b2 o2 o3 o4 o5
    · exact h
/-- a comes of a0 by what must be -/
def CPx (L : Int) (W U : List (List Int)) (a0 a : AT) : Prop := (∃ ρ, CP L (Wof W) (Wof U) (VV a0) (aE a0) ρ (VV a) (aE a)) ∧ a = mel L a0 (aV a) (aE a)
theorem CPx_refl {L Q : Int} {W U : List (List Int)} {a : AT} (h : WT L Q a) : CPx L W U a a := by
  refine ⟨⟨_, CP_refl⟩, ?_⟩
  obtain ⟨h1, h2, h3, h4, -⟩ := h
  have e1 : b1 (aV a) = aV a := by
    funext x
    unfold b1
    split
    · rename_i q; exact (h2 x q).1.symm
    · rename_i q; exact (Classical.byContradiction (fun z => q z) : aV a x = 0).symm
  have e2 : kE L (aV a) (aE a) = aE a := by
    funext x c
    unfold kE
    split
    · rfl
    · rename_i q; exact (h3 x c q).symm
  have e3 : cD (aV a) (aD a) = aD a := by
    funext x
    unfold cD
    split
    · rename_i q; exact (h4 x q.2).1.symm
    · rename_i q
      apply Eq.symm
      apply Classical.byContradiction
      intro z
      exact q ⟨(h4 x z).2, z⟩
  have e4 : melS (aS a) (cnN (aV a) (aN a) - cnN (aV a) (aN a)) = aS a := by
    funext j
    unfold melS
    split
    · rename_i q; rw [q]; omega
    · split
      · rename_i q; rw [q]; omega
      · split
        · rename_i q; rw [q]; omega
        · rfl
  unfold mel
  rw [e1, e2, e3, e4]
  rfl
theorem mel_id {L Q : Int} {a : AT} (h : WT L Q a) : mel L a (aV a) (aE a) = a := (CPx_refl (W := []) (U := []) h).2.symm
theorem look_CP {L Q : Int} {W U : List (List Int)} {a0 a : AT} (hL : L % 2 = 0) (h0 : WT L Q a0) (h : WT L Q a) (hc : CPx L W U a0 a) {u : List Int} {r : Int} (hr : VV a r) (hu : ∀ c, c ∈ u → 0 ≤ c ∧ c < L) (hw : u ∈ W ∨ (u ∈ U ∧ r = 0)) (hq : gap (aE a) u r = 0 → (lkp (aE a) u r).1 ≠ (lkq (aE a) u r).1 → hasQ L a (lkp (aE a) u r).1 (lkq (aE a) u r).1) : CPx L W U a0 (lookA L a u r) := by
  obtain ⟨a1, a2, a3, a4, b1, b2, b3, b4⟩ := look_spec hL h.1 hr hu
  have hw' : (Wof W (wf u) u.length ∧ VV a r) ∨ (Wof U (wf u) u.length ∧ r = 0) := by
    rcases hw with hw | hw
    · exact Or.inl ⟨⟨u, hw, rfl, rfl⟩, hr⟩
    · exact Or.inr ⟨⟨u, hw.1, rfl, rfl⟩, hw.2⟩
  obtain ⟨⟨ρ, hp⟩, he⟩ := id hc
  unfold lookA
  split
  · rename_i g
    split
    · exact hc
    · rename_i n
      obtain ⟨v, e, q⟩ := hq g n
      have hm := look_eq (L := L) (Ws := Wof W) (Ss := Wof U) hw' a1 b1 (by unfold gap at g; omega)
      obtain ⟨ρ', -, q2, -⟩ := id q
      have hE : quA L a (lkp (aE a) u r).1 (lkq (aE a) u r).1 = mel L a v e := quA_eq h.1 q
      have q' : QR L (VV a) (aE a) (lkp (aE a) u r).1 (lkq (aE a) u r).1 (VV (mel L a v e)) (aE (mel L a v e)) := QR_cong (fun x => VV_mel.symm) (fun x c hx c0 c1 => (aE_mel hx c0 c1).symm) q
      rw [hE]
      refine ⟨CP_quarrel h0.1 h.1 hp q' hm, ?_⟩
      have e1 : mel L a v e = mel L a0 v e := by
        rw [he, mel_mel (fun x hx => ?_)]
        exact (q2 x hx).1
      rw [e1]
      exact mel_cong (fun x => b1_ne.symm) (fun x c hx c0 c1 => (if_pos ⟨hx, c0, c1⟩ : kE L v e x c = e x c).symm)
  · split
    · rename_i g
      obtain ⟨o1, o2, o3, o4, o5⟩ := look_one hL h.1 hr hu g
      have hm := look_put (L := L) (Ws := Wof W) (Ss := Wof U) hw' a1 b1 o1
      refine ⟨⟨ρ, CP_put h0.1 o2 o3 o4 o5 hp hm⟩, ?_⟩
      have hW := WT_put hL h a2 b2 o2 o3 o4 o5
      have e1 : mel L a (aV a) (putE (aE a) (lkp (aE a) u r).1 (wf u (lkp (aE a) u r).2) (lkq (aE a) u r).1) = putA a (lkp (aE a) u r).1 (wf u (lkp (aE a) u r).2) (lkq (aE a) u r).1 := mel_id hW
      rw [← e1]
      have e2 : ∀ v e, (∀ x, v x ≠ 0 → aV a x ≠ 0) → mel L a v e = mel L a0 v e := by
        intro v e hs
        rw [he, mel_mel (fun x hx => ?_)]
        exact hs x hx
      rw [e2 _ _ (fun _ z => z)]
      exact mel_cong (fun x => b1_ne.symm) (fun x c hx c0 c1 => (if_pos ⟨hx, c0, c1⟩ : kE L _ _ x c = _).symm)
    · exact hc
/-- CLOSE has ended -/
theorem close_end {L Q : Int} {W U : List (List Int)} {a0 a : AT} (hL : L % 2 = 0) (h0 : WT L Q a0) (h : WT L Q a) (hc : CPx L W U a0 a) (hW : ∀ u, u ∈ W → ∀ c, c ∈ u → 0 ≤ c ∧ c < L) (hU : ∀ u, u ∈ U → ∀ c, c ∈ u → 0 ≤ c ∧ c < L) (h1 : ∀ u, u ∈ W → ∀ r, VV a r → ¬ chg a u r) (h2 : ∀ u, u ∈ U → ¬ chg a u 0) : clA L W U a0 = a := by
  obtain ⟨⟨ρ, hp⟩, he⟩ := hc
  have good : ∀ u r, VV a r → (∀ c, c ∈ u → 0 ≤ c ∧ c < L) → ¬ chg a u r → Good (arV L (VV a) (aE a)) (wf u) u.length r := by
    intro u r hr hu hn
    refine NC_good hL (arV_det _ _ _) (arV_sym hL h.1) (fun i i0 i1 => ?_) (look_NC hL h.1 hr hu hn)
    have := hu _ (wf_mem (u := u) (i := i.toNat) (by omega))
    rw [show ((i.toNat : Nat) : Int) = i by omega] at this
    exact this
  have hf : Fit (VV a) (Wof W) (Wof U) (fun r => r) (arV L (VV a) (aE a)) := by
    refine ⟨?_, ?_⟩
    · rintro w n r ⟨u, hu, rfl, rfl⟩ hr
      exact good u r hr (hW u hu) (h1 u hu r hr)
    · rintro w n ⟨u, hu, rfl, rfl⟩
      exact good u 0 h.1.1 (hU u hu) (h2 u hu)
  rw [clA_eq (v := aV a) (e := aE a) hL h0.1 h.1 ⟨ρ, hp, hf⟩]
  exact he.symm
/-! how long CLOSE can go on -/
theorem cnN_strict {f g : Int → Int} {n : Nat} {k : Int} (h0 : 0 ≤ k) (h1 : k < n) (hf : f k = 0) (hg : g k ≠ 0) (h : ∀ j, 0 ≤ j → j < (n : Int) → f j ≠ 0 → g j ≠ 0) : cnN f n < cnN g n := by
  have a := cnN_lt (f := fun j => if j = k then 1 else f j) (g := f) (n := n) h0 h1 (by simp) hf (fun j _ _ z => by simp [z])
  have b := cnN_mono (f := fun j => if j = k then 1 else f j) (g := g) (n := n) (fun j j0 j1 z => by
    by_cases q : j = k
    · rw [q]; exact hg
    · rw [if_neg q] at z; exact h j j0 j1 z)
  omega
def emp (a : AT) : Nat := cnN (fun j => if aE a (j / 10) (j % 10) = -2 then 1 else 0) (10 * aN a)
def muA (a : AT) : Nat := cnN (aV a) (aN a) * 30000 + emp a
theorem emp_le {a : AT} : emp a ≤ 10 * aN a := cnN_bound _ _
theorem aN_le {L Q : Int} {a : AT} (h : WT L Q a) : aN a ≤ 2000 := by
  obtain ⟨-, -, -, -, h5, -⟩ := h
  unfold aN
  omega
theorem aN_eq {L Q : Int} {a : AT} (h : WT L Q a) : ((aN a : Nat) : Int) = aS a 0 := by
  obtain ⟨-, -, -, -, h5, -⟩ := h
  unfold aN
  omega
theorem quA_mu {L Q : Int} {a : AT} {x y : Int} (hL : L % 2 = 0) (h : WT L Q a) (hx : VV a x) (hy : VV a y) (hxy : x ≠ y) (hq : hasQ L a x y) : cnN (aV (quA L a x y)) (aN a) < cnN (aV a) (aN a) ∧ muA (quA L a x y) < muA a := by
  have hW := quA_WT hL h hq
  obtain ⟨v, e, q⟩ := hq
  rw [quA_eq h.1 q] at hW ⊢
  have hN : aN (mel L a v e) = aN a := rfl
  obtain ⟨ρ, -, q2, q3, -⟩ := q
  have hlt : ∃ z, VV a z ∧ ¬ v z ≠ 0 := by
    by_cases zx : v x ≠ 0
    · refine ⟨y, hy, fun zy => hxy ?_⟩
      rw [← (q2 x zx).2, ← (q2 y zy).2, q3]
    · exact ⟨x, hx, zx⟩
  obtain ⟨z, z1, z2⟩ := hlt
  have z0 := h.1.2.1 z z1
  have zN := (h.2.1 z z1).2
  have key : cnN (aV (mel L a v e)) (aN a) < cnN (aV a) (aN a) := by
    refine cnN_strict (k := z) z0 (by rw [aN_eq h]; exact zN) ?_ z1 (fun j _ _ q => (q2 j (b1_ne.mp q)).1)
    apply Classical.byContradiction
    intro w
    exact z2 (b1_ne.mp w)
  have hN2 := aN_le h
  have he := emp_le (a := mel L a v e)
  rw [hN] at he
  refine ⟨key, ?_⟩
  unfold muA
  rw [hN]
  omega
theorem look_mu {L Q : Int} {a : AT} (hL : L % 2 = 0) (hL10 : L ≤ 10) (h : WT L Q a) {u : List Int} {r : Int} (hr : VV a r) (hu : ∀ c, c ∈ u → 0 ≤ c ∧ c < L) (hc : chg a u r) (hq : gap (aE a) u r = 0 → (lkp (aE a) u r).1 ≠ (lkq (aE a) u r).1 → hasQ L a (lkp (aE a) u r).1 (lkq (aE a) u r).1) : muA (lookA L a u r) < muA a := by
  obtain ⟨a1, a2, a3, a4, b1, b2, b3, b4⟩ := look_spec hL h.1 hr hu
  unfold lookA
  rcases hc with ⟨g, n⟩ | g
  · rw [if_pos g, if_neg n]
    exact (quA_mu hL h a2 b2 n (hq g n)).2
  · rw [if_neg (by omega), if_pos g]
    obtain ⟨o1, o2, o3, o4, o5⟩ := look_one hL h.1 hr hu g
    obtain ⟨f, ef⟩ : ∃ f, f = (lkp (aE a) u r).1 := ⟨_, rfl⟩
    obtain ⟨b, eb⟩ : ∃ b, b = (lkq (aE a) u r).1 := ⟨_, rfl⟩
    obtain ⟨c, ec⟩ : ∃ c, c = wf u (lkp (aE a) u r).2 := ⟨_, rfl⟩
    rw [← ef, ← eb, ← ec]
    rw [← ef] at a2 o4
    rw [← eb] at b2 o5
    rw [← ec] at o2 o3 o4 o5
    have f0 := h.1.2.1 f a2
    have fN := (h.2.1 f a2).2
    have b0 := h.1.2.1 b b2
    have eN := aN_eq h
    have key : emp (putA a f c b) < emp a := by
      refine cnN_strict (k := 10 * f + c) (by omega) (by show 10 * f + c < ((10 * aN a : Nat) : Int); omega) ?_ ?_ (fun j _ _ q => ?_)
      · rw [if_neg]
        show ¬ putE (aE a) f c b ((10 * f + c) / 10) ((10 * f + c) % 10) = -2
        rw [show (10 * f + c) / 10 = f by omega, show (10 * f + c) % 10 = c by omega, putE_2]
        omega
      · rw [show (10 * f + c) / 10 = f by omega, show (10 * f + c) % 10 = c by omega, if_pos o4]
        decide
      · have q' : putE (aE a) f c b (j / 10) (j % 10) = -2 := by
          apply Classical.byContradiction
          intro z
          exact q (if_neg z)
        rw [if_pos]
        · decide
        · unfold putE at q'
          split at q'
          · omega
          · split at q'
            · omega
            · exact q'
    show cnN (aV a) (aN a) * 30000 + emp (putA a f c b) < _
    unfold muA
    omega
theorem WT_left {L Q : Int} {a : AT} (h : WT L Q a) : 1 ≤ aS a 1 ∧ aS a 1 ≤ aS a 0 := by
  have hN := aN_eq h
  obtain ⟨h1, h2, -, -, h5, h6, -⟩ := h
  have hb := cnN_bound (aV a) (aN a)
  have h0 := cnN_le (f := aV a) (m := 1) (n := aN a) (by omega)
  have h3 : cnN (aV a) 1 = 1 := by
    show 0 + (if aV a ((0 : Nat) : Int) ≠ 0 then 1 else 0) = 1
    have h4 : aV a ((0 : Nat) : Int) ≠ 0 := h1.1
    rw [if_pos h4]
  omega
