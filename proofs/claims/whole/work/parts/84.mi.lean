/-! QUARREL in slots: rows that melt, one behind another -/
/-- the cells, without an arrow; with one -/
def dpC (C : Int → Int) (g c t : Int) : Int → Int := fun j => if j = 10 * t + oc c then -2 else if j = 10 * g + c then -2 else C j
def adC (C : Int → Int) (g c t : Int) : Int → Int := fun j => if j = 10 * t + oc c then g else if j = 10 * g + c then t else C j
/-- what is sure of two rows that must be one -/
def fcd (Nu C0 : Int → Int) (L x0 y0 x y : Int) : Prop := ∀ (X : Type) (φ : Int → X) (F : X → Int → X → Prop), Det F → (∀ s c, lfS Nu s → 0 ≤ c → c < L → C0 (10 * s + c) ≠ -2 → F (φ s) c (φ (C0 (10 * s + c)))) → φ x0 = φ y0 → φ x = φ y
def fcR (Nu C0 : Int → Int) (L x0 y0 : Int) (x c y : Int) : Prop := ∀ (X : Type) (φ : Int → X) (F : X → Int → X → Prop), Det F → (∀ s c, lfS Nu s → 0 ≤ c → c < L → C0 (10 * s + c) ≠ -2 → F (φ s) c (φ (C0 (10 * s + c)))) → φ x0 = φ y0 → F (φ x) c (φ y)
/-- rows and roots -/
def MIp (Nu P Me R : Int → Int) (m : Int) : Prop :=
  0 ≤ m ∧ (∀ i, 0 ≤ i → i < m → lfS Nu (Me i) ∧ P (Me i) ≠ Me i) ∧ (∀ i j, 0 ≤ i → i < j → j < m → Me i ≠ Me j) ∧ (∀ s, lfS Nu s → P s ≠ s → ∃ i, 0 ≤ i ∧ i < m ∧ Me i = s) ∧
  (∀ s, lfS Nu s → lfS Nu (P s)) ∧ (∀ i, 0 ≤ i → i < m → P (P (Me i)) = P (Me i) ∨ ∃ j, i < j ∧ j < m ∧ Me j = P (Me i)) ∧
  (∀ s, lfS Nu s → lfS Nu (R s) ∧ P (R s) = R s ∧ R (P s) = R s ∧ Nu (R s) ≤ Nu s ∧ (P s = s → R s = s)) ∧ (∀ s, 0 ≤ s → s < 300 → ¬ lfS Nu s → P s = s)
def MIc (Nu C0 C R : Int → Int) (L x0 y0 : Int) : Prop :=
  (∀ s c, lfS Nu s → 0 ≤ c → c < L → C (10 * s + c) = -2 ∨ (lfS Nu (C (10 * s + c)) ∧ C (10 * C (10 * s + c) + oc c) = s)) ∧
  (∀ s c, lfS Nu s → 0 ≤ c → c < L → C0 (10 * s + c) ≠ -2 → ∃ t, lfS Nu t ∧ R t = R s ∧ C (10 * t + c) ≠ -2 ∧ R (C (10 * t + c)) = R (C0 (10 * s + c))) ∧
  (∀ s c, lfS Nu s → 0 ≤ c → c < L → C (10 * s + c) ≠ -2 → ∃ t, lfS Nu t ∧ R t = R s ∧ C0 (10 * t + c) ≠ -2 ∧ R (C0 (10 * t + c)) = R (C (10 * s + c))) ∧
  (∀ s, lfS Nu s → fcd Nu C0 L x0 y0 (R s) s) ∧ (∀ s c, lfS Nu s → 0 ≤ c → c < L → C (10 * s + c) ≠ -2 → fcR Nu C0 L x0 y0 s c (C (10 * s + c)))
def upR (R : Int → Int) (x y : Int) : Int → Int := fun s => if R s = x then y else R s
/-- x, a root, goes under y -/
theorem MIp_uni {Nu P Me R : Int → Int} {m x y : Int} (h : MIp Nu P Me R m) (hx : lfS Nu x) (hy : lfS Nu y) (px : P x = x) (py : P y = y) (hlt : Nu y < Nu x) : MIp Nu (upI P x y) (upI Me m x) (upR R x y) (m + 1) := by
  obtain ⟨h1, h2, h3, h4, h5, h6, h7, h8⟩ := h
  have hne : x ≠ y := fun z => by rw [z] at hlt; omega
  have hxm : ∀ i, 0 ≤ i → i < m → Me i ≠ x := fun i i0 i1 z => (h2 i i0 i1).2 (by rw [z]; exact px)
  refine ⟨by omega, fun i i0 i1 => ?_, fun i j i0 ij j1 => ?_, fun s hs hp => ?_, fun s hs => ?_, fun i i0 i1 => ?_, fun s hs => ?_, fun s s0 s1 hs => ?_⟩
  · unfold upI
    by_cases e : i = m
    · rw [if_pos e, if_pos rfl]; exact ⟨hx, fun z => hne z.symm⟩
    · rw [if_neg e, if_neg (hxm i i0 (by omega))]; exact h2 i i0 (by omega)
  · unfold upI
    rw [if_neg (show i ≠ m by omega)]
    by_cases e : j = m
    · rw [if_pos e]; exact hxm i i0 (by omega)
    · rw [if_neg e]; exact h3 i j i0 ij (by omega)
  · unfold upI at hp ⊢
    by_cases e : s = x
    · exact ⟨m, by omega, by omega, by rw [if_pos rfl, e]⟩
    · rw [if_neg e] at hp
      obtain ⟨i, i0, i1, i2⟩ := h4 s hs hp
      exact ⟨i, i0, by omega, by rw [if_neg (by omega)]; exact i2⟩
  · unfold upI
    split
    · exact hy
    · exact h5 s hs
  · unfold upI
    by_cases e : i = m
    · rw [if_pos e, if_pos rfl, if_neg (fun z => hne z.symm)]
      exact Or.inl py
    · rw [if_neg e, if_neg (hxm i i0 (by omega))]
      by_cases z : P (Me i) = x
      · refine Or.inr ⟨m, by omega, by omega, ?_⟩
        rw [if_pos rfl, z]
      · rw [if_neg z]
        rcases h6 i i0 (by omega) with q | ⟨j, j0, j1, j2⟩
        · exact Or.inl q
        · exact Or.inr ⟨j, j0, by omega, by rw [if_neg (by omega)]; exact j2⟩
  · obtain ⟨a1, a2, a3, a4, a5⟩ := h7 s hs
    have ry : R y = y := (h7 y hy).2.2.2.2 py
    unfold upR upI
    by_cases z : R s = x
    · rw [if_pos z]
      refine ⟨hy, ?_, ?_, by rw [z] at a4; omega, fun q => ?_⟩
      · rw [if_neg (fun y' => hne y'.symm)]; exact py
      · by_cases e : s = x
        · rw [if_pos e, if_neg (by rw [ry]; exact fun y' => hne y'.symm), ry]
        · rw [if_neg e, a3, if_pos z]
      · by_cases e : s = x
        · rw [if_pos e] at q; exact q
        · rw [if_neg e] at q
          have := a5 q
          rw [z] at this
          exact absurd this.symm e
    · rw [if_neg z]
      refine ⟨a1, ?_, ?_, a4, fun q => ?_⟩
      · rw [if_neg z]; exact a2
      · have e : s ≠ x := fun e => z (by rw [e]; exact (h7 x hx).2.2.2.2 px)
        rw [if_neg e, a3, if_neg z]
      · have e : s ≠ x := fun e => z (by rw [e]; exact (h7 x hx).2.2.2.2 px)
        rw [if_neg e] at q
        exact a5 q
  · unfold upI
    rw [if_neg (fun e => hs (by rw [e]; exact hx))]
    exact h8 s s0 s1 hs
theorem upR_same {R : Int → Int} {x y s t : Int} (h : R s = R t) : upR R x y s = upR R x y t := by
  unfold upR; rw [h]
theorem MIc_uni {Nu C0 C R : Int → Int} {L x0 y0 x y : Int} (h : MIc Nu C0 C R L x0 y0) (hf : fcd Nu C0 L x0 y0 x y) : MIc Nu C0 C (upR R x y) L x0 y0 := by
  obtain ⟨h1, h2, h3, h4, h5⟩ := h
  refine ⟨h1, fun s c hs c0 c1 hn => ?_, fun s c hs c0 c1 hn => ?_, fun s hs X φ F hD hH he => ?_, h5⟩
  · obtain ⟨t, t1, t2, t3, t4⟩ := h2 s c hs c0 c1 hn
    exact ⟨t, t1, upR_same t2, t3, upR_same t4⟩
  · obtain ⟨t, t1, t2, t3, t4⟩ := h3 s c hs c0 c1 hn
    exact ⟨t, t1, upR_same t2, t3, upR_same t4⟩
  · have a := h4 s hs X φ F hD hH he
    have b := hf X φ F hD hH he
    unfold upR
    by_cases z : R s = x
    · rw [if_pos z, ← b, ← z]; exact a
    · rw [if_neg z]; exact a
/-- an arrow beside another of the same rows may go -/
theorem MIc_drop {Nu C0 C R : Int → Int} {L x0 y0 g c t g' : Int} (L2 : L % 2 = 0) (L10 : L ≤ 10) (h : MIc Nu C0 C R L x0 y0) (hg : lfS Nu g) (c0 : 0 ≤ c) (c1 : c < L) (ht : C (10 * g + c) = t) (hn : t ≠ -2) (hg' : lfS Nu g') (n1 : dpC C g c t (10 * g' + c) ≠ -2) (r1 : R g' = R g) (r2 : R (C (10 * g' + c)) = R t) : MIc Nu C0 (dpC C g c t) R L x0 y0 := by
  obtain ⟨h1, h2, h3, h4, h5⟩ := h
  have o := oc_in L2 c0 c1
  have t1 := (h1 g c hg c0 c1).resolve_left (by rw [ht]; exact hn)
  rw [ht] at t1
  have sub : ∀ j, dpC C g c t j ≠ -2 → dpC C g c t j = C j := by
    intro j hj
    unfold dpC at hj ⊢
    by_cases a : j = 10 * t + oc c
    · rw [if_pos a] at hj; exact absurd rfl hj
    · rw [if_neg a] at hj ⊢
      by_cases b : j = 10 * g + c
      · rw [if_pos b] at hj; exact absurd rfl hj
      · rw [if_neg b]
  have keep : ∀ s d, 0 ≤ d → d < L → ¬ (s = g ∧ d = c) → ¬ (s = t ∧ d = oc c) → dpC C g c t (10 * s + d) = C (10 * s + d) := by
    intro s d d0 d1 n1 n2
    unfold dpC
    rw [if_neg (by omega), if_neg (by omega)]
  have symD : ∀ s d, lfS Nu s → 0 ≤ d → d < L → dpC C g c t (10 * s + d) = -2 ∨ (lfS Nu (dpC C g c t (10 * s + d)) ∧ dpC C g c t (10 * dpC C g c t (10 * s + d) + oc d) = s) := by
    intro s d hs d0 d1
    by_cases z : dpC C g c t (10 * s + d) = -2
    · exact Or.inl z
    · have e := sub _ z
      have od := oc_in L2 d0 d1
      obtain ⟨q1, q2⟩ := (h1 s d hs d0 d1).resolve_left (by rw [← e]; exact z)
      rw [e]
      refine Or.inr ⟨q1, ?_⟩
      rw [keep _ _ od.1 od.2, q2]
      · rintro ⟨a1, a2⟩
        rw [a1, a2, ht] at q2
        have : d = oc c := by rw [← a2, oc_oc d0]
        apply z
        unfold dpC
        rw [if_pos (by rw [← q2, this])]
      · rintro ⟨a1, a2⟩
        have : d = c := oc_inj d0 c0 a2
        rw [a1, a2, t1.2] at q2
        apply z
        unfold dpC
        rw [if_neg (fun y => by have := q2; have := oc_ne c; rw [← q2] at y; omega), if_pos (by rw [← q2, this])]
  refine ⟨symD, fun s d hs d0 d1 hn' => ?_, fun s d hs d0 d1 hn' => ?_, h4, fun s d hs d0 d1 hn' => ?_⟩
  · obtain ⟨u, u1, u2, u3, u4⟩ := h2 s d hs d0 d1 hn'
    have e' := sub _ n1
    by_cases a : u = g ∧ d = c
    · rw [a.1] at u2
      rw [a.1, a.2, ht] at u4
      refine ⟨g', hg', by rw [r1]; exact u2, by rw [a.2]; exact n1, ?_⟩
      rw [a.2, e', r2, u4]
    · by_cases b : u = t ∧ d = oc c
      · have sy := (symD g' c hg' c0 c1).resolve_left n1
        rw [e'] at sy
        rw [b.1] at u2
        rw [b.1, b.2, t1.2] at u4
        refine ⟨C (10 * g' + c), sy.1, by rw [r2]; exact u2, ?_, ?_⟩
        · rw [b.2, sy.2]; have := hg'.1; omega
        · rw [b.2, sy.2, r1, u4]
      · have k := keep u d d0 d1 a b
        exact ⟨u, u1, u2, by rw [k]; exact u3, by rw [k]; exact u4⟩
  · have e := sub _ hn'
    rw [e] at hn' ⊢
    exact h3 s d hs d0 d1 hn'
  · have e := sub _ hn'
    rw [e] at hn' ⊢
    exact h5 s d hs d0 d1 hn'
/-- .. or be put between the roots -/
theorem MIc_link {Nu C0 C R : Int → Int} {L x0 y0 g c t : Int} (L2 : L % 2 = 0) (L10 : L ≤ 10) (h : MIc Nu C0 C R L x0 y0) (hR : ∀ s, lfS Nu s → lfS Nu (R s) ∧ R (R s) = R s) (hg : lfS Nu g) (c0 : 0 ≤ c) (c1 : c < L) (ht : C (10 * g + c) = t) (hn : t ≠ -2) (n1 : dpC C g c t (10 * R g + c) = -2) (n2 : dpC C g c t (10 * R t + oc c) = -2) : MIc Nu C0 (adC (dpC C g c t) (R g) c (R t)) R L x0 y0 := by
  obtain ⟨h1, h2, h3, h4, h5⟩ := id h
  have o := oc_in L2 c0 c1
  have t1 := (h1 g c hg c0 c1).resolve_left (by rw [ht]; exact hn)
  rw [ht] at t1
  obtain ⟨kg, kg2⟩ := hR g hg
  obtain ⟨kt, kt2⟩ := hR t t1.1
  have cc := oc_ne c
  have occ := oc_oc c0
  -- the two new cells, the two that went, the others
  have v1 : adC (dpC C g c t) (R g) c (R t) (10 * R t + oc c) = R g := if_pos rfl
  have v2 : adC (dpC C g c t) (R g) c (R t) (10 * R g + c) = R t := by
    unfold adC
    rw [if_neg (by omega), if_pos rfl]
  have v3 : ∀ s d, 0 ≤ d → d < L → ¬ (s = R g ∧ d = c) → ¬ (s = R t ∧ d = oc c) → adC (dpC C g c t) (R g) c (R t) (10 * s + d) = dpC C g c t (10 * s + d) := by
    intro s d d0 d1 a b
    unfold adC
    rw [if_neg (by omega), if_neg (by omega)]
  have sub : ∀ j, dpC C g c t j ≠ -2 → dpC C g c t j = C j := by
    intro j hj
    unfold dpC at hj ⊢
    by_cases a : j = 10 * t + oc c
    · rw [if_pos a] at hj; exact absurd rfl hj
    · rw [if_neg a] at hj ⊢
      by_cases b : j = 10 * g + c
      · rw [if_pos b] at hj; exact absurd rfl hj
      · rw [if_neg b]
  have keep : ∀ s d, 0 ≤ d → d < L → ¬ (s = g ∧ d = c) → ¬ (s = t ∧ d = oc c) → dpC C g c t (10 * s + d) = C (10 * s + d) := by
    intro s d d0 d1 n1 n2
    unfold dpC
    rw [if_neg (by omega), if_neg (by omega)]
  have symD : ∀ s d, lfS Nu s → 0 ≤ d → d < L → dpC C g c t (10 * s + d) ≠ -2 → lfS Nu (dpC C g c t (10 * s + d)) ∧ dpC C g c t (10 * dpC C g c t (10 * s + d) + oc d) = s := by
    intro s d hs d0 d1 z
    have e := sub _ z
    have od := oc_in L2 d0 d1
    obtain ⟨q1, q2⟩ := (h1 s d hs d0 d1).resolve_left (by rw [← e]; exact z)
    rw [e]
    refine ⟨q1, ?_⟩
    rw [keep _ _ od.1 od.2, q2]
    · rintro ⟨a1, a2⟩
      rw [a1, a2, ht] at q2
      have : d = oc c := by rw [← a2, oc_oc d0]
      apply z
      unfold dpC
      rw [if_pos (by rw [← q2, this])]
    · rintro ⟨a1, a2⟩
      have : d = c := oc_inj d0 c0 a2
      rw [a1, a2, t1.2] at q2
      apply z
      unfold dpC
      rw [if_neg (fun y => by rw [← q2] at y; omega), if_pos (by rw [← q2, this])]
  -- a cell of the new table
  have cases' : ∀ s d, 0 ≤ d → d < L → (s = R g ∧ d = c) ∨ (s = R t ∧ d = oc c) ∨ (¬ (s = R g ∧ d = c) ∧ ¬ (s = R t ∧ d = oc c)) := by
    intro s d _ _
    by_cases a : s = R g ∧ d = c
    · exact Or.inl a
    · by_cases b : s = R t ∧ d = oc c
      · exact Or.inr (Or.inl b)
      · exact Or.inr (Or.inr ⟨a, b⟩)
  have g0 := kg.1
  have t0 := kt.1
  refine ⟨fun s d hs d0 d1 => ?_, fun s d hs d0 d1 hn' => ?_, fun s d hs d0 d1 hn' => ?_, h4, fun s d hs d0 d1 hn' => ?_⟩
  · rcases cases' s d d0 d1 with ⟨rfl, rfl⟩ | ⟨rfl, rfl⟩ | ⟨a, b⟩
    · rw [v2]; exact Or.inr ⟨kt, v1⟩
    · rw [v1, occ]; exact Or.inr ⟨kg, v2⟩
    · rw [v3 s d d0 d1 a b]
      by_cases z : dpC C g c t (10 * s + d) = -2
      · exact Or.inl z
      · have od := oc_in L2 d0 d1
        obtain ⟨q1, q2⟩ := symD s d hs d0 d1 z
        refine Or.inr ⟨q1, ?_⟩
        rw [v3 _ _ od.1 od.2, q2]
        · rintro ⟨a1, a2⟩
          rw [a1, a2, n1] at q2
          have := hs.1; omega
        · rintro ⟨a1, a2⟩
          rw [a1, a2, n2] at q2
          have := hs.1; omega
  · obtain ⟨u, u1, u2, u3, u4⟩ := h2 s d hs d0 d1 hn'
    by_cases a : u = g ∧ d = c
    · rw [a.1] at u2
      rw [a.1, a.2, ht] at u4
      refine ⟨R g, kg, by rw [kg2]; exact u2, by rw [a.2, v2]; omega, by rw [a.2, v2, kt2, u4]⟩
    · by_cases b : u = t ∧ d = oc c
      · rw [b.1] at u2
        rw [b.1, b.2, t1.2] at u4
        refine ⟨R t, kt, by rw [kt2]; exact u2, by rw [b.2, v1]; omega, by rw [b.2, v1, kg2, u4]⟩
      · have k := keep u d d0 d1 a b
        have w : adC (dpC C g c t) (R g) c (R t) (10 * u + d) = C (10 * u + d) := by
          rw [v3 u d d0 d1, k]
          · rintro ⟨a1, a2⟩
            rw [a1, a2, n1] at k
            exact u3 (by rw [a1, a2, ← k])
          · rintro ⟨a1, a2⟩
            rw [a1, a2, n2] at k
            exact u3 (by rw [a1, a2, ← k])
        exact ⟨u, u1, u2, by rw [w]; exact u3, by rw [w]; exact u4⟩
  · rcases cases' s d d0 d1 with ⟨rfl, rfl⟩ | ⟨rfl, rfl⟩ | ⟨a, b⟩
    · obtain ⟨u, u1, u2, u3, u4⟩ := h3 g d hg d0 d1 (by rw [ht]; exact hn)
      exact ⟨u, u1, by rw [kg2]; exact u2, u3, by rw [v2, kt2, u4, ht]⟩
    · obtain ⟨u, u1, u2, u3, u4⟩ := h3 t (oc c) t1.1 d0 d1 (by rw [t1.2]; have := hg.1; omega)
      exact ⟨u, u1, by rw [kt2]; exact u2, u3, by rw [v1, kg2, u4, t1.2]⟩
    · rw [v3 s d d0 d1 a b] at hn' ⊢
      have e := sub _ hn'
      rw [e] at hn' ⊢
      exact h3 s d hs d0 d1 hn'
  · have ph : fcR Nu C0 L x0 y0 g c t := by
      have := h5 g c hg c0 c1 (by rw [ht]; exact hn)
      rw [ht] at this; exact this
    have ph2 : fcR Nu C0 L x0 y0 t (oc c) g := by
      have := h5 t (oc c) t1.1 o.1 o.2 (by rw [t1.2]; have := hg.1; omega)
      rw [t1.2] at this; exact this
    rcases cases' s d d0 d1 with ⟨rfl, rfl⟩ | ⟨rfl, rfl⟩ | ⟨a, b⟩
    · rw [v2]
      intro X φ F hD hH he
      rw [h4 g hg X φ F hD hH he, h4 t t1.1 X φ F hD hH he]
      exact ph X φ F hD hH he
    · rw [v1]
      intro X φ F hD hH he
      rw [h4 g hg X φ F hD hH he, h4 t t1.1 X φ F hD hH he]
      exact ph2 X φ F hD hH he
    · rw [v3 s d d0 d1 a b] at hn' ⊢
      have e := sub _ hn'
      rw [e] at hn' ⊢
      exact h5 s d hs d0 d1 hn'
