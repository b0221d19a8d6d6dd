/-! TABLES AS GRAPHS: what a QUARREL comes to, what CLOSE comes to; each is one thing alone -/
def TW (L : Int) (V : Int → Prop) (E : Int → Int → Int) : Prop := V 0 ∧ (∀ r, V r → 0 ≤ r) ∧ ∀ r c, V r → 0 ≤ c → c < L → E r c = -2 ∨ (V (E r c) ∧ E (E r c) (oc c) = r)
def Det {X : Type} (F : X → Int → X → Prop) : Prop := ∀ x c y z, F x c y → F x c z → y = z
def Sym {X : Type} (L : Int) (F : X → Int → X → Prop) : Prop := ∀ x c y, 0 ≤ c → c < L → F x c y → F y (oc c) x
/-- a map of the rows that takes cells to arrows -/
def Hm {X : Type} (L : Int) (V : Int → Prop) (E : Int → Int → Int) (φ : Int → X) (F : X → Int → X → Prop) : Prop := ∀ r c, V r → 0 ≤ c → c < L → E r c ≠ -2 → F (φ r) c (φ (E r c))
def arr (E : Int → Int → Int) : Int → Int → Int → Prop := fun x c y => E x c = y ∧ y ≠ -2
theorem arr_det (E : Int → Int → Int) : Det (arr E) := fun _ _ _ _ h1 h2 => h1.1.symm.trans h2.1
theorem oc_oc {c : Int} (h : 0 ≤ c) : oc (oc c) = c := by
  unfold oc
  split <;> split <;> omega
theorem oc_in {c L : Int} (hL : L % 2 = 0) (h0 : 0 ≤ c) (h1 : c < L) : 0 ≤ oc c ∧ oc c < L := by
  unfold oc
  split <;> omega
/-- (V', E') is what the QUARREL of a and b in (V, E) comes to -/
def QR (L : Int) (V : Int → Prop) (E : Int → Int → Int) (a b : Int) (V' : Int → Prop) (E' : Int → Int → Int) : Prop := ∃ ρ : Int → Int,
  (∀ r, V r → V' (ρ r) ∧ ρ r ≤ r) ∧ (∀ r, V' r → V r ∧ ρ r = r) ∧ ρ a = ρ b ∧
  (∀ r c, V r → 0 ≤ c → c < L → E r c ≠ -2 → E' (ρ r) c = ρ (E r c)) ∧
  (∀ r c, V' r → 0 ≤ c → c < L → E' r c ≠ -2 → ∃ r0, V r0 ∧ ρ r0 = r ∧ E r0 c ≠ -2 ∧ ρ (E r0 c) = E' r c) ∧
  ∀ (X : Type) (φ : Int → X) (F : X → Int → X → Prop), Det F → Hm L V E φ F → φ a = φ b → ∀ r, V r → φ (ρ r) = φ r
theorem QR_uniq {L : Int} {V : Int → Prop} {E : Int → Int → Int} {a b : Int} {V1 V2 : Int → Prop} {E1 E2 : Int → Int → Int} (hT : TW L V E) (h1 : QR L V E a b V1 E1) (h2 : QR L V E a b V2 E2) : (∀ r, V1 r ↔ V2 r) ∧ ∀ r c, V1 r → 0 ≤ c → c < L → E1 r c = E2 r c := by
  obtain ⟨ρ1, a1, b1, c1, d1, e1, f1⟩ := h1
  obtain ⟨ρ2, a2, b2, c2, d2, e2, f2⟩ := h2
  have pos : ∀ {V' : Int → Prop} {ρ : Int → Int}, (∀ r, V r → V' (ρ r) ∧ ρ r ≤ r) → (∀ r, V' r → V r ∧ ρ r = r) → ∀ r, V r → 0 ≤ ρ r := fun ha hb r hr => hT.2.1 _ (hb _ (ha r hr).1).1
  have cell : ∀ r c, V r → 0 ≤ c → c < L → E r c ≠ -2 → V (E r c) := fun r c hr h0 h1 h2 => ((hT.2.2 r c hr h0 h1).resolve_left h2).1
  have hm : ∀ {V' : Int → Prop} {E' : Int → Int → Int} {ρ : Int → Int}, (∀ r, V r → V' (ρ r) ∧ ρ r ≤ r) → (∀ r, V' r → V r ∧ ρ r = r) → (∀ r c, V r → 0 ≤ c → c < L → E r c ≠ -2 → E' (ρ r) c = ρ (E r c)) → Hm L V E ρ (arr E') := by
    intro V' E' ρ ha hb hd r c hr h0 h1 h2
    exact ⟨hd r c hr h0 h1 h2, by have := pos ha hb _ (cell r c hr h0 h1 h2); omega⟩
  have k12 := f1 Int ρ2 (arr E2) (arr_det E2) (hm a2 b2 d2) c2
  have k21 := f2 Int ρ1 (arr E1) (arr_det E1) (hm a1 b1 d1) c1
  have key : ∀ r, V r → ρ1 r = ρ2 r := by
    intro r hr
    have h3 := (b1 _ (a1 r hr).1).1
    have h4 := (b2 _ (a2 r hr).1).1
    have h5 := (a2 _ h3).2
    have h6 := (a1 _ h4).2
    rw [k12 r hr] at h5
    rw [k21 r hr] at h6
    omega
  have sub : ∀ {V' V'' : Int → Prop} {ρ ρ' : Int → Int}, (∀ r, V' r → V r ∧ ρ r = r) → (∀ r, V r → V'' (ρ' r) ∧ ρ' r ≤ r) → (∀ r, V r → ρ r = ρ' r) → ∀ r, V' r → V'' r := by
    intro V' V'' ρ ρ' hb ha hk r hr
    have h3 := hb r hr
    have h4 := (ha r h3.1).1
    rw [← hk r h3.1, h3.2] at h4
    exact h4
  have keys : ∀ r, V r → ρ2 r = ρ1 r := fun r hr => (key r hr).symm
  refine ⟨fun r => ⟨sub b1 a2 key r, sub b2 a1 keys r⟩, fun r c hr h0 h1 => ?_⟩
  have one : ∀ {V' V'' : Int → Prop} {E' E'' : Int → Int → Int} {ρ ρ' : Int → Int}, (∀ r c, V' r → 0 ≤ c → c < L → E' r c ≠ -2 → ∃ r0, V r0 ∧ ρ r0 = r ∧ E r0 c ≠ -2 ∧ ρ (E r0 c) = E' r c) → (∀ r c, V r → 0 ≤ c → c < L → E r c ≠ -2 → E'' (ρ' r) c = ρ' (E r c)) → (∀ r, V r → ρ r = ρ' r) → ∀ r, V' r → E' r c ≠ -2 → E'' r c = E' r c := by
    intro V' V'' E' E'' ρ ρ' he hd hk r hr hne
    obtain ⟨r0, g1, g2, g3, g4⟩ := he r c hr h0 h1 hne
    have g5 := hd r0 c g1 h0 h1 g3
    rw [← hk r0 g1, g2, ← hk _ (cell r0 c g1 h0 h1 g3), g4] at g5
    exact g5
  by_cases q : E1 r c = -2
  · by_cases q2 : E2 r c = -2
    · rw [q, q2]
    · exact one (V'' := V1) e2 d1 keys r (sub b1 a2 key r hr) q2
  · exact (one (V'' := V2) e1 d2 key r hr q).symm
/-- a quarrel leaves a table -/
theorem QR_TW {L : Int} {V : Int → Prop} {E : Int → Int → Int} {a b : Int} {V' : Int → Prop} {E' : Int → Int → Int} (hL : L % 2 = 0) (hT : TW L V E) (h : QR L V E a b V' E') : TW L V' E' := by
  obtain ⟨ρ, ha, hb, hab, hd, he, hf⟩ := h
  have cell : ∀ r c, V r → 0 ≤ c → c < L → E r c ≠ -2 → V (E r c) ∧ E (E r c) (oc c) = r := fun r c hr h0 h1 h2 => (hT.2.2 r c hr h0 h1).resolve_left h2
  refine ⟨?_, fun r hr => hT.2.1 r (hb r hr).1, fun r c hr h0 h1 => ?_⟩
  · have h3 := ha 0 hT.1
    have h4 := hT.2.1 _ (hb _ h3.1).1
    have : ρ 0 = 0 := by omega
    rw [this] at h3
    exact h3.1
  · by_cases q : E' r c = -2
    · exact Or.inl q
    · obtain ⟨r0, g1, g2, g3, g4⟩ := he r c hr h0 h1 q
      obtain ⟨g5, g6⟩ := cell r0 c g1 h0 h1 g3
      have oin := oc_in hL h0 h1
      have g7 : E (E r0 c) (oc c) ≠ -2 := by have := hT.2.1 r0 g1; omega
      have g8 := hd (E r0 c) (oc c) g5 oin.1 oin.2 g7
      rw [g6, g4, g2] at g8
      refine Or.inr ⟨?_, g8⟩
      rw [← g4]
      exact (ha _ g5).1
