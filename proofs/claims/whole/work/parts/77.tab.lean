/-! THE COMPONENT'S TABLE: slots and numbers -/
def lfS (Nu : Int → Int) (s : Int) : Prop := 0 ≤ s ∧ s < 300 ∧ Nu s ≠ -1
/-- the numbers of the state -/
def TgS (F : Int → Int) (L : Int) (a : AT) : Prop := F 15 = aS a 0 ∧ F 12 = aS a 1 ∧ F 13 = aS a 2 ∧ F 14 = aS a 4 ∧ F 17 = aS a 5 ∧ F 18 = aS a 6 ∧ F 16 = aS a 7 ∧ F 10 = aS a 8 ∧ F 9 = aS a 9 ∧ (F 8 = 0 ∨ F 8 = 1) ∧ (aS a 6 = 0 → (F 8 ≠ 0 ↔ 0 < aS a 10)) ∧ F 11 = L
/-- the order of the slots, and the spare ones -/
def TgO (n : Int) (Nu Or Sp : Int → Int) : Prop := (∀ k, 0 ≤ k → k < n → 0 ≤ Or k ∧ Or k < 300 ∧ 0 ≤ Nu (Or k)) ∧ (∀ j k, 0 ≤ j → j < k → k < n → Nu (Or j) < Nu (Or k)) ∧ (∀ s, lfS Nu s → ∃ k, 0 ≤ k ∧ k < n ∧ Or k = s) ∧ (∀ k, 0 ≤ k → k < 300 - n → 0 ≤ Sp k ∧ Sp k < 300 ∧ Nu (Sp k) = -1) ∧ (∀ j k, 0 ≤ j → j < k → k < 300 - n → Sp j ≠ Sp k) ∧ Nu 0 = 0
/-- what cells and numbers say of the table -/
def TgE (C Nu Dn : Int → Int) (L : Int) (a : AT) : Prop := (∀ r, VV a r ↔ ∃ s, lfS Nu s ∧ Nu s = r) ∧ (∀ s c, lfS Nu s → 0 ≤ c → c < L → (C (10 * s + c) = -2 ∧ aE a (Nu s) c = -2) ∨ (lfS Nu (C (10 * s + c)) ∧ aE a (Nu s) c = Nu (C (10 * s + c)))) ∧ ∀ s, lfS Nu s → Dn s = aD a (Nu s)
def TgP (Pa Dn : Int → Int) : Prop := (∀ s, 0 ≤ s → s < 300 → Pa s = s) ∧ ∀ s, 0 ≤ s → s < 300 → Dn s = 0 ∨ Dn s = 1
def TaG (F C Nu Dn Or Sp Pa : Int → Int) (L : Int) (a : AT) : Prop := TgS F L a ∧ TgO (F 12) Nu Or Sp ∧ TgE C Nu Dn L a ∧ TgP Pa Dn
def TaR (h : PH) (L : Int) (a : AT) : Prop := TaG (gI h pTa) (gI h pTa_cells) (gI h pTa_numbers) (gI h pTa_done) (gI h pTa_order) (gI h pTa_spare) (gI h pTa_parents) L a
def TaK (h : PH) (L : Int) (a : AT) : Prop := TaG (gI h pKt) (gI h pKt_cells) (gI h pKt_numbers) (gI h pKt_done) (gI h pKt_order) (gI h pKt_spare) (gI h pKt_parents) L a
theorem TgO_num {n : Int} {Nu Or Sp : Int → Int} (h : TgO n Nu Or Sp) {s : Int} (hs : lfS Nu s) : 0 ≤ Nu s := by
  obtain ⟨k, k0, k1, rfl⟩ := h.2.2.1 s hs
  exact (h.1 k k0 k1).2.2
theorem TgO_lf {n : Int} {Nu Or Sp : Int → Int} (h : TgO n Nu Or Sp) {k : Int} (k0 : 0 ≤ k) (k1 : k < n) : lfS Nu (Or k) := by
  have := h.1 k k0 k1
  exact ⟨this.1, this.2.1, by omega⟩
theorem TgO_le {n : Int} {Nu Or Sp : Int → Int} (h : TgO n Nu Or Sp) {j k : Int} (j0 : 0 ≤ j) (j1 : j < n) (k0 : 0 ≤ k) (k1 : k < n) : Nu (Or j) < Nu (Or k) ↔ j < k := by
  constructor
  · intro q
    apply Classical.byContradiction
    intro z
    by_cases e : j = k
    · rw [e] at q; omega
    · have := h.2.1 k j k0 (by omega) j1
      omega
  · intro q
    exact h.2.1 j k j0 q k1
theorem TgO_inj {n : Int} {Nu Or Sp : Int → Int} (h : TgO n Nu Or Sp) {s t : Int} (hs : lfS Nu s) (ht : lfS Nu t) (e : Nu s = Nu t) : s = t := by
  obtain ⟨j, j0, j1, rfl⟩ := h.2.2.1 s hs
  obtain ⟨k, k0, k1, rfl⟩ := h.2.2.1 t ht
  have a := TgO_le h j0 j1 k0 k1
  have b := TgO_le h k0 k1 j0 j1
  have : j = k := by omega
  rw [this]
/-- how many rows there are ahead of one -/
theorem enum_cn {V : Int → Int} {g : Int → Int} {n : Int} (h0 : ∀ k, 0 ≤ k → k < n → 0 ≤ g k ∧ V (g k) ≠ 0) (h1 : ∀ j k, 0 ≤ j → j < k → k < n → g j < g k) (h2 : ∀ r, 0 ≤ r → V r ≠ 0 → ∃ k, 0 ≤ k ∧ k < n ∧ g k = r) : ∀ m : Nat, ∃ k, 0 ≤ k ∧ k ≤ max n 0 ∧ (cnN V m : Int) = k ∧ ∀ j, 0 ≤ j → j < n → (j < k ↔ g j < m) := by
  intro m
  induction m with
  | zero =>
    refine ⟨0, by omega, by omega, rfl, fun j j0 j1 => ?_⟩
    have := (h0 j j0 j1).1
    omega
  | succ m ih =>
    obtain ⟨k, k0, k1, k2, k3⟩ := ih
    by_cases q : V m ≠ 0
    · obtain ⟨i, i0, i1, i2⟩ := h2 m (by omega) q
      have e : i = k := by
        have a := k3 i i0 i1
        by_cases z : i < k
        · have := a.mp z; omega
        · by_cases y : i = k
          · exact y
          · exfalso
            have b := k3 k k0 (by omega)
            have c := h1 k i k0 (by omega) i1
            omega
      refine ⟨k + 1, by omega, by omega, by rw [cnN_succ q]; push_cast; omega, fun j j0 j1 => ?_⟩
      have a := k3 j j0 j1
      constructor
      · intro z
        by_cases y : j = k
        · rw [y, ← e, i2]; push_cast; omega
        · have := a.mp (by omega); push_cast; omega
      · intro z
        by_cases y : g j < m
        · have := a.mpr y; omega
        · have y2 : g j = m := by push_cast at z; omega
          by_cases x : j = i
          · omega
          · exfalso
            by_cases v : j < i
            · have := h1 j i j0 v i1; omega
            · have := h1 i j i0 (by omega) j1; omega
    · have q0 : V m = 0 := Classical.byContradiction q
      refine ⟨k, k0, k1, by rw [cnN_skip q0]; exact k2, fun j j0 j1 => ?_⟩
      rw [k3 j j0 j1]
      have hv := (h0 j j0 j1).2
      have hne : g j ≠ m := fun z => hv (by rw [z]; exact q0)
      push_cast
      omega
theorem enum_rk {V : Int → Int} {g : Int → Int} {n : Int} (h0 : ∀ k, 0 ≤ k → k < n → 0 ≤ g k ∧ V (g k) ≠ 0) (h1 : ∀ j k, 0 ≤ j → j < k → k < n → g j < g k) (h2 : ∀ r, 0 ≤ r → V r ≠ 0 → ∃ k, 0 ≤ k ∧ k < n ∧ g k = r) {k : Int} (k0 : 0 ≤ k) (k1 : k < n) : (cnN V (g k).toNat : Int) = k := by
  obtain ⟨i, i0, i1, i2, i3⟩ := enum_cn h0 h1 h2 (g k).toNat
  have := (h0 k k0 k1).1
  rw [i2]
  have a := i3 k k0 k1
  by_cases z : i < n
  · have b := i3 i i0 z
    by_cases y : i < k
    · have := h1 i k i0 y k1; omega
    · by_cases x : i = k
      · exact x
      · exfalso; omega
  · omega
theorem enum_all {V : Int → Int} {g : Int → Int} {n : Int} (hn : 0 ≤ n) (h0 : ∀ k, 0 ≤ k → k < n → 0 ≤ g k ∧ V (g k) ≠ 0) (h1 : ∀ j k, 0 ≤ j → j < k → k < n → g j < g k) (h2 : ∀ r, 0 ≤ r → V r ≠ 0 → ∃ k, 0 ≤ k ∧ k < n ∧ g k = r) {m : Nat} (hm : ∀ k, 0 ≤ k → k < n → g k < m) : (cnN V m : Int) = n := by
  obtain ⟨i, i0, i1, i2, i3⟩ := enum_cn h0 h1 h2 m
  rw [i2]
  by_cases z : i < n
  · have b := i3 i i0 z
    have := hm i i0 z
    omega
  · omega
theorem TaG_en {C Nu Dn Or Sp : Int → Int} {n L : Int} {a : AT} (ho : TgO n Nu Or Sp) (he : TgE C Nu Dn L a) : (∀ k, 0 ≤ k → k < n → 0 ≤ Nu (Or k) ∧ aV a (Nu (Or k)) ≠ 0) ∧ (∀ j k, 0 ≤ j → j < k → k < n → Nu (Or j) < Nu (Or k)) ∧ ∀ r, 0 ≤ r → aV a r ≠ 0 → ∃ k, 0 ≤ k ∧ k < n ∧ Nu (Or k) = r := by
  refine ⟨fun k k0 k1 => ⟨(ho.1 k k0 k1).2.2, (he.1 _).mpr ⟨_, TgO_lf ho k0 k1, rfl⟩⟩, ho.2.1, fun r _ hr => ?_⟩
  obtain ⟨s, s1, rfl⟩ := (he.1 r).mp hr
  obtain ⟨k, k0, k1, rfl⟩ := ho.2.2.1 s s1
  exact ⟨k, k0, k1, rfl⟩
/-- the row in place k is the one with k rows ahead of it -/
theorem TaG_rk {C Nu Dn Or Sp : Int → Int} {n L : Int} {a : AT} (ho : TgO n Nu Or Sp) (he : TgE C Nu Dn L a) {k : Int} (k0 : 0 ≤ k) (k1 : k < n) : (cnN (aV a) (Nu (Or k)).toNat : Int) = k := by
  obtain ⟨e1, e2, e3⟩ := TaG_en ho he
  exact enum_rk (g := fun k => Nu (Or k)) e1 e2 e3 k0 k1
