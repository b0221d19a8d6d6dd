/-! THE LAW's cases -/
def lsL (i : Int) (v5 v6 : Option PV) : LSt := [some (.inr (.inl (some SC))), some (.inr (.inl (some pHo))), some (.inr (.inl (some pMo))), some (.inr (.inl (some pLong))), some (.inl i), v5, v6]
def CNt (k : Nat) (h : PH) : Prop := hC h ≤ 154 + 8 * k ∧ hZ h ≤ 90990 + 4819 * k
def LI (SL k : Nat) (ls : LSt) (h : PH) : Prop := ∃ v5 v6, ls = lsL (6 * (k : Int)) v5 v6 ∧ 6 * k ≤ SL ∧ SIM k h ∧ CNt k h
/-- where a case begins -/
def CS (SL k : Nat) (K : TK) (h : PH) : Prop := SIM (k : Int) h ∧ CNt k h ∧ 6 * k + 6 ≤ SL ∧ SL ≤ 3072 ∧ ∀ ls' h', LI SL (k + 1) ls' h' → K 23 ls' h'
theorem g_al1 {nx : TT} {K : TK} {R : TR} {st : List PV} {h : PH} {i : Int} {v5 v6 : Option PV} (x : nx K R (lsL i v5 v6) (.inr (.inl (some pHo)) :: st) h) : tt_al 1 nx K R (lsL i v5 v6) st h := x
theorem g_al2 {nx : TT} {K : TK} {R : TR} {st : List PV} {h : PH} {i : Int} {v5 v6 : Option PV} (x : nx K R (lsL i v5 v6) (.inr (.inl (some pMo)) :: st) h) : tt_al 2 nx K R (lsL i v5 v6) st h := x
theorem g_al3 {nx : TT} {K : TK} {R : TR} {st : List PV} {h : PH} {i : Int} {v5 v6 : Option PV} (x : nx K R (lsL i v5 v6) (.inr (.inl (some pLong)) :: st) h) : tt_al 3 nx K R (lsL i v5 v6) st h := x
theorem g_sd {xs : Nat → Int32} {SL : Nat} {a i : Int} {nx : TT} {K : TK} {R : TR} {st : List PV} {h : PH} {v5 v6 : Option PV} (i0 : 0 ≤ i) (a0 : 0 ≤ a) (a1 : a < 6) (ia : i + 6 ≤ SL) (sl : SL ≤ 3072) (x : nx K R (lsL i v5 v6) (.inl (xs (i + a).toNat).toInt :: st) h) : tt_al 0 (tt_il 4 (tt_ci a (tt_add (tt_sd xs SL nx)))) K R (lsL i v5 v6) st h :=
  ⟨⟨by omega, by omega⟩, rfl, by omega, by omega, x⟩
set_option maxRecDepth 16384 in
theorem g_br {xs : Nat → Int32} {SL lc lz k : Nat} {K : TK} {R : TR} {h0 h : PH} {v5 v6 : Option PV} (S : CS SL k K h0) (s : SIM ((k : Int) + 1) h) (c1 : hC h ≤ hC h0 + 8) (c2 : hZ h ≤ hZ h0 + 4819) : B_law_1221 xs SL lc lz K R (lsL (6 * (k : Int)) v5 v6) [] h := by
  obtain ⟨-, ⟨n1, n2⟩, i1, i2, hK⟩ := S
  have cn : CNt (k + 1) h := by
    unfold CNt
    constructor
    · omega
    · omega
  refine ⟨Nat.le_of_ble_eq_true rfl, ⟨by omega, by omega⟩, rfl, hK _ _ ⟨v5, v6, ?_, by omega, ?_, cn⟩⟩
  · show lsL (6 * (k : Int) + 6) v5 v6 = _
    rw [show 6 * (k : Int) + 6 = 6 * ((k + 1 : Nat) : Int) by omega]
  · rw [show ((k + 1 : Nat) : Int) = (k : Int) + 1 by omega]; exact s
theorem g_fin {xs : Nat → Int32} {SL lc lz k : Nat} {K : TK} {R : TR} {h0 h : PH} {v : Int} {v5 v6 : Option PV} (S : CS SL k K h0) (s : SIM ((k : Int) + 1) h) (c1 : hC h ≤ hC h0 + 8) (c2 : hZ h ≤ hZ h0 + 4819) : tt_ceq (B_law_1221 xs SL lc lz) (tt_ci 0 tt_zr) K R (lsL (6 * (k : Int)) v5 v6) [.inl v, .inl v] h :=
  ⟨fun _ => g_br S s c1 c2, fun y => absurd rfl y⟩
theorem g_kk {SL k : Nat} {K : TK} {h : PH} (S : CS SL k K h) : (k : Int) ≤ 600 ∧ (0 : Int) ≤ k ∧ (0 : Int) ≤ 6 * (k : Int) ∧ 6 * (k : Int) + 6 ≤ SL ∧ SL ≤ 3072 := by
  obtain ⟨-, -, i1, i2, -⟩ := S
  omega
theorem cs_208 {xs : Nat → Int32} {SL lc lz k : Nat} {K : TK} {R : TR} {h : PH} {v5 v6 : Option PV} (S : CS SL k K h) : B_law_208 xs SL lc lz K R (lsL (6 * (k : Int)) v5 v6) [] h := by
  obtain ⟨q1, q2, q3, q4, q5⟩ := g_kk S
  refine g_al1 ((g_sd (a := 1) q3 (by decide) (by decide) q4 q5 (g_sd (a := 2) q3 (by decide) (by decide) q4 q5 (g_sd (a := 3) q3 (by decide) (by decide) q4 q5 (g_sd (a := 4) q3 (by decide) (by decide) q4 q5 (g_sd (a := 5) q3 (by decide) (by decide) q4 q5 (?_)))))))
  refine ⟨Nat.le_of_ble_eq_true rfl, Nat.le_of_ble_eq_true rfl, co_Ho S.1.1.1, _, sim_feed S.1, fun r h1 hp c1 z1 => ?_⟩
  obtain ⟨v, rfl, m1, hp⟩ := hp
  refine g_al2 ((g_sd (a := 1) q3 (by decide) (by decide) q4 q5 (g_sd (a := 2) q3 (by decide) (by decide) q4 q5 (g_sd (a := 3) q3 (by decide) (by decide) q4 q5 (g_sd (a := 4) q3 (by decide) (by decide) q4 q5 (g_sd (a := 5) q3 (by decide) (by decide) q4 q5 (?_)))))))
  refine ⟨Nat.le_of_ble_eq_true rfl, Nat.le_of_ble_eq_true rfl, mo_O m1, _, hp, fun r2 h2 hq c2 z2 => ?_⟩
  obtain ⟨rfl, s2⟩ := hq
  have d1 : hC h1 = hC h := c1
  have d2 : hZ h1 = hZ h := z1
  have d3 : hC h2 = hC h1 := c2
  have d4 : hZ h2 = hZ h1 := z2
  exact g_fin S s2 (by omega) (by omega)
theorem cs_281 {xs : Nat → Int32} {SL lc lz k : Nat} {K : TK} {R : TR} {h : PH} {v5 v6 : Option PV} (S : CS SL k K h) : B_law_281 xs SL lc lz K R (lsL (6 * (k : Int)) v5 v6) [] h := by
  obtain ⟨q1, q2, q3, q4, q5⟩ := g_kk S
  refine g_al1 ((g_sd (a := 1) q3 (by decide) (by decide) q4 q5 (?_)))
  refine ⟨Nat.le_of_ble_eq_true rfl, Nat.le_of_ble_eq_true rfl, co_Ho S.1.1.1, _, sim_letters S.1, fun r h1 hp c1 z1 => ?_⟩
  obtain ⟨v, rfl, m1, hp⟩ := hp
  refine g_al2 ((g_sd (a := 1) q3 (by decide) (by decide) q4 q5 (?_)))
  refine ⟨Nat.le_of_ble_eq_true rfl, Nat.le_of_ble_eq_true rfl, mo_O m1, _, hp, fun r2 h2 hq c2 z2 => ?_⟩
  obtain ⟨rfl, s2⟩ := hq
  have d1 : hC h1 = hC h := c1
  have d2 : hZ h1 = hZ h := z1
  have d3 : hC h2 = hC h1 := c2
  have d4 : hZ h2 = hZ h1 := z2
  exact g_fin S s2 (by omega) (by omega)
theorem cs_306 {xs : Nat → Int32} {SL lc lz k : Nat} {K : TK} {R : TR} {h : PH} {v5 v6 : Option PV} (S : CS SL k K h) : B_law_306 xs SL lc lz K R (lsL (6 * (k : Int)) v5 v6) [] h := by
  obtain ⟨q1, q2, q3, q4, q5⟩ := g_kk S
  refine g_al1 ((g_sd (a := 1) q3 (by decide) (by decide) q4 q5 (?_)))
  refine ⟨Nat.le_of_ble_eq_true rfl, Nat.le_of_ble_eq_true rfl, co_Ho S.1.1.1, _, sim_word S.1, fun r h1 hp c1 z1 => ?_⟩
  obtain ⟨v, rfl, m1, hp⟩ := hp
  refine g_al2 ((g_sd (a := 1) q3 (by decide) (by decide) q4 q5 (?_)))
  refine ⟨Nat.le_of_ble_eq_true rfl, Nat.le_of_ble_eq_true rfl, mo_O m1, _, hp, fun r2 h2 hq c2 z2 => ?_⟩
  obtain ⟨rfl, s2⟩ := hq
  have d1 : hC h1 = hC h := c1
  have d2 : hZ h1 = hZ h := z1
  have d3 : hC h2 = hC h1 := c2
  have d4 : hZ h2 = hZ h1 := z2
  exact g_fin S s2 (by omega) (by omega)
theorem cs_331 {xs : Nat → Int32} {SL lc lz k : Nat} {K : TK} {R : TR} {h : PH} {v5 v6 : Option PV} (S : CS SL k K h) : B_law_331 xs SL lc lz K R (lsL (6 * (k : Int)) v5 v6) [] h := by
  obtain ⟨q1, q2, q3, q4, q5⟩ := g_kk S
  refine g_al1 ((g_sd (a := 1) q3 (by decide) (by decide) q4 q5 (?_)))
  refine ⟨Nat.le_of_ble_eq_true rfl, Nat.le_of_ble_eq_true rfl, co_Ho S.1.1.1, _, sim_sub S.1, fun r h1 hp c1 z1 => ?_⟩
  obtain ⟨v, rfl, m1, hp⟩ := hp
  refine g_al2 ((g_sd (a := 1) q3 (by decide) (by decide) q4 q5 (?_)))
  refine ⟨Nat.le_of_ble_eq_true rfl, Nat.le_of_ble_eq_true rfl, mo_O m1, _, hp, fun r2 h2 hq c2 z2 => ?_⟩
  obtain ⟨rfl, s2⟩ := hq
  have d1 : hC h1 = hC h := c1
  have d2 : hZ h1 = hZ h := z1
  have d3 : hC h2 = hC h1 := c2
  have d4 : hZ h2 = hZ h1 := z2
  exact g_fin S s2 (by omega) (by omega)
theorem cs_462 {xs : Nat → Int32} {SL lc lz k : Nat} {K : TK} {R : TR} {h : PH} {v5 v6 : Option PV} (S : CS SL k K h) : B_law_462 xs SL lc lz K R (lsL (6 * (k : Int)) v5 v6) [] h := by
  obtain ⟨q1, q2, q3, q4, q5⟩ := g_kk S
  refine g_al1 ((g_sd (a := 1) q3 (by decide) (by decide) q4 q5 (?_)))
  refine ⟨Nat.le_of_ble_eq_true rfl, Nat.le_of_ble_eq_true rfl, co_Ho S.1.1.1, _, sim_ask S.1, fun r h1 hp c1 z1 => ?_⟩
  obtain ⟨v, rfl, m1, hp⟩ := hp
  refine g_al2 ((g_sd (a := 1) q3 (by decide) (by decide) q4 q5 (?_)))
  refine ⟨Nat.le_of_ble_eq_true rfl, Nat.le_of_ble_eq_true rfl, mo_O m1, _, hp, fun r2 h2 hq c2 z2 => ?_⟩
  obtain ⟨rfl, s2⟩ := hq
  have d1 : hC h1 = hC h := c1
  have d2 : hZ h1 = hZ h := z1
  have d3 : hC h2 = hC h1 := c2
  have d4 : hZ h2 = hZ h1 := z2
  exact g_fin S s2 (by omega) (by omega)
theorem cs_487 {xs : Nat → Int32} {SL lc lz k : Nat} {K : TK} {R : TR} {h : PH} {v5 v6 : Option PV} (S : CS SL k K h) : B_law_487 xs SL lc lz K R (lsL (6 * (k : Int)) v5 v6) [] h := by
  obtain ⟨q1, q2, q3, q4, q5⟩ := g_kk S
  refine g_al1 ((?_))
  refine ⟨Nat.le_of_ble_eq_true rfl, Nat.le_of_ble_eq_true rfl, co_Ho S.1.1.1, _, sim_fault S.1, fun r h1 hp c1 z1 => ?_⟩
  obtain ⟨v, rfl, m1, hp⟩ := hp
  refine g_al2 ((?_))
  refine ⟨Nat.le_of_ble_eq_true rfl, Nat.le_of_ble_eq_true rfl, mo_O m1, _, hp, fun r2 h2 hq c2 z2 => ?_⟩
  obtain ⟨rfl, s2⟩ := hq
  have d1 : hC h1 = hC h := c1
  have d2 : hZ h1 = hZ h := z1
  have d3 : hC h2 = hC h1 := c2
  have d4 : hZ h2 = hZ h1 := z2
  exact g_fin S s2 (by omega) (by omega)
theorem cs_500 {xs : Nat → Int32} {SL lc lz k : Nat} {K : TK} {R : TR} {h : PH} {v5 v6 : Option PV} (S : CS SL k K h) : B_law_500 xs SL lc lz K R (lsL (6 * (k : Int)) v5 v6) [] h := by
  obtain ⟨q1, q2, q3, q4, q5⟩ := g_kk S
  refine g_al1 ((g_sd (a := 1) q3 (by decide) (by decide) q4 q5 (g_sd (a := 2) q3 (by decide) (by decide) q4 q5 (?_))))
  refine ⟨Nat.le_of_ble_eq_true rfl, Nat.le_of_ble_eq_true rfl, co_Ho S.1.1.1, _, sim_begin S.1 q2, fun r h1 hp c1 z1 => ?_⟩
  obtain ⟨v, rfl, m1, hp⟩ := hp
  refine g_al2 ((g_sd (a := 1) q3 (by decide) (by decide) q4 q5 (g_sd (a := 2) q3 (by decide) (by decide) q4 q5 (?_))))
  refine ⟨Nat.le_of_ble_eq_true rfl, Nat.le_of_ble_eq_true rfl, mo_O m1, _, hp, fun r2 h2 hq c2 z2 => ?_⟩
  obtain ⟨rfl, s2⟩ := hq
  have d1 : hC h1 = hC h := c1
  have d2 : hZ h1 = hZ h := z1
  have d3 : hC h2 = hC h1 := c2
  have d4 : hZ h2 = hZ h1 := z2
  exact g_fin S s2 (by omega) (by omega)
theorem cs_537 {xs : Nat → Int32} {SL lc lz k : Nat} {K : TK} {R : TR} {h : PH} {v5 v6 : Option PV} (S : CS SL k K h) : B_law_537 xs SL lc lz K R (lsL (6 * (k : Int)) v5 v6) [] h := by
  obtain ⟨q1, q2, q3, q4, q5⟩ := g_kk S
  refine g_al1 ((?_))
  refine ⟨Nat.le_of_ble_eq_true rfl, Nat.le_of_ble_eq_true rfl, co_Ho S.1.1.1, _, sim_step S.1 q1 q2, fun r h1 hp c1 z1 => ?_⟩
  obtain ⟨v, rfl, m1, hp⟩ := hp
  refine g_al2 ((?_))
  refine ⟨Nat.le_of_ble_eq_true rfl, Nat.le_of_ble_eq_true rfl, mo_O m1, _, hp, fun r2 h2 hq c2 z2 => ?_⟩
  obtain ⟨rfl, s2⟩ := hq
  have d1 : hC h1 = hC h := c1
  have d2 : hZ h1 = hZ h := z1
  have d3 : hC h2 = hC h1 := c2
  have d4 : hZ h2 = hZ h1 := z2
  exact g_fin S s2 (by omega) (by omega)
theorem cs_550 {xs : Nat → Int32} {SL lc lz k : Nat} {K : TK} {R : TR} {h : PH} {v5 v6 : Option PV} (S : CS SL k K h) : B_law_550 xs SL lc lz K R (lsL (6 * (k : Int)) v5 v6) [] h := by
  obtain ⟨q1, q2, q3, q4, q5⟩ := g_kk S
  refine g_al1 ((g_sd (a := 1) q3 (by decide) (by decide) q4 q5 (?_)))
  refine ⟨Nat.le_of_ble_eq_true rfl, Nat.le_of_ble_eq_true rfl, co_Ho S.1.1.1, _, sim_run S.1 q1 q2, fun r h1 hp c1 z1 => ?_⟩
  obtain ⟨v, rfl, m1, hp⟩ := hp
  refine g_al2 ((g_sd (a := 1) q3 (by decide) (by decide) q4 q5 (?_)))
  refine ⟨Nat.le_of_ble_eq_true rfl, Nat.le_of_ble_eq_true rfl, mo_O m1, _, hp, fun r2 h2 hq c2 z2 => ?_⟩
  obtain ⟨rfl, s2⟩ := hq
  have d1 : hC h1 = hC h := c1
  have d2 : hZ h1 = hZ h := z1
  have d3 : hC h2 = hC h1 := c2
  have d4 : hZ h2 = hZ h1 := z2
  exact g_fin S s2 (by omega) (by omega)
theorem cs_575 {xs : Nat → Int32} {SL lc lz k : Nat} {K : TK} {R : TR} {h : PH} {v5 v6 : Option PV} (S : CS SL k K h) : B_law_575 xs SL lc lz K R (lsL (6 * (k : Int)) v5 v6) [] h := by
  obtain ⟨q1, q2, q3, q4, q5⟩ := g_kk S
  refine g_al1 ((g_sd (a := 1) q3 (by decide) (by decide) q4 q5 (g_sd (a := 2) q3 (by decide) (by decide) q4 q5 (?_))))
  refine ⟨Nat.le_of_ble_eq_true rfl, Nat.le_of_ble_eq_true rfl, co_Ho S.1.1.1, _, sim_cell S.1, fun r h1 hp c1 z1 => ?_⟩
  obtain ⟨v, rfl, m1, hp⟩ := hp
  refine g_al2 ((g_sd (a := 1) q3 (by decide) (by decide) q4 q5 (g_sd (a := 2) q3 (by decide) (by decide) q4 q5 (?_))))
  refine ⟨Nat.le_of_ble_eq_true rfl, Nat.le_of_ble_eq_true rfl, mo_O m1, _, hp, fun r2 h2 hq c2 z2 => ?_⟩
  obtain ⟨rfl, s2⟩ := hq
  have d1 : hC h1 = hC h := c1
  have d2 : hZ h1 = hZ h := z1
  have d3 : hC h2 = hC h1 := c2
  have d4 : hZ h2 = hZ h1 := z2
  exact g_fin S s2 (by omega) (by omega)
theorem cs_612 {xs : Nat → Int32} {SL lc lz k : Nat} {K : TK} {R : TR} {h : PH} {v5 v6 : Option PV} (S : CS SL k K h) : B_law_612 xs SL lc lz K R (lsL (6 * (k : Int)) v5 v6) [] h := by
  obtain ⟨q1, q2, q3, q4, q5⟩ := g_kk S
  refine g_al1 ((g_sd (a := 1) q3 (by decide) (by decide) q4 q5 (?_)))
  refine ⟨Nat.le_of_ble_eq_true rfl, Nat.le_of_ble_eq_true rfl, co_Ho S.1.1.1, _, sim_row S.1 q1, fun r h1 hp c1 z1 => ?_⟩
  obtain ⟨v, rfl, m1, hp⟩ := hp
  refine g_al2 ((g_sd (a := 1) q3 (by decide) (by decide) q4 q5 (?_)))
  refine ⟨Nat.le_of_ble_eq_true rfl, Nat.le_of_ble_eq_true rfl, mo_O m1, _, hp, fun r2 h2 hq c2 z2 => ?_⟩
  obtain ⟨rfl, s2⟩ := hq
  have d1 : hC h1 = hC h := c1
  have d2 : hZ h1 = hZ h := z1
  have d3 : hC h2 = hC h1 := c2
  have d4 : hZ h2 = hZ h1 := z2
  exact g_fin S s2 (by omega) (by omega)
theorem cs_637 {xs : Nat → Int32} {SL lc lz k : Nat} {K : TK} {R : TR} {h : PH} {v5 v6 : Option PV} (S : CS SL k K h) : B_law_637 xs SL lc lz K R (lsL (6 * (k : Int)) v5 v6) [] h := by
  obtain ⟨q1, q2, q3, q4, q5⟩ := g_kk S
  refine g_al1 ((g_sd (a := 1) q3 (by decide) (by decide) q4 q5 (?_)))
  refine ⟨Nat.le_of_ble_eq_true rfl, Nat.le_of_ble_eq_true rfl, co_Ho S.1.1.1, _, sim_about S.1 q1, fun r h1 hp c1 z1 => ?_⟩
  obtain ⟨v, rfl, m1, hp⟩ := hp
  refine g_al2 ((g_sd (a := 1) q3 (by decide) (by decide) q4 q5 (?_)))
  refine ⟨Nat.le_of_ble_eq_true rfl, Nat.le_of_ble_eq_true rfl, mo_O m1, _, hp, fun r2 h2 hq c2 z2 => ?_⟩
  obtain ⟨rfl, s2⟩ := hq
  have d1 : hC h1 = hC h := c1
  have d2 : hZ h1 = hZ h := z1
  have d3 : hC h2 = hC h1 := c2
  have d4 : hZ h2 = hZ h1 := z2
  exact g_fin S s2 (by omega) (by omega)
theorem cs_662 {xs : Nat → Int32} {SL lc lz k : Nat} {K : TK} {R : TR} {h : PH} {v5 v6 : Option PV} (S : CS SL k K h) : B_law_662 xs SL lc lz K R (lsL (6 * (k : Int)) v5 v6) [] h := by
  obtain ⟨q1, q2, q3, q4, q5⟩ := g_kk S
  refine g_al1 ((?_))
  refine ⟨Nat.le_of_ble_eq_true rfl, Nat.le_of_ble_eq_true rfl, co_Ho S.1.1.1, _, sim_index S.1, fun r h1 hp c1 z1 => ?_⟩
  obtain ⟨v, rfl, m1, hp⟩ := hp
  refine g_al2 ((?_))
  refine ⟨Nat.le_of_ble_eq_true rfl, Nat.le_of_ble_eq_true rfl, mo_O m1, _, hp, fun r2 h2 hq c2 z2 => ?_⟩
  obtain ⟨rfl, s2⟩ := hq
  have d1 : hC h1 = hC h := c1
  have d2 : hZ h1 = hZ h := z1
  have d3 : hC h2 = hC h1 := c2
  have d4 : hZ h2 = hZ h1 := z2
  exact g_fin S s2 (by omega) (by omega)
theorem cs_675 {xs : Nat → Int32} {SL lc lz k : Nat} {K : TK} {R : TR} {h : PH} {v5 v6 : Option PV} (S : CS SL k K h) : B_law_675 xs SL lc lz K R (lsL (6 * (k : Int)) v5 v6) [] h := by
  obtain ⟨q1, q2, q3, q4, q5⟩ := g_kk S
  refine g_al1 ((?_))
  refine ⟨Nat.le_of_ble_eq_true rfl, Nat.le_of_ble_eq_true rfl, co_Ho S.1.1.1, _, sim_rename S.1 q1 q2, fun r h1 hp c1 z1 => ?_⟩
  obtain ⟨v, rfl, m1, hp⟩ := hp
  refine g_al2 ((?_))
  refine ⟨Nat.le_of_ble_eq_true rfl, Nat.le_of_ble_eq_true rfl, mo_O m1, _, hp, fun r2 h2 hq c2 z2 => ?_⟩
  obtain ⟨rfl, s2⟩ := hq
  have d1 : hC h1 = hC h := c1
  have d2 : hZ h1 = hZ h := z1
  have d3 : hC h2 = hC h1 := c2
  have d4 : hZ h2 = hZ h1 := z2
  exact g_fin S s2 (by omega) (by omega)
theorem cs_688 {xs : Nat → Int32} {SL lc lz k : Nat} {K : TK} {R : TR} {h : PH} {v5 v6 : Option PV} (S : CS SL k K h) : B_law_688 xs SL lc lz K R (lsL (6 * (k : Int)) v5 v6) [] h := by
  obtain ⟨q1, q2, q3, q4, q5⟩ := g_kk S
  refine g_al1 ((?_))
  refine ⟨Nat.le_of_ble_eq_true rfl, Nat.le_of_ble_eq_true rfl, co_Ho S.1.1.1, _, sim_pack S.1 q1 q2, fun r h1 hp c1 z1 => ?_⟩
  obtain ⟨v, rfl, m1, hp⟩ := hp
  refine g_al2 ((?_))
  refine ⟨Nat.le_of_ble_eq_true rfl, Nat.le_of_ble_eq_true rfl, mo_O m1, _, hp, fun r2 h2 hq c2 z2 => ?_⟩
  obtain ⟨rfl, s2⟩ := hq
  have d1 : hC h1 = hC h := c1
  have d2 : hZ h1 = hZ h := z1
  have d3 : hC h2 = hC h1 := c2
  have d4 : hZ h2 = hZ h1 := z2
  exact g_fin S s2 (by omega) (by omega)
theorem cs_701 {xs : Nat → Int32} {SL lc lz k : Nat} {K : TK} {R : TR} {h : PH} {v5 v6 : Option PV} (S : CS SL k K h) : B_law_701 xs SL lc lz K R (lsL (6 * (k : Int)) v5 v6) [] h := by
  obtain ⟨q1, q2, q3, q4, q5⟩ := g_kk S
  refine g_al1 ((g_sd (a := 1) q3 (by decide) (by decide) q4 q5 (?_)))
  refine ⟨Nat.le_of_ble_eq_true rfl, Nat.le_of_ble_eq_true rfl, co_Ho S.1.1.1, _, sim_lead S.1 q1, fun r h1 hp c1 z1 => ?_⟩
  obtain ⟨v, rfl, m1, hp⟩ := hp
  refine g_al2 ((g_sd (a := 1) q3 (by decide) (by decide) q4 q5 (?_)))
  refine ⟨Nat.le_of_ble_eq_true rfl, Nat.le_of_ble_eq_true rfl, mo_O m1, _, hp, fun r2 h2 hq c2 z2 => ?_⟩
  obtain ⟨rfl, s2⟩ := hq
  have d1 : hC h1 = hC h := c1
  have d2 : hZ h1 = hZ h := z1
  have d3 : hC h2 = hC h1 := c2
  have d4 : hZ h2 = hZ h1 := z2
  exact g_fin S s2 (by omega) (by omega)
theorem cs_726 {xs : Nat → Int32} {SL lc lz k : Nat} {K : TK} {R : TR} {h : PH} {v5 v6 : Option PV} (S : CS SL k K h) : B_law_726 xs SL lc lz K R (lsL (6 * (k : Int)) v5 v6) [] h := by
  obtain ⟨q1, q2, q3, q4, q5⟩ := g_kk S
  refine g_al1 ((?_))
  refine ⟨Nat.le_of_ble_eq_true rfl, Nat.le_of_ble_eq_true rfl, co_Ho S.1.1.1, _, sim_is S.1 q1, fun r h1 hp c1 z1 => ?_⟩
  obtain ⟨v, rfl, m1, hp⟩ := hp
  refine g_al2 ((?_))
  refine ⟨Nat.le_of_ble_eq_true rfl, Nat.le_of_ble_eq_true rfl, mo_O m1, _, hp, fun r2 h2 hq c2 z2 => ?_⟩
  obtain ⟨rfl, s2⟩ := hq
  have d1 : hC h1 = hC h := c1
  have d2 : hZ h1 = hZ h := z1
  have d3 : hC h2 = hC h1 := c2
  have d4 : hZ h2 = hZ h1 := z2
  exact g_fin S s2 (by omega) (by omega)
theorem cs_739 {xs : Nat → Int32} {SL lc lz k : Nat} {K : TK} {R : TR} {h : PH} {v5 v6 : Option PV} (S : CS SL k K h) : B_law_739 xs SL lc lz K R (lsL (6 * (k : Int)) v5 v6) [] h := by
  obtain ⟨q1, q2, q3, q4, q5⟩ := g_kk S
  refine g_al1 ((?_))
  refine ⟨Nat.le_of_ble_eq_true rfl, Nat.le_of_ble_eq_true rfl, co_Ho S.1.1.1, _, sim_within S.1 q1, fun r h1 hp c1 z1 => ?_⟩
  obtain ⟨v, rfl, m1, hp⟩ := hp
  refine g_al2 ((?_))
  refine ⟨Nat.le_of_ble_eq_true rfl, Nat.le_of_ble_eq_true rfl, mo_O m1, _, hp, fun r2 h2 hq c2 z2 => ?_⟩
  obtain ⟨rfl, s2⟩ := hq
  have d1 : hC h1 = hC h := c1
  have d2 : hZ h1 = hZ h := z1
  have d3 : hC h2 = hC h1 := c2
  have d4 : hZ h2 = hZ h1 := z2
  exact g_fin S s2 (by omega) (by omega)
theorem cs_752 {xs : Nat → Int32} {SL lc lz k : Nat} {K : TK} {R : TR} {h : PH} {v5 v6 : Option PV} (S : CS SL k K h) : B_law_752 xs SL lc lz K R (lsL (6 * (k : Int)) v5 v6) [] h := by
  obtain ⟨q1, q2, q3, q4, q5⟩ := g_kk S
  refine g_al1 ((?_))
  refine ⟨Nat.le_of_ble_eq_true rfl, Nat.le_of_ble_eq_true rfl, co_Ho S.1.1.1, _, sim_power S.1 q1, fun r h1 hp c1 z1 => ?_⟩
  obtain ⟨v, rfl, m1, hp⟩ := hp
  refine g_al2 ((?_))
  refine ⟨Nat.le_of_ble_eq_true rfl, Nat.le_of_ble_eq_true rfl, mo_O m1, _, hp, fun r2 h2 hq c2 z2 => ?_⟩
  obtain ⟨rfl, s2⟩ := hq
  have d1 : hC h1 = hC h := c1
  have d2 : hZ h1 = hZ h := z1
  have d3 : hC h2 = hC h1 := c2
  have d4 : hZ h2 = hZ h1 := z2
  exact g_fin S s2 (by omega) (by omega)
theorem cs_765 {xs : Nat → Int32} {SL lc lz k : Nat} {K : TK} {R : TR} {h : PH} {v5 v6 : Option PV} (S : CS SL k K h) : B_law_765 xs SL lc lz K R (lsL (6 * (k : Int)) v5 v6) [] h := by
  obtain ⟨q1, q2, q3, q4, q5⟩ := g_kk S
  refine g_al1 ((g_sd (a := 1) q3 (by decide) (by decide) q4 q5 (g_sd (a := 2) q3 (by decide) (by decide) q4 q5 (?_))))
  refine ⟨Nat.le_of_ble_eq_true rfl, Nat.le_of_ble_eq_true rfl, co_Ho S.1.1.1, _, sim_cycles S.1 q1, fun r h1 hp c1 z1 => ?_⟩
  obtain ⟨v, rfl, m1, hp⟩ := hp
  refine g_al2 ((g_sd (a := 1) q3 (by decide) (by decide) q4 q5 (g_sd (a := 2) q3 (by decide) (by decide) q4 q5 (?_))))
  refine ⟨Nat.le_of_ble_eq_true rfl, Nat.le_of_ble_eq_true rfl, mo_O m1, _, hp, fun r2 h2 hq c2 z2 => ?_⟩
  obtain ⟨rfl, s2⟩ := hq
  have d1 : hC h1 = hC h := c1
  have d2 : hZ h1 = hZ h := z1
  have d3 : hC h2 = hC h1 := c2
  have d4 : hZ h2 = hZ h1 := z2
  exact g_fin S s2 (by omega) (by omega)
theorem cs_802 {xs : Nat → Int32} {SL lc lz k : Nat} {K : TK} {R : TR} {h : PH} {v5 v6 : Option PV} (S : CS SL k K h) : B_law_802 xs SL lc lz K R (lsL (6 * (k : Int)) v5 v6) [] h := by
  obtain ⟨q1, q2, q3, q4, q5⟩ := g_kk S
  refine g_al1 ((g_sd (a := 1) q3 (by decide) (by decide) q4 q5 (?_)))
  refine ⟨Nat.le_of_ble_eq_true rfl, Nat.le_of_ble_eq_true rfl, co_Ho S.1.1.1, _, sim_least S.1 q1, fun r h1 hp c1 z1 => ?_⟩
  obtain ⟨v, rfl, m1, hp⟩ := hp
  refine g_al2 ((g_sd (a := 1) q3 (by decide) (by decide) q4 q5 (?_)))
  refine ⟨Nat.le_of_ble_eq_true rfl, Nat.le_of_ble_eq_true rfl, mo_O m1, _, hp, fun r2 h2 hq c2 z2 => ?_⟩
  obtain ⟨rfl, s2⟩ := hq
  have d1 : hC h1 = hC h := c1
  have d2 : hZ h1 = hZ h := z1
  have d3 : hC h2 = hC h1 := c2
  have d4 : hZ h2 = hZ h1 := z2
  exact g_fin S s2 (by omega) (by omega)
theorem cs_827 {xs : Nat → Int32} {SL lc lz k : Nat} {K : TK} {R : TR} {h : PH} {v5 v6 : Option PV} (S : CS SL k K h) : B_law_827 xs SL lc lz K R (lsL (6 * (k : Int)) v5 v6) [] h := by
  obtain ⟨q1, q2, q3, q4, q5⟩ := g_kk S
  refine g_al1 ((?_))
  refine ⟨Nat.le_of_ble_eq_true rfl, Nat.le_of_ble_eq_true rfl, co_Ho S.1.1.1, _, sim_farthest S.1 q1, fun r h1 hp c1 z1 => ?_⟩
  obtain ⟨v, rfl, m1, hp⟩ := hp
  refine g_al2 ((?_))
  refine ⟨Nat.le_of_ble_eq_true rfl, Nat.le_of_ble_eq_true rfl, mo_O m1, _, hp, fun r2 h2 hq c2 z2 => ?_⟩
  obtain ⟨rfl, s2⟩ := hq
  have d1 : hC h1 = hC h := c1
  have d2 : hZ h1 = hZ h := z1
  have d3 : hC h2 = hC h1 := c2
  have d4 : hZ h2 = hZ h1 := z2
  exact g_fin S s2 (by omega) (by omega)
theorem cs_840 {xs : Nat → Int32} {SL lc lz k : Nat} {K : TK} {R : TR} {h : PH} {v5 v6 : Option PV} (S : CS SL k K h) : B_law_840 xs SL lc lz K R (lsL (6 * (k : Int)) v5 v6) [] h := by
  obtain ⟨q1, q2, q3, q4, q5⟩ := g_kk S
  refine g_al1 ((g_sd (a := 1) q3 (by decide) (by decide) q4 q5 (g_sd (a := 2) q3 (by decide) (by decide) q4 q5 (?_))))
  refine ⟨Nat.le_of_ble_eq_true rfl, Nat.le_of_ble_eq_true rfl, co_Ho S.1.1.1, _, sim_tell S.1, fun r h1 hp c1 z1 => ?_⟩
  obtain ⟨v, rfl, m1, hp⟩ := hp
  refine g_al2 ((g_sd (a := 1) q3 (by decide) (by decide) q4 q5 (g_sd (a := 2) q3 (by decide) (by decide) q4 q5 (?_))))
  refine ⟨Nat.le_of_ble_eq_true rfl, Nat.le_of_ble_eq_true rfl, mo_O m1, _, hp, fun r2 h2 hq c2 z2 => ?_⟩
  obtain ⟨rfl, s2⟩ := hq
  have d1 : hC h1 = hC h := c1
  have d2 : hZ h1 = hZ h := z1
  have d3 : hC h2 = hC h1 := c2
  have d4 : hZ h2 = hZ h1 := z2
  exact g_fin S s2 (by omega) (by omega)
theorem cs_933 {xs : Nat → Int32} {SL lc lz k : Nat} {K : TK} {R : TR} {h : PH} {v5 v6 : Option PV} (S : CS SL k K h) : B_law_933 xs SL lc lz K R (lsL (6 * (k : Int)) v5 v6) [] h := by
  obtain ⟨q1, q2, q3, q4, q5⟩ := g_kk S
  refine g_al1 ((g_sd (a := 1) q3 (by decide) (by decide) q4 q5 (?_)))
  refine ⟨Nat.le_of_ble_eq_true rfl, Nat.le_of_ble_eq_true rfl, co_Ho S.1.1.1, _, sim_low S.1, fun r h1 hp c1 z1 => ?_⟩
  obtain ⟨v, rfl, m1, hp⟩ := hp
  refine g_al2 ((g_sd (a := 1) q3 (by decide) (by decide) q4 q5 (?_)))
  refine ⟨Nat.le_of_ble_eq_true rfl, Nat.le_of_ble_eq_true rfl, mo_O m1, _, hp, fun r2 h2 hq c2 z2 => ?_⟩
  obtain ⟨rfl, s2⟩ := hq
  have d1 : hC h1 = hC h := c1
  have d2 : hZ h1 = hZ h := z1
  have d3 : hC h2 = hC h1 := c2
  have d4 : hZ h2 = hZ h1 := z2
  exact g_fin S s2 (by omega) (by omega)
theorem cs_958 {xs : Nat → Int32} {SL lc lz k : Nat} {K : TK} {R : TR} {h : PH} {v5 v6 : Option PV} (S : CS SL k K h) : B_law_958 xs SL lc lz K R (lsL (6 * (k : Int)) v5 v6) [] h := by
  obtain ⟨q1, q2, q3, q4, q5⟩ := g_kk S
  refine g_al1 ((g_sd (a := 1) q3 (by decide) (by decide) q4 q5 (?_)))
  refine ⟨Nat.le_of_ble_eq_true rfl, Nat.le_of_ble_eq_true rfl, co_Ho S.1.1.1, _, sim_lowly S.1, fun r h1 hp c1 z1 => ?_⟩
  obtain ⟨v, rfl, m1, hp⟩ := hp
  refine g_al2 ((g_sd (a := 1) q3 (by decide) (by decide) q4 q5 (?_)))
  refine ⟨Nat.le_of_ble_eq_true rfl, Nat.le_of_ble_eq_true rfl, mo_O m1, _, hp, fun r2 h2 hq c2 z2 => ?_⟩
  obtain ⟨rfl, s2⟩ := hq
  have d1 : hC h1 = hC h := c1
  have d2 : hZ h1 = hZ h := z1
  have d3 : hC h2 = hC h1 := c2
  have d4 : hZ h2 = hZ h1 := z2
  exact g_fin S s2 (by omega) (by omega)
theorem cs_983 {xs : Nat → Int32} {SL lc lz k : Nat} {K : TK} {R : TR} {h : PH} {v5 v6 : Option PV} (S : CS SL k K h) : B_law_983 xs SL lc lz K R (lsL (6 * (k : Int)) v5 v6) [] h := by
  obtain ⟨q1, q2, q3, q4, q5⟩ := g_kk S
  refine g_al1 ((g_sd (a := 1) q3 (by decide) (by decide) q4 q5 (g_sd (a := 2) q3 (by decide) (by decide) q4 q5 (g_sd (a := 3) q3 (by decide) (by decide) q4 q5 (?_)))))
  refine ⟨Nat.le_of_ble_eq_true rfl, Nat.le_of_ble_eq_true rfl, co_Ho S.1.1.1, _, sim_small S.1, fun r h1 hp c1 z1 => ?_⟩
  obtain ⟨v, rfl, m1, hp⟩ := hp
  refine g_al2 ((g_sd (a := 1) q3 (by decide) (by decide) q4 q5 (g_sd (a := 2) q3 (by decide) (by decide) q4 q5 (g_sd (a := 3) q3 (by decide) (by decide) q4 q5 (?_)))))
  refine ⟨Nat.le_of_ble_eq_true rfl, Nat.le_of_ble_eq_true rfl, mo_O m1, _, hp, fun r2 h2 hq c2 z2 => ?_⟩
  obtain ⟨rfl, s2⟩ := hq
  have d1 : hC h1 = hC h := c1
  have d2 : hZ h1 = hZ h := z1
  have d3 : hC h2 = hC h1 := c2
  have d4 : hZ h2 = hZ h1 := z2
  exact g_fin S s2 (by omega) (by omega)
theorem cs_1032 {xs : Nat → Int32} {SL lc lz k : Nat} {K : TK} {R : TR} {h : PH} {v5 v6 : Option PV} (S : CS SL k K h) : B_law_1032 xs SL lc lz K R (lsL (6 * (k : Int)) v5 v6) [] h := by
  obtain ⟨q1, q2, q3, q4, q5⟩ := g_kk S
  refine g_al1 ((g_sd (a := 1) q3 (by decide) (by decide) q4 q5 (?_)))
  refine ⟨Nat.le_of_ble_eq_true rfl, Nat.le_of_ble_eq_true rfl, co_Ho S.1.1.1, _, sim_size S.1, fun r h1 hp c1 z1 => ?_⟩
  obtain ⟨v, rfl, m1, hp⟩ := hp
  refine g_al2 ((g_sd (a := 1) q3 (by decide) (by decide) q4 q5 (?_)))
  refine ⟨Nat.le_of_ble_eq_true rfl, Nat.le_of_ble_eq_true rfl, mo_O m1, _, hp, fun r2 h2 hq c2 z2 => ?_⟩
  obtain ⟨rfl, s2⟩ := hq
  have d1 : hC h1 = hC h := c1
  have d2 : hZ h1 = hZ h := z1
  have d3 : hC h2 = hC h1 := c2
  have d4 : hZ h2 = hZ h1 := z2
  exact g_fin S s2 (by omega) (by omega)
theorem cs_1057 {xs : Nat → Int32} {SL lc lz k : Nat} {K : TK} {R : TR} {h : PH} {v5 v6 : Option PV} (S : CS SL k K h) : B_law_1057 xs SL lc lz K R (lsL (6 * (k : Int)) v5 v6) [] h := by
  obtain ⟨q1, q2, q3, q4, q5⟩ := g_kk S
  refine g_al1 ((g_sd (a := 1) q3 (by decide) (by decide) q4 q5 (?_)))
  refine ⟨Nat.le_of_ble_eq_true rfl, Nat.le_of_ble_eq_true rfl, co_Ho S.1.1.1, _, sim_normal S.1, fun r h1 hp c1 z1 => ?_⟩
  obtain ⟨v, rfl, m1, hp⟩ := hp
  refine g_al2 ((g_sd (a := 1) q3 (by decide) (by decide) q4 q5 (?_)))
  refine ⟨Nat.le_of_ble_eq_true rfl, Nat.le_of_ble_eq_true rfl, mo_O m1, _, hp, fun r2 h2 hq c2 z2 => ?_⟩
  obtain ⟨rfl, s2⟩ := hq
  have d1 : hC h1 = hC h := c1
  have d2 : hZ h1 = hZ h := z1
  have d3 : hC h2 = hC h1 := c2
  have d4 : hZ h2 = hZ h1 := z2
  exact g_fin S s2 (by omega) (by omega)
theorem cs_1095 {xs : Nat → Int32} {SL lc lz k : Nat} {K : TK} {R : TR} {h : PH} {v5 v6 : Option PV} (S : CS SL k K h) : B_law_1095 xs SL lc lz K R (lsL (6 * (k : Int)) v5 v6) [] h := by
  obtain ⟨q1, q2, q3, q4, q5⟩ := g_kk S
  refine g_al1 ((?_))
  refine ⟨Nat.le_of_ble_eq_true rfl, Nat.le_of_ble_eq_true rfl, co_Ho S.1.1.1, _, sim_back S.1 q1 q2, fun r h1 hp c1 z1 => ?_⟩
  obtain ⟨v, rfl, m1, hp⟩ := hp
  refine g_al2 ((?_))
  refine ⟨Nat.le_of_ble_eq_true rfl, Nat.le_of_ble_eq_true rfl, mo_O m1, _, hp, fun r2 h2 hq c2 z2 => ?_⟩
  obtain ⟨rfl, s2⟩ := hq
  have d1 : hC h1 = hC h := c1
  have d2 : hZ h1 = hZ h := z1
  have d3 : hC h2 = hC h1 := c2
  have d4 : hZ h2 = hZ h1 := z2
  exact g_fin S s2 (by omega) (by omega)
theorem cs_1108 {xs : Nat → Int32} {SL lc lz k : Nat} {K : TK} {R : TR} {h : PH} {v5 v6 : Option PV} (S : CS SL k K h) : B_law_1108 xs SL lc lz K R (lsL (6 * (k : Int)) v5 v6) [] h := by
  obtain ⟨q1, q2, q3, q4, q5⟩ := g_kk S
  refine g_al1 ((g_sd (a := 1) q3 (by decide) (by decide) q4 q5 (?_)))
  refine ⟨Nat.le_of_ble_eq_true rfl, Nat.le_of_ble_eq_true rfl, co_Ho S.1.1.1, _, sim_sheet S.1, fun r h1 hp c1 z1 => ?_⟩
  obtain ⟨v, rfl, m1, hp⟩ := hp
  refine g_al2 ((g_sd (a := 1) q3 (by decide) (by decide) q4 q5 (?_)))
  refine ⟨Nat.le_of_ble_eq_true rfl, Nat.le_of_ble_eq_true rfl, mo_O m1, _, hp, fun r2 h2 hq c2 z2 => ?_⟩
  obtain ⟨rfl, s2⟩ := hq
  have d1 : hC h1 = hC h := c1
  have d2 : hZ h1 = hZ h := z1
  have d3 : hC h2 = hC h1 := c2
  have d4 : hZ h2 = hZ h1 := z2
  exact g_fin S s2 (by omega) (by omega)
theorem cs_1133 {xs : Nat → Int32} {SL lc lz k : Nat} {K : TK} {R : TR} {h : PH} {v5 v6 : Option PV} (S : CS SL k K h) : B_law_1133 xs SL lc lz K R (lsL (6 * (k : Int)) v5 v6) [] h := by
  obtain ⟨q1, q2, q3, q4, q5⟩ := g_kk S
  refine g_al1 ((g_sd (a := 1) q3 (by decide) (by decide) q4 q5 (g_sd (a := 2) q3 (by decide) (by decide) q4 q5 (g_sd (a := 3) q3 (by decide) (by decide) q4 q5 (?_)))))
  refine ⟨Nat.le_of_ble_eq_true rfl, Nat.le_of_ble_eq_true rfl, co_Ho S.1.1.1, _, sim_put S.1, fun r h1 hp c1 z1 => ?_⟩
  obtain ⟨v, rfl, m1, hp⟩ := hp
  refine g_al2 ((g_sd (a := 1) q3 (by decide) (by decide) q4 q5 (g_sd (a := 2) q3 (by decide) (by decide) q4 q5 (g_sd (a := 3) q3 (by decide) (by decide) q4 q5 (?_)))))
  refine ⟨Nat.le_of_ble_eq_true rfl, Nat.le_of_ble_eq_true rfl, mo_O m1, _, hp, fun r2 h2 hq c2 z2 => ?_⟩
  obtain ⟨rfl, s2⟩ := hq
  have d1 : hC h1 = hC h := c1
  have d2 : hZ h1 = hZ h := z1
  have d3 : hC h2 = hC h1 := c2
  have d4 : hZ h2 = hZ h1 := z2
  exact g_fin S s2 (by omega) (by omega)
theorem cs_1182 {xs : Nat → Int32} {SL lc lz k : Nat} {K : TK} {R : TR} {h : PH} {v5 v6 : Option PV} (S : CS SL k K h) : B_law_1182 xs SL lc lz K R (lsL (6 * (k : Int)) v5 v6) [] h := by
  obtain ⟨q1, q2, q3, q4, q5⟩ := g_kk S
  refine g_al1 ((?_))
  refine ⟨Nat.le_of_ble_eq_true rfl, Nat.le_of_ble_eq_true rfl, co_Ho S.1.1.1, _, sim_check S.1, fun r h1 hp c1 z1 => ?_⟩
  obtain ⟨v, rfl, m1, hp⟩ := hp
  refine g_al2 ((?_))
  refine ⟨Nat.le_of_ble_eq_true rfl, Nat.le_of_ble_eq_true rfl, mo_O m1, _, hp, fun r2 h2 hq c2 z2 => ?_⟩
  obtain ⟨rfl, s2⟩ := hq
  have d1 : hC h1 = hC h := c1
  have d2 : hZ h1 = hZ h := z1
  have d3 : hC h2 = hC h1 := c2
  have d4 : hZ h2 = hZ h1 := z2
  exact g_fin S s2 (by omega) (by omega)
theorem cs_1195 {xs : Nat → Int32} {SL lc lz k : Nat} {K : TK} {R : TR} {h : PH} {v5 v6 : Option PV} (S : CS SL k K h) : B_law_1195 xs SL lc lz K R (lsL (6 * (k : Int)) v5 v6) [] h := by
  obtain ⟨q1, q2, q3, q4, q5⟩ := g_kk S
  refine g_al1 ((?_))
  refine ⟨Nat.le_of_ble_eq_true rfl, Nat.le_of_ble_eq_true rfl, co_Ho S.1.1.1, _, sim_trouble S.1, fun r h1 hp c1 z1 => ?_⟩
  obtain ⟨v, rfl, m1, hp⟩ := hp
  refine g_al2 ((?_))
  refine ⟨Nat.le_of_ble_eq_true rfl, Nat.le_of_ble_eq_true rfl, mo_O m1, _, hp, fun r2 h2 hq c2 z2 => ?_⟩
  obtain ⟨rfl, s2⟩ := hq
  have d1 : hC h1 = hC h := c1
  have d2 : hZ h1 = hZ h := z1
  have d3 : hC h2 = hC h1 := c2
  have d4 : hZ h2 = hZ h1 := z2
  exact g_fin S s2 (by omega) (by omega)
theorem cs_1208 {xs : Nat → Int32} {SL lc lz k : Nat} {K : TK} {R : TR} {h : PH} {v5 v6 : Option PV} (S : CS SL k K h) : B_law_1208 xs SL lc lz K R (lsL (6 * (k : Int)) v5 v6) [] h := by
  obtain ⟨q1, q2, q3, q4, q5⟩ := g_kk S
  refine g_al1 ((?_))
  refine ⟨Nat.le_of_ble_eq_true rfl, Nat.le_of_ble_eq_true rfl, co_Ho S.1.1.1, _, sim_where S.1, fun r h1 hp c1 z1 => ?_⟩
  obtain ⟨v, rfl, m1, hp⟩ := hp
  refine g_al2 ((?_))
  refine ⟨Nat.le_of_ble_eq_true rfl, Nat.le_of_ble_eq_true rfl, mo_O m1, _, hp, fun r2 h2 hq c2 z2 => ?_⟩
  obtain ⟨rfl, s2⟩ := hq
  have d1 : hC h1 = hC h := c1
  have d2 : hZ h1 = hZ h := z1
  have d3 : hC h2 = hC h1 := c2
  have d4 : hZ h2 = hZ h1 := z2
  exact g_fin S s2 (by omega) (by omega)
def bz (x : Int) : Int := if x = 0 then 0 else 1
theorem bz_01 (x : Int) : bz x = 0 ∨ bz x = 1 := by unfold bz; split; exact Or.inl rfl; exact Or.inr rfl
theorem cs_389 {xs : Nat → Int32} {SL lc lz k : Nat} {K : TK} {R : TR} {h0 h1 : PH} {v5 v6 : Option PV} {b v : Int} (S : CS SL k K h0) (d1 : hC h1 = hC h0) (d2 : hZ h1 = hZ h0) (m1 : MW h1) (hp : Ct_Mo_drop [.inr (.inl (some pMo)), .inl b] h1 (fun r h2 => r = some (.inl v) ∧ SIM ((k : Int) + 1) h2)) : B_law_389 xs SL lc lz K R (lsL (6 * (k : Int)) v5 v6) [.inl b, .inr (.inl (some pMo)), .inl v] h1 := by
  refine ⟨Nat.le_of_ble_eq_true rfl, Nat.le_of_ble_eq_true rfl, mo_O m1, _, hp, fun r2 h2 hq c2 z2 => ?_⟩
  obtain ⟨rfl, s2⟩ := hq
  have d3 : hC h2 = hC h1 := c2
  have d4 : hZ h2 = hZ h1 := z2
  exact g_fin S s2 (by omega) (by omega)
theorem cs_371 {xs : Nat → Int32} {SL lc lz k : Nat} {K : TK} {R : TR} {h : PH} {v5 v6 : Option PV} (S : CS SL k K h) : B_law_371 xs SL lc lz K R (lsL (6 * (k : Int)) v5 v6) [.inl (bz (xs (6 * (k : Int) + 1).toNat).toInt), .inr (.inl (some pHo))] h := by
  obtain ⟨q1, q2, q3, q4, q5⟩ := g_kk S
  refine ⟨Nat.le_of_ble_eq_true rfl, Nat.le_of_ble_eq_true rfl, co_Ho S.1.1.1, _, sim_drop S.1 (bz_01 _), fun r h1 hp c1 z1 => ?_⟩
  obtain ⟨v, rfl, m1, hp⟩ := hp
  refine g_al2 (g_sd (a := 1) q3 (by decide) (by decide) q4 q5 ?_)
  refine ⟨fun y => ?_, fun y => ?_⟩
  · have e : bz (xs (6 * (k : Int) + 1).toNat).toInt = 0 := if_pos y
    rw [e] at hp
    exact cs_389 S c1 z1 m1 hp
  · have e : bz (xs (6 * (k : Int) + 1).toNat).toInt = 1 := if_neg y
    rw [e] at hp
    exact cs_389 S c1 z1 m1 hp
theorem cs_356 {xs : Nat → Int32} {SL lc lz k : Nat} {K : TK} {R : TR} {h : PH} {v5 v6 : Option PV} (S : CS SL k K h) : B_law_356 xs SL lc lz K R (lsL (6 * (k : Int)) v5 v6) [] h := by
  obtain ⟨q1, q2, q3, q4, q5⟩ := g_kk S
  have c := @cs_371 xs SL lc lz k K R h v5 v6 S
  refine g_al1 (g_sd (a := 1) q3 (by decide) (by decide) q4 q5 ?_)
  refine ⟨fun y => ?_, fun y => ?_⟩
  · have e : bz (xs (6 * (k : Int) + 1).toNat).toInt = 0 := if_pos y
    rw [e] at c
    exact c
  · have e : bz (xs (6 * (k : Int) + 1).toNat).toInt = 1 := if_neg y
    rw [e] at c
    exact c
theorem cs_454 {xs : Nat → Int32} {SL lc lz k : Nat} {K : TK} {R : TR} {h0 h1 : PH} {v5 v6 : Option PV} {a c b v : Int} (S : CS SL k K h0) (d1 : hC h1 = hC h0) (d2 : hZ h1 = hZ h0) (m1 : MW h1) (hp : Ct_Mo_letter [.inr (.inl (some pMo)), .inl a, .inl c, .inl b] h1 (fun r h2 => r = some (.inl v) ∧ SIM ((k : Int) + 1) h2)) : B_law_454 xs SL lc lz K R (lsL (6 * (k : Int)) v5 v6) [.inl b, .inl c, .inl a, .inr (.inl (some pMo)), .inl v] h1 := by
  refine ⟨Nat.le_of_ble_eq_true rfl, Nat.le_of_ble_eq_true rfl, mo_O m1, _, hp, fun r2 h2 hq c2 z2 => ?_⟩
  obtain ⟨rfl, s2⟩ := hq
  have d3 : hC h2 = hC h1 := c2
  have d4 : hZ h2 = hZ h1 := z2
  exact g_fin S s2 (by omega) (by omega)
theorem cs_424 {xs : Nat → Int32} {SL lc lz k : Nat} {K : TK} {R : TR} {h : PH} {v5 v6 : Option PV} (S : CS SL k K h) : B_law_424 xs SL lc lz K R (lsL (6 * (k : Int)) v5 v6) [.inl (bz (xs (6 * (k : Int) + 3).toNat).toInt), .inl (xs (6 * (k : Int) + 2).toNat).toInt, .inl (xs (6 * (k : Int) + 1).toNat).toInt, .inr (.inl (some pHo))] h := by
  obtain ⟨q1, q2, q3, q4, q5⟩ := g_kk S
  refine ⟨Nat.le_of_ble_eq_true rfl, Nat.le_of_ble_eq_true rfl, co_Ho S.1.1.1, _, sim_letter S.1 (bz_01 _), fun r h1 hp c1 z1 => ?_⟩
  obtain ⟨v, rfl, m1, hp⟩ := hp
  refine g_al2 (g_sd (a := 1) q3 (by decide) (by decide) q4 q5 (g_sd (a := 2) q3 (by decide) (by decide) q4 q5 (g_sd (a := 3) q3 (by decide) (by decide) q4 q5 ?_)))
  refine ⟨fun y => ?_, fun y => ?_⟩
  · have e : bz (xs (6 * (k : Int) + 3).toNat).toInt = 0 := if_pos y
    rw [e] at hp
    exact cs_454 S c1 z1 m1 hp
  · have e : bz (xs (6 * (k : Int) + 3).toNat).toInt = 1 := if_neg y
    rw [e] at hp
    exact cs_454 S c1 z1 m1 hp
theorem cs_397 {xs : Nat → Int32} {SL lc lz k : Nat} {K : TK} {R : TR} {h : PH} {v5 v6 : Option PV} (S : CS SL k K h) : B_law_397 xs SL lc lz K R (lsL (6 * (k : Int)) v5 v6) [] h := by
  obtain ⟨q1, q2, q3, q4, q5⟩ := g_kk S
  have c := @cs_424 xs SL lc lz k K R h v5 v6 S
  refine g_al1 (g_sd (a := 1) q3 (by decide) (by decide) q4 q5 (g_sd (a := 2) q3 (by decide) (by decide) q4 q5 (g_sd (a := 3) q3 (by decide) (by decide) q4 q5 ?_)))
  refine ⟨fun y => ?_, fun y => ?_⟩
  · have e : bz (xs (6 * (k : Int) + 3).toNat).toInt = 0 := if_pos y
    rw [e] at c
    exact c
  · have e : bz (xs (6 * (k : Int) + 3).toNat).toInt = 1 := if_neg y
    rw [e] at c
    exact c
theorem cs_1082 {xs : Nat → Int32} {SL lc lz k : Nat} {K : TK} {R : TR} {h : PH} {v5 v6 : Option PV} (hlc : 41331 ≤ lc) (hlz : 8972110 ≤ lz) (S : CS SL k K h) : B_law_1082 xs SL lc lz K R (lsL (6 * (k : Int)) v5 v6) [] h := by
  obtain ⟨q1, q2, q3, q4, q5⟩ := g_kk S
  have n1 := S.2.1.1
  have n2 := S.2.1.2
  refine g_al1 ⟨fun y => ?_, fun y => ?_⟩
  · refine ⟨Nat.le_of_ble_eq_true rfl, Nat.le_of_ble_eq_true rfl, co_Ho S.1.1.1, by show hC h + 8 ≤ lc; omega, by show hZ h + 4819 ≤ lz; omega, _, sim_keep1 S.1 q1 y.1 y.2, fun r h1 hp c1 z1 => ?_⟩
    obtain ⟨v, rfl, m1, hp⟩ := hp
    refine g_al2 ⟨Nat.le_of_ble_eq_true rfl, Nat.le_of_ble_eq_true rfl, mo_O m1, _, hp, fun r2 h2 hq c2 z2 => ?_⟩
    obtain ⟨rfl, s2⟩ := hq
    have d1 : hC h1 = hC h + 8 := c1
    have d2 : hZ h1 = hZ h + 4819 := z1
    have d3 : hC h2 = hC h1 := c2
    have d4 : hZ h2 = hZ h1 := z2
    exact g_fin S s2 (by omega) (by omega)
  · refine ⟨Nat.le_of_ble_eq_true rfl, Nat.le_of_ble_eq_true rfl, co_Ho S.1.1.1, _, sim_keep2 S.1 q1 y, fun r h1 hp c1 z1 => ?_⟩
    obtain ⟨v, rfl, m1, hp⟩ := hp
    refine g_al2 ⟨Nat.le_of_ble_eq_true rfl, Nat.le_of_ble_eq_true rfl, mo_O m1, _, hp, fun r2 h2 hq c2 z2 => ?_⟩
    obtain ⟨rfl, s2⟩ := hq
    have d1 : hC h1 = hC h := c1
    have d2 : hZ h1 = hZ h := z1
    have d3 : hC h2 = hC h1 := c2
    have d4 : hZ h2 = hZ h1 := z2
    exact g_fin S s2 (by omega) (by omega)
