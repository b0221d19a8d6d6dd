/-! THE LAW's loop, and its beginning -/
theorem SIM_up {k : Int} {h : PH} (s : SIM k h) : SIM (k + 1) h := SIM_scr (P := fun _ _ => False) s (FrQ_refl _ h) (fun _ _ x => x.elim)
theorem cs_23 {xs : Nat → Int32} {SL lc lz k : Nat} {K : TK} {R : TR} {ls : LSt} {h : PH} (hlc : 41331 ≤ lc) (hlz : 8972110 ≤ lz) (hSL : SL ≤ 3072) (hI : LI SL k ls h) (hK : ∀ ls' h', LI SL (k + 1) ls' h' → K 23 ls' h') (hR : R (some (.inl 1)) h) : B_law_23 xs SL lc lz K R ls [] h := by
  obtain ⟨v5, v6, rfl, i1, s, cn⟩ := hI
  refine ⟨rfl, ⟨by omega, by omega⟩, fun y => ⟨rfl, Or.inr rfl, hR⟩, fun y => ?_⟩
  have S : CS SL k K h := ⟨s, cn, by omega, hSL, hK⟩
  refine ⟨rfl, by omega, by omega, Or.inr rfl, ?_⟩
  refine ⟨⟨fun _ => cs_208 S, fun _ => cs_281 S, fun _ => cs_306 S, fun _ => cs_331 S, fun _ => cs_356 S, fun _ => cs_397 S, fun _ => cs_462 S, fun _ => cs_487 S, fun _ => cs_500 S, fun _ => cs_537 S, fun _ => cs_550 S, fun _ => cs_575 S, fun _ => cs_612 S, fun _ => cs_637 S, fun _ => cs_662 S, fun _ => cs_675 S, fun _ => cs_688 S, fun _ => cs_701 S, fun _ => cs_726 S, fun _ => cs_739 S, fun _ => cs_752 S, fun _ => cs_765 S, fun _ => cs_802 S, fun _ => cs_827 S, fun _ => cs_840 S, fun _ => cs_877 hlc hlz S, fun _ => cs_933 S, fun _ => cs_958 S, fun _ => cs_983 S, fun _ => cs_1032 S, fun _ => cs_1057 S, fun _ => cs_1082 hlc hlz S, fun _ => cs_1095 S, fun _ => cs_1108 S, fun _ => cs_1133 S, fun _ => cs_1182 S, fun _ => cs_1195 S, fun _ => cs_1208 S, trivial⟩, fun _ => g_br S (SIM_up s) (by omega) (by omega)⟩
def e0 : PH := (fun _ _ => 0, fun _ _ => none, 0, 0, 0)
theorem cs_0 {xs : Nat → Int32} {SL lc lz : Nat} {K : TK} {R : TR} (hlc : 41331 ≤ lc) (hlz : 8972110 ≤ lz) (hK : ∀ ls' h', LI SL 0 ls' h' → K 23 ls' h') : B_law_0 xs SL lc lz K R [some (.inr (.inl (some SC))), none, none, none, none, none, none] [] e0 := by
  have nF8 : nF 8 = 18 := rfl
  have nF9 : nF 9 = 67 := rfl
  refine ⟨rfl, Nat.le_of_ble_eq_true rfl, by show 0 + 1 ≤ lc; omega, by show 0 + nF 8 ≤ lz; omega, ?_⟩
  show tt_cI 1 mc_Ho_init ms_Ho_init lc lz (CtM mc_Ho_init ms_Ho_init Ct_Ho_init) _ K R _ [.inr (.inl (some pHo)), .inr (.inl (some pHo))] (nC e0 (nF 8))
  rw [e_cI_1]
  refine ⟨Nat.le_of_ble_eq_true rfl, by show 0 + 1 + 114 ≤ lc; omega, by show 0 + nF 8 + 11853 ≤ lz; omega, fun r h' => r = none ∧ nHo h', ⟨rfl, rfl, fun j => rfl, fun h' n _ _ => ⟨rfl, n⟩⟩, fun r h1 hp c1 z1 => ?_⟩
  obtain ⟨rfl, n1⟩ := hp
  have c1' : hC h1 = 115 := c1
  have z1' : hZ h1 = 11871 := z1
  refine ⟨Nat.le_of_ble_eq_true rfl, ?_⟩
  show tt_new 9 lc lz _ K R [some (.inr (.inl (some SC))), some (.inr (.inl (some pHo))), none, none, none, none, none] [] h1
  have hn1 := n1.1
  rw [e_new, hn1]
  refine ⟨rfl, Nat.le_of_ble_eq_true rfl, by omega, by omega, ?_⟩
  show tt_cI 1 mc_Mo_init ms_Mo_init lc lz (CtM mc_Mo_init ms_Mo_init Ct_Mo_init) _ K R _ [.inr (.inl (some pMo)), .inr (.inl (some pMo))] (nC h1 (nF 9))
  rw [e_cI_1]
  refine ⟨Nat.le_of_ble_eq_true rfl, by show hC h1 + 1 + 37 ≤ lc; omega, by show hZ h1 + nF 9 + 79051 ≤ lz; omega, fun r h' => r = none ∧ nMo (nC h1 (nF 9)) h', ⟨rfl, by show hN h1 + 1 = 116; omega, fun j => by rw [gI_nC, if_pos hn1.symm], fun h' n _ _ => ⟨rfl, n⟩⟩, fun r h2 hp c2 z2 => ?_⟩
  obtain ⟨rfl, n2⟩ := hp
  have c2' : hC h2 = 153 := by have : hC h2 = hC h1 + 1 + 37 := c2; omega
  have z2' : hZ h2 = 90989 := by have : hZ h2 = hZ h1 + nF 9 + 79051 := z2; omega
  have hn2 := n2.1
  refine ⟨Nat.le_of_ble_eq_true rfl, ?_⟩
  show tt_na 3 lc lz _ K R [some (.inr (.inl (some SC))), some (.inr (.inl (some pHo))), some (.inr (.inl (some pMo))), none, none, none, none] [.inl 1] h2
  rw [e_na, hn2]
  refine ⟨by decide, by decide, rfl, Nat.le_of_ble_eq_true rfl, by omega, by show hZ h2 + 1 ≤ lz; omega, ?_⟩
  refine ⟨Nat.le_of_ble_eq_true rfl, Nat.le_of_ble_eq_true rfl, rfl, hK _ _ ⟨none, none, rfl, Nat.zero_le _, ?_, ?_⟩⟩
  · show SIM 0 (nC h2 1)
    have fr : ∀ b j, b < 115 → gI (nC h2 1) b j = gI h1 b j ∧ gR (nC h2 1) b j = gR h1 b j := fun b j hb => by
      obtain ⟨x1, x2⟩ := n2.2.1 b j hb
      rw [gI_nC, if_neg (by omega)] at x1
      rw [gR_nC, if_neg (by omega)] at x2
      rw [gI_nC, if_neg (by omega), gR_nC, if_neg (by omega)]
      exact ⟨x1, x2⟩
    obtain ⟨m0, m1, m2, m3, m4, m5, m6, m7, m8⟩ := n1
    have hn3 : hN (nC h2 1) = 154 := by show hN h2 + 1 = 154; omega
    refine sim_new ⟨by omega, ?_, fun p hp => ?_, fun i hi => ?_, fun i hi => ?_, fun i hi => ?_, fun i hi => ?_, Or.inl ?_⟩ ?_ (fun b j hb => ?_) (fun b j b0 b1 => ?_) ?_ hn3
    · unfold CRf at m1 ⊢
      rw [(fr pHo 0 (by decide)).2, (fr pHo 3 (by decide)).2, (fr pHo 4 (by decide)).2, (fr pHo 5 (by decide)).2, (fr pHo 6 (by decide)).2, (fr pHo 7 (by decide)).2, (fr pHo 8 (by decide)).2, (fr pHo 9 (by decide)).2, (fr pHo 13 (by decide)).2, (fr pHo 15 (by decide)).2, (fr pHo 16 (by decide)).2, (fr pWs 0 (by decide)).2, (fr pSs 0 (by decide)).2, (fr pRe 0 (by decide)).2, (fr pRe 1 (by decide)).2, (fr pRe 2 (by decide)).2, (fr pRe 3 (by decide)).2, (fr pTa 0 (by decide)).2, (fr pTa 1 (by decide)).2, (fr pTa 2 (by decide)).2, (fr pTa 3 (by decide)).2, (fr pTa 4 (by decide)).2, (fr pTa 5 (by decide)).2, (fr pTa 6 (by decide)).2, (fr pWa 0 (by decide)).2, (fr pWa 2 (by decide)).2, (fr pWa 3 (by decide)).2, (fr pWa 4 (by decide)).2, (fr pWa 5 (by decide)).2, (fr pWa 6 (by decide)).2, (fr pLo 0 (by decide)).2, (fr pLo 1 (by decide)).2, (fr pLo 2 (by decide)).2, (fr pLo 3 (by decide)).2, (fr pLo 4 (by decide)).2, (fr pSh 0 (by decide)).2, (fr pSh 1 (by decide)).2, (fr pSh 2 (by decide)).2]
      exact m1
    · have hp4 : p < 115 := by
        refine Nat.lt_of_not_le fun z => ?_
        by_cases z2 : p < 162
        · have : ∀ k : Fin 47, SH (115 + k.1) ≠ .inl 6 := by decide
          exact this ⟨p - 115, by omega⟩ (by rw [show 115 + (p - 115) = p by omega]; exact hp)
        · unfold SH at hp
          rw [List.getD_eq_getElem?_getD, List.getElem?_eq_none (by show 162 ≤ p; omega)] at hp
          cases hp
      rw [(fr p 0 hp4).2]; exact m2 p hp4 hp
    · rw [(fr _ _ (by decide)).2]; exact m3 i hi
    · rw [(fr _ _ (by decide)).2]; exact m4 i hi
    · rw [(fr _ _ (by decide)).2]; exact m5 i hi
    · rw [(fr _ _ (by decide)).2]; exact m6 i hi
    · rw [(fr _ _ (by decide)).2]; exact m7
    · refine n2.2.2.1 _ (by omega) (fun j => ?_)
      rw [gR_nC, if_neg (by rw [hn2]; decide)]
    · rw [(fr b j hb).1]; exact m8 b j hb
    · rw [gI_nC, if_neg (by omega)]; exact n2.2.2.2 b j b0 b1
    · rw [(fr _ _ (by decide)).2]; exact m7
  · constructor
    · show hC h2 + 1 ≤ 154 + 8 * 0; omega
    · show hZ h2 + 1 ≤ 90990 + 4819 * 0; omega
