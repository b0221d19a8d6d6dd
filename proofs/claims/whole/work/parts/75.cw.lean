/-! THE COMPONENT'S CELLS -/
def CRf (h : PH) : Prop := gR h pHo 0 = some pHo_tape ∧ gR h pHo 3 = some pWs ∧ gR h pHo 4 = some pSs ∧ gR h pHo 5 = some pAsk ∧ gR h pHo 6 = some pRe ∧ gR h pHo 7 = some pTa ∧ gR h pHo 8 = some pFi ∧ gR h pHo 9 = some pWa ∧ gR h pHo 13 = some pHo_told ∧ gR h pHo 15 = some pLo ∧ gR h pHo 16 = some pSh ∧ gR h pWs 0 = some pWs_e ∧ gR h pSs 0 = some pSs_e ∧ gR h pRe 0 = some pRe_sums ∧ gR h pRe 1 = some pRe_firsts ∧ gR h pRe 2 = some pAtom ∧ gR h pRe 3 = some pRaised ∧ gR h pTa 0 = some pTa_cells ∧ gR h pTa 1 = some pTa_numbers ∧ gR h pTa 2 = some pTa_done ∧ gR h pTa 3 = some pTa_order ∧ gR h pTa 4 = some pTa_spare ∧ gR h pTa 5 = some pTa_parents ∧ gR h pTa 6 = some pTa_melting ∧ gR h pWa 0 = some pWa_queue ∧ gR h pWa 2 = some pWa_origins ∧ gR h pWa 3 = some pWa_vias ∧ gR h pWa 4 = some pWa_lengths ∧ gR h pWa 5 = some pWa_seen ∧ gR h pWa 6 = some pSingle ∧ gR h pLo 0 = some pLo_cells ∧ gR h pLo 1 = some pLo_kept ∧ gR h pLo 2 = some pLo_keptRows ∧ gR h pLo 3 = some pLo_names ∧ gR h pLo 4 = some pLo_met ∧ gR h pSh 0 = some pSh_cells ∧ gR h pSh 1 = some pSh_seen ∧ gR h pSh 2 = some pSh_queue
def CKt (h : PH) : Prop := 162 ≤ hN h ∧ gR h pKt 0 = some pKt_cells ∧ gR h pKt 1 = some pKt_numbers ∧ gR h pKt 2 = some pKt_done ∧ gR h pKt 3 = some pKt_order ∧ gR h pKt 4 = some pKt_spare ∧ gR h pKt 5 = some pKt_parents ∧ gR h pKt 6 = some pKt_melting
def CW (h : PH) : Prop := 154 ≤ hN h ∧ CRf h ∧ (∀ p, SH p = .inl 6 → gR h p 0 = some (p + 1)) ∧ (∀ k : Nat, k < 12 → gR h pWs_e k = some (pWs_0 + 2 * k)) ∧ (∀ k : Nat, k < 6 → gR h pSs_e k = some (pSs_0 + 2 * k)) ∧ (∀ k : Nat, k < 9 → gR h pRe_sums k = some (pSum0 + 4 * k)) ∧ (∀ k : Nat, k < 9 → gR h pRe_firsts k = some (pFirst0 + 4 * k)) ∧ (gR h pHo 11 = none ∨ (gR h pHo 11 = some pKt ∧ CKt h))
theorem CW_sI {h : PH} {a : Nat} {k v : Int} : CW (sI h a k v) ↔ CW h := Iff.rfl
theorem CW_sA {h : PH} {a : Nat} {f : Int → Int} : CW (sA h a f) ↔ CW h := Iff.rfl
/-- references that are set while the class runs -/
def Dyn (b : Nat) (j : Int) : Prop := (b = pFi ∧ (j = 0 ∨ j = 1 ∨ j = 2)) ∨ (b = pRe ∧ j = 4) ∨ (b = pLo ∧ j = 5)
def FrQ (P : Nat → Int → Prop) (h h' : PH) : Prop := (∀ b j, ¬ P b j → gI h' b j = gI h b j) ∧ (∀ b j, ¬ Dyn b j → gR h' b j = gR h b j) ∧ hN h' = hN h ∧ hC h' = hC h ∧ hZ h' = hZ h
theorem FrQ_of {P : Nat → Int → Prop} {h h' : PH} (f : FrP P h h') : FrQ P h h' := ⟨f.1, fun b j _ => f.2.1 b j, f.2.2⟩
theorem FrQ_refl (P : Nat → Int → Prop) (h : PH) : FrQ P h h := FrQ_of (FrP_refl P h)
theorem FrQ_trans {P : Nat → Int → Prop} {h h' h'' : PH} (a : FrQ P h h') (b : FrQ P h' h'') : FrQ P h h'' := ⟨fun p j q => (b.1 p j q).trans (a.1 p j q), fun p j q => (b.2.1 p j q).trans (a.2.1 p j q), b.2.2.1.trans a.2.2.1, b.2.2.2.1.trans a.2.2.2.1, b.2.2.2.2.trans a.2.2.2.2⟩
theorem FrQ_mono {P P' : Nat → Int → Prop} {h h' : PH} (hP : ∀ b j, P b j → P' b j) (a : FrQ P h h') : FrQ P' h h' := ⟨fun b j q => a.1 b j (fun z => q (hP b j z)), a.2⟩
theorem FrQ_sI {P : Nat → Int → Prop} {h h' : PH} {b : Nat} {k v : Int} (hb : P b k) (f : FrQ P h h') : FrQ P h (sI h' b k v) := ⟨fun a j q => by rw [gI_sI, if_neg (fun z => q (by rw [z.1, z.2]; exact hb))]; exact f.1 a j q, f.2⟩
theorem FrQ_sR {P : Nat → Int → Prop} {h h' : PH} {b : Nat} {k : Int} {v : Option Nat} (hb : Dyn b k) (f : FrQ P h h') : FrQ P h (sR h' b k v) := ⟨f.1, fun a j q => by rw [gR_sR, if_neg (fun z => q (by rw [z.1, z.2]; exact hb))]; exact f.2.1 a j q, f.2.2⟩
theorem FrQ_arr {P : Nat → Int → Prop} {h h' : PH} (f : FrQ P h h') {b : Nat} (hb : ∀ j, ¬ P b j) : gI h' b = gI h b := funext fun j => f.1 b j (hb j)
theorem Dyn_sh {p : Nat} (h : SH p = .inl 6) (j : Int) : ¬ Dyn p j := by
  rintro (⟨rfl, -⟩ | ⟨rfl, -⟩ | ⟨rfl, -⟩) <;> exact absurd h (by decide)
theorem CRf_of {h h' : PH} (e : ∀ b j, ¬ Dyn b j → gR h' b j = gR h b j) (w : CRf h) : CRf h' := by
  unfold CRf at w ⊢
  rw [e pHo 0 (by unfold Dyn; simp (decide := true)), e pHo 3 (by unfold Dyn; simp (decide := true)), e pHo 4 (by unfold Dyn; simp (decide := true)), e pHo 5 (by unfold Dyn; simp (decide := true)), e pHo 6 (by unfold Dyn; simp (decide := true)), e pHo 7 (by unfold Dyn; simp (decide := true)), e pHo 8 (by unfold Dyn; simp (decide := true)), e pHo 9 (by unfold Dyn; simp (decide := true)), e pHo 13 (by unfold Dyn; simp (decide := true)), e pHo 15 (by unfold Dyn; simp (decide := true)), e pHo 16 (by unfold Dyn; simp (decide := true)), e pWs 0 (by unfold Dyn; simp (decide := true)), e pSs 0 (by unfold Dyn; simp (decide := true)), e pRe 0 (by unfold Dyn; simp (decide := true)), e pRe 1 (by unfold Dyn; simp (decide := true)), e pRe 2 (by unfold Dyn; simp (decide := true)), e pRe 3 (by unfold Dyn; simp (decide := true)), e pTa 0 (by unfold Dyn; simp (decide := true)), e pTa 1 (by unfold Dyn; simp (decide := true)), e pTa 2 (by unfold Dyn; simp (decide := true)), e pTa 3 (by unfold Dyn; simp (decide := true)), e pTa 4 (by unfold Dyn; simp (decide := true)), e pTa 5 (by unfold Dyn; simp (decide := true)), e pTa 6 (by unfold Dyn; simp (decide := true)), e pWa 0 (by unfold Dyn; simp (decide := true)), e pWa 2 (by unfold Dyn; simp (decide := true)), e pWa 3 (by unfold Dyn; simp (decide := true)), e pWa 4 (by unfold Dyn; simp (decide := true)), e pWa 5 (by unfold Dyn; simp (decide := true)), e pWa 6 (by unfold Dyn; simp (decide := true)), e pLo 0 (by unfold Dyn; simp (decide := true)), e pLo 1 (by unfold Dyn; simp (decide := true)), e pLo 2 (by unfold Dyn; simp (decide := true)), e pLo 3 (by unfold Dyn; simp (decide := true)), e pLo 4 (by unfold Dyn; simp (decide := true)), e pSh 0 (by unfold Dyn; simp (decide := true)), e pSh 1 (by unfold Dyn; simp (decide := true)), e pSh 2 (by unfold Dyn; simp (decide := true))]
  exact w
theorem CKt_of {h h' : PH} (e : ∀ b j, ¬ Dyn b j → gR h' b j = gR h b j) (en : hN h' = hN h) (w : CKt h) : CKt h' := by
  unfold CKt at w ⊢
  rw [en, e pKt 0 (by unfold Dyn; simp (decide := true)), e pKt 1 (by unfold Dyn; simp (decide := true)), e pKt 2 (by unfold Dyn; simp (decide := true)), e pKt 3 (by unfold Dyn; simp (decide := true)), e pKt 4 (by unfold Dyn; simp (decide := true)), e pKt 5 (by unfold Dyn; simp (decide := true)), e pKt 6 (by unfold Dyn; simp (decide := true))]
  exact w
theorem FrQ_CW {P : Nat → Int → Prop} {h h' : PH} (f : FrQ P h h') (w : CW h) : CW h' := by
  obtain ⟨w1, w2, w3, w4, w5, w6, w7, w8⟩ := w
  have e := f.2.1
  have d : ∀ a, (a = pWs_e ∨ a = pSs_e ∨ a = pRe_sums ∨ a = pRe_firsts ∨ a = pHo) → ∀ j, ¬ Dyn a j := by
    rintro a (rfl | rfl | rfl | rfl | rfl) j <;> (unfold Dyn; simp (decide := true))
  refine ⟨by rw [f.2.2.1]; exact w1, CRf_of e w2, fun p hp => by rw [e p 0 (Dyn_sh hp 0)]; exact w3 p hp, fun k hk => by rw [e _ _ (d _ (by simp) _)]; exact w4 k hk, fun k hk => by rw [e _ _ (d _ (by simp) _)]; exact w5 k hk, fun k hk => by rw [e _ _ (d _ (by simp) _)]; exact w6 k hk, fun k hk => by rw [e _ _ (d _ (by simp) _)]; exact w7 k hk, ?_⟩
  rw [e pHo 11 (d _ (by simp) _)]
  rcases w8 with q | ⟨q1, q2⟩
  · exact Or.inl q
  · exact Or.inr ⟨q1, CKt_of e f.2.2.1 q2⟩
theorem FrP_CW {P : Nat → Int → Prop} {h h' : PH} (f : FrP P h h') (w : CW h) : CW h' := FrQ_CW (FrQ_of f) w
theorem FrQ_MW {P : Nat → Int → Prop} {h h' : PH} (f : FrQ P h h') (w : MW h) : MW h' := by
  have e : ∀ j, gR h' pMo j = gR h pMo j := fun j => f.2.1 _ _ (by unfold Dyn; simp (decide := true))
  unfold MW at w ⊢
  simp only [e, f.2.2.1]
  exact w
/-- a Word of the component, at p -/
def wP (p : Nat) : Prop := p < 154 ∧ SH p = .inl 6
theorem wd_sh : ∀ p, p < 154 → SH p = .inl 6 → SH (p + 1) = .inr (0, (lnA (p + 1)).toNat) ∧ (lnA (p + 1) = 40 ∨ lnA (p + 1) = 160 ∨ lnA (p + 1) = 1) := by
  intro p hp
  have : ∀ q : Fin 154, SH q.1 = .inl 6 → SH (q.1 + 1) = .inr (0, (lnA (q.1 + 1)).toNat) ∧ (lnA (q.1 + 1) = 40 ∨ lnA (q.1 + 1) = 160 ∨ lnA (q.1 + 1) = 1) := by decide +kernel
  exact this ⟨p, hp⟩
theorem wd_O {h : PH} (w : CW h) {p : Nat} (hp : wP p) : isO h p 6 := ⟨Nat.lt_of_lt_of_le hp.1 w.1, hp.2⟩
theorem wd_R {h : PH} (w : CW h) {p : Nat} (hp : wP p) : gR h p 0 = some (p + 1) := w.2.2.1 p hp.2
theorem wd_A {h : PH} (w : CW h) {p : Nat} (hp : wP p) : isAr h (p + 1) 0 := by
  have h1 := (wd_sh p hp.1 hp.2).1
  refine ⟨?_, _, h1⟩
  have hne : p ≠ 153 := by rintro rfl; exact absurd hp.2 (by decide)
  have := w.1
  have := hp.1
  omega
theorem wd_ne {p q : Nat} (hp : wP p) (hq : wP q) : p ≠ q + 1 := by
  rintro rfl
  have := (wd_sh q hq.1 hq.2).1
  rw [hp.2] at this
  exact absurd this (by simp)
theorem pn1 {p : Nat} : (p = p + 1) = False := eq_false (by omega)
theorem pn2 {p : Nat} : (p + 1 = p) = False := eq_false (by omega)
theorem wd_Ws {k : Nat} (h : k < 12) : wP (pWs_0 + 2 * k) := by
  have : ∀ q : Fin 12, pWs_0 + 2 * q.1 < 154 ∧ SH (pWs_0 + 2 * q.1) = .inl 6 := by decide
  exact this ⟨k, h⟩
theorem wd_Ss {k : Nat} (h : k < 6) : wP (pSs_0 + 2 * k) := by
  have : ∀ q : Fin 6, pSs_0 + 2 * q.1 < 154 ∧ SH (pSs_0 + 2 * q.1) = .inl 6 := by decide
  exact this ⟨k, h⟩
theorem wd_Sum {k : Nat} (h : k < 9) : wP (pSum0 + 4 * k) := by
  have : ∀ q : Fin 9, pSum0 + 4 * q.1 < 154 ∧ SH (pSum0 + 4 * q.1) = .inl 6 := by decide
  exact this ⟨k, h⟩
theorem wd_First {k : Nat} (h : k < 9) : wP (pFirst0 + 4 * k) := by
  have : ∀ q : Fin 9, pFirst0 + 4 * q.1 < 154 ∧ SH (pFirst0 + 4 * q.1) = .inl 6 := by decide
  exact this ⟨k, h⟩
theorem cr_Ho_0 {h : PH} (w : CW h) : gR h pHo 0 = some pHo_tape := w.2.1.1
theorem cr_Ho_3 {h : PH} (w : CW h) : gR h pHo 3 = some pWs := w.2.1.2.1
theorem cr_Ho_4 {h : PH} (w : CW h) : gR h pHo 4 = some pSs := w.2.1.2.2.1
theorem cr_Ho_5 {h : PH} (w : CW h) : gR h pHo 5 = some pAsk := w.2.1.2.2.2.1
theorem cr_Ho_6 {h : PH} (w : CW h) : gR h pHo 6 = some pRe := w.2.1.2.2.2.2.1
theorem cr_Ho_7 {h : PH} (w : CW h) : gR h pHo 7 = some pTa := w.2.1.2.2.2.2.2.1
theorem cr_Ho_8 {h : PH} (w : CW h) : gR h pHo 8 = some pFi := w.2.1.2.2.2.2.2.2.1
theorem cr_Ho_9 {h : PH} (w : CW h) : gR h pHo 9 = some pWa := w.2.1.2.2.2.2.2.2.2.1
theorem cr_Ho_13 {h : PH} (w : CW h) : gR h pHo 13 = some pHo_told := w.2.1.2.2.2.2.2.2.2.2.1
theorem cr_Ho_15 {h : PH} (w : CW h) : gR h pHo 15 = some pLo := w.2.1.2.2.2.2.2.2.2.2.2.1
theorem cr_Ho_16 {h : PH} (w : CW h) : gR h pHo 16 = some pSh := w.2.1.2.2.2.2.2.2.2.2.2.2.1
theorem cr_Ws_0 {h : PH} (w : CW h) : gR h pWs 0 = some pWs_e := w.2.1.2.2.2.2.2.2.2.2.2.2.2.1
theorem cr_Ss_0 {h : PH} (w : CW h) : gR h pSs 0 = some pSs_e := w.2.1.2.2.2.2.2.2.2.2.2.2.2.2.1
theorem cr_Re_0 {h : PH} (w : CW h) : gR h pRe 0 = some pRe_sums := w.2.1.2.2.2.2.2.2.2.2.2.2.2.2.2.1
theorem cr_Re_1 {h : PH} (w : CW h) : gR h pRe 1 = some pRe_firsts := w.2.1.2.2.2.2.2.2.2.2.2.2.2.2.2.2.1
theorem cr_Re_2 {h : PH} (w : CW h) : gR h pRe 2 = some pAtom := w.2.1.2.2.2.2.2.2.2.2.2.2.2.2.2.2.2.1
theorem cr_Re_3 {h : PH} (w : CW h) : gR h pRe 3 = some pRaised := w.2.1.2.2.2.2.2.2.2.2.2.2.2.2.2.2.2.2.1
theorem cr_Ta_0 {h : PH} (w : CW h) : gR h pTa 0 = some pTa_cells := w.2.1.2.2.2.2.2.2.2.2.2.2.2.2.2.2.2.2.2.1
theorem cr_Ta_1 {h : PH} (w : CW h) : gR h pTa 1 = some pTa_numbers := w.2.1.2.2.2.2.2.2.2.2.2.2.2.2.2.2.2.2.2.2.1
theorem cr_Ta_2 {h : PH} (w : CW h) : gR h pTa 2 = some pTa_done := w.2.1.2.2.2.2.2.2.2.2.2.2.2.2.2.2.2.2.2.2.2.1
theorem cr_Ta_3 {h : PH} (w : CW h) : gR h pTa 3 = some pTa_order := w.2.1.2.2.2.2.2.2.2.2.2.2.2.2.2.2.2.2.2.2.2.2.1
theorem cr_Ta_4 {h : PH} (w : CW h) : gR h pTa 4 = some pTa_spare := w.2.1.2.2.2.2.2.2.2.2.2.2.2.2.2.2.2.2.2.2.2.2.2.1
theorem cr_Ta_5 {h : PH} (w : CW h) : gR h pTa 5 = some pTa_parents := w.2.1.2.2.2.2.2.2.2.2.2.2.2.2.2.2.2.2.2.2.2.2.2.2.1
theorem cr_Ta_6 {h : PH} (w : CW h) : gR h pTa 6 = some pTa_melting := w.2.1.2.2.2.2.2.2.2.2.2.2.2.2.2.2.2.2.2.2.2.2.2.2.2.1
theorem cr_Wa_0 {h : PH} (w : CW h) : gR h pWa 0 = some pWa_queue := w.2.1.2.2.2.2.2.2.2.2.2.2.2.2.2.2.2.2.2.2.2.2.2.2.2.2.1
theorem cr_Wa_2 {h : PH} (w : CW h) : gR h pWa 2 = some pWa_origins := w.2.1.2.2.2.2.2.2.2.2.2.2.2.2.2.2.2.2.2.2.2.2.2.2.2.2.2.1
theorem cr_Wa_3 {h : PH} (w : CW h) : gR h pWa 3 = some pWa_vias := w.2.1.2.2.2.2.2.2.2.2.2.2.2.2.2.2.2.2.2.2.2.2.2.2.2.2.2.2.1
theorem cr_Wa_4 {h : PH} (w : CW h) : gR h pWa 4 = some pWa_lengths := w.2.1.2.2.2.2.2.2.2.2.2.2.2.2.2.2.2.2.2.2.2.2.2.2.2.2.2.2.2.1
theorem cr_Wa_5 {h : PH} (w : CW h) : gR h pWa 5 = some pWa_seen := w.2.1.2.2.2.2.2.2.2.2.2.2.2.2.2.2.2.2.2.2.2.2.2.2.2.2.2.2.2.2.1
theorem cr_Wa_6 {h : PH} (w : CW h) : gR h pWa 6 = some pSingle := w.2.1.2.2.2.2.2.2.2.2.2.2.2.2.2.2.2.2.2.2.2.2.2.2.2.2.2.2.2.2.2.1
theorem cr_Lo_0 {h : PH} (w : CW h) : gR h pLo 0 = some pLo_cells := w.2.1.2.2.2.2.2.2.2.2.2.2.2.2.2.2.2.2.2.2.2.2.2.2.2.2.2.2.2.2.2.2.1
theorem cr_Lo_1 {h : PH} (w : CW h) : gR h pLo 1 = some pLo_kept := w.2.1.2.2.2.2.2.2.2.2.2.2.2.2.2.2.2.2.2.2.2.2.2.2.2.2.2.2.2.2.2.2.2.1
theorem cr_Lo_2 {h : PH} (w : CW h) : gR h pLo 2 = some pLo_keptRows := w.2.1.2.2.2.2.2.2.2.2.2.2.2.2.2.2.2.2.2.2.2.2.2.2.2.2.2.2.2.2.2.2.2.2.1
theorem cr_Lo_3 {h : PH} (w : CW h) : gR h pLo 3 = some pLo_names := w.2.1.2.2.2.2.2.2.2.2.2.2.2.2.2.2.2.2.2.2.2.2.2.2.2.2.2.2.2.2.2.2.2.2.2.1
theorem cr_Lo_4 {h : PH} (w : CW h) : gR h pLo 4 = some pLo_met := w.2.1.2.2.2.2.2.2.2.2.2.2.2.2.2.2.2.2.2.2.2.2.2.2.2.2.2.2.2.2.2.2.2.2.2.2.1
theorem cr_Sh_0 {h : PH} (w : CW h) : gR h pSh 0 = some pSh_cells := w.2.1.2.2.2.2.2.2.2.2.2.2.2.2.2.2.2.2.2.2.2.2.2.2.2.2.2.2.2.2.2.2.2.2.2.2.2.1
theorem cr_Sh_1 {h : PH} (w : CW h) : gR h pSh 1 = some pSh_seen := w.2.1.2.2.2.2.2.2.2.2.2.2.2.2.2.2.2.2.2.2.2.2.2.2.2.2.2.2.2.2.2.2.2.2.2.2.2.2.1
theorem cr_Sh_2 {h : PH} (w : CW h) : gR h pSh 2 = some pSh_queue := w.2.1.2.2.2.2.2.2.2.2.2.2.2.2.2.2.2.2.2.2.2.2.2.2.2.2.2.2.2.2.2.2.2.2.2.2.2.2.2
theorem co_Ho {h : PH} (w : CW h) : isO h pHo 8 := ⟨Nat.lt_of_lt_of_le (by decide) w.1, rfl⟩
theorem ca_Ho_tape {h : PH} (w : CW h) : isAr h pHo_tape 1 := ⟨Nat.lt_of_lt_of_le (by decide) w.1, 400, rfl⟩
theorem cl_Ho_tape : lnA pHo_tape = 400 := rfl
theorem co_Ws {h : PH} (w : CW h) : isO h pWs 7 := ⟨Nat.lt_of_lt_of_le (by decide) w.1, rfl⟩
theorem co_Ss {h : PH} (w : CW h) : isO h pSs 7 := ⟨Nat.lt_of_lt_of_le (by decide) w.1, rfl⟩
theorem co_Ask {h : PH} (w : CW h) : isO h pAsk 6 := ⟨Nat.lt_of_lt_of_le (by decide) w.1, rfl⟩
theorem co_Re {h : PH} (w : CW h) : isO h pRe 2 := ⟨Nat.lt_of_lt_of_le (by decide) w.1, rfl⟩
theorem co_Ta {h : PH} (w : CW h) : isO h pTa 4 := ⟨Nat.lt_of_lt_of_le (by decide) w.1, rfl⟩
theorem co_Fi {h : PH} (w : CW h) : isO h pFi 0 := ⟨Nat.lt_of_lt_of_le (by decide) w.1, rfl⟩
theorem co_Wa {h : PH} (w : CW h) : isO h pWa 5 := ⟨Nat.lt_of_lt_of_le (by decide) w.1, rfl⟩
theorem ca_Ho_told {h : PH} (w : CW h) : isAr h pHo_told 1 := ⟨Nat.lt_of_lt_of_le (by decide) w.1, 300, rfl⟩
theorem cl_Ho_told : lnA pHo_told = 300 := rfl
theorem co_Lo {h : PH} (w : CW h) : isO h pLo 1 := ⟨Nat.lt_of_lt_of_le (by decide) w.1, rfl⟩
theorem co_Sh {h : PH} (w : CW h) : isO h pSh 3 := ⟨Nat.lt_of_lt_of_le (by decide) w.1, rfl⟩
theorem ca_Ws_e {h : PH} (w : CW h) : isAr h pWs_e 4 := ⟨Nat.lt_of_lt_of_le (by decide) w.1, 12, rfl⟩
theorem cl_Ws_e : lnA pWs_e = 12 := rfl
theorem ca_Ss_e {h : PH} (w : CW h) : isAr h pSs_e 4 := ⟨Nat.lt_of_lt_of_le (by decide) w.1, 6, rfl⟩
theorem cl_Ss_e : lnA pSs_e = 6 := rfl
theorem ca_Re_sums {h : PH} (w : CW h) : isAr h pRe_sums 4 := ⟨Nat.lt_of_lt_of_le (by decide) w.1, 9, rfl⟩
theorem cl_Re_sums : lnA pRe_sums = 9 := rfl
theorem ca_Re_firsts {h : PH} (w : CW h) : isAr h pRe_firsts 4 := ⟨Nat.lt_of_lt_of_le (by decide) w.1, 9, rfl⟩
theorem cl_Re_firsts : lnA pRe_firsts = 9 := rfl
theorem co_Atom {h : PH} (w : CW h) : isO h pAtom 6 := ⟨Nat.lt_of_lt_of_le (by decide) w.1, rfl⟩
theorem co_Raised {h : PH} (w : CW h) : isO h pRaised 6 := ⟨Nat.lt_of_lt_of_le (by decide) w.1, rfl⟩
theorem ca_Ta_cells {h : PH} (w : CW h) : isAr h pTa_cells 0 := ⟨Nat.lt_of_lt_of_le (by decide) w.1, 3000, rfl⟩
theorem cl_Ta_cells : lnA pTa_cells = 3000 := rfl
theorem ca_Ta_numbers {h : PH} (w : CW h) : isAr h pTa_numbers 0 := ⟨Nat.lt_of_lt_of_le (by decide) w.1, 300, rfl⟩
theorem cl_Ta_numbers : lnA pTa_numbers = 300 := rfl
theorem ca_Ta_done {h : PH} (w : CW h) : isAr h pTa_done 2 := ⟨Nat.lt_of_lt_of_le (by decide) w.1, 300, rfl⟩
theorem cl_Ta_done : lnA pTa_done = 300 := rfl
theorem ca_Ta_order {h : PH} (w : CW h) : isAr h pTa_order 0 := ⟨Nat.lt_of_lt_of_le (by decide) w.1, 300, rfl⟩
theorem cl_Ta_order : lnA pTa_order = 300 := rfl
theorem ca_Ta_spare {h : PH} (w : CW h) : isAr h pTa_spare 0 := ⟨Nat.lt_of_lt_of_le (by decide) w.1, 300, rfl⟩
theorem cl_Ta_spare : lnA pTa_spare = 300 := rfl
theorem ca_Ta_parents {h : PH} (w : CW h) : isAr h pTa_parents 0 := ⟨Nat.lt_of_lt_of_le (by decide) w.1, 300, rfl⟩
theorem cl_Ta_parents : lnA pTa_parents = 300 := rfl
theorem ca_Ta_melting {h : PH} (w : CW h) : isAr h pTa_melting 0 := ⟨Nat.lt_of_lt_of_le (by decide) w.1, 300, rfl⟩
theorem cl_Ta_melting : lnA pTa_melting = 300 := rfl
theorem ca_Wa_queue {h : PH} (w : CW h) : isAr h pWa_queue 0 := ⟨Nat.lt_of_lt_of_le (by decide) w.1, 300, rfl⟩
theorem cl_Wa_queue : lnA pWa_queue = 300 := rfl
theorem ca_Wa_origins {h : PH} (w : CW h) : isAr h pWa_origins 0 := ⟨Nat.lt_of_lt_of_le (by decide) w.1, 300, rfl⟩
theorem cl_Wa_origins : lnA pWa_origins = 300 := rfl
theorem ca_Wa_vias {h : PH} (w : CW h) : isAr h pWa_vias 0 := ⟨Nat.lt_of_lt_of_le (by decide) w.1, 300, rfl⟩
theorem cl_Wa_vias : lnA pWa_vias = 300 := rfl
theorem ca_Wa_lengths {h : PH} (w : CW h) : isAr h pWa_lengths 0 := ⟨Nat.lt_of_lt_of_le (by decide) w.1, 300, rfl⟩
theorem cl_Wa_lengths : lnA pWa_lengths = 300 := rfl
theorem ca_Wa_seen {h : PH} (w : CW h) : isAr h pWa_seen 2 := ⟨Nat.lt_of_lt_of_le (by decide) w.1, 300, rfl⟩
theorem cl_Wa_seen : lnA pWa_seen = 300 := rfl
theorem co_Single {h : PH} (w : CW h) : isO h pSingle 6 := ⟨Nat.lt_of_lt_of_le (by decide) w.1, rfl⟩
theorem ca_Lo_cells {h : PH} (w : CW h) : isAr h pLo_cells 0 := ⟨Nat.lt_of_lt_of_le (by decide) w.1, 60, rfl⟩
theorem cl_Lo_cells : lnA pLo_cells = 60 := rfl
theorem ca_Lo_kept {h : PH} (w : CW h) : isAr h pLo_kept 0 := ⟨Nat.lt_of_lt_of_le (by decide) w.1, 2400, rfl⟩
theorem cl_Lo_kept : lnA pLo_kept = 2400 := rfl
theorem ca_Lo_keptRows {h : PH} (w : CW h) : isAr h pLo_keptRows 0 := ⟨Nat.lt_of_lt_of_le (by decide) w.1, 40, rfl⟩
theorem cl_Lo_keptRows : lnA pLo_keptRows = 40 := rfl
theorem ca_Lo_names {h : PH} (w : CW h) : isAr h pLo_names 0 := ⟨Nat.lt_of_lt_of_le (by decide) w.1, 6, rfl⟩
theorem cl_Lo_names : lnA pLo_names = 6 := rfl
theorem ca_Lo_met {h : PH} (w : CW h) : isAr h pLo_met 0 := ⟨Nat.lt_of_lt_of_le (by decide) w.1, 6, rfl⟩
theorem cl_Lo_met : lnA pLo_met = 6 := rfl
theorem ca_Sh_cells {h : PH} (w : CW h) : isAr h pSh_cells 0 := ⟨Nat.lt_of_lt_of_le (by decide) w.1, 400, rfl⟩
theorem cl_Sh_cells : lnA pSh_cells = 400 := rfl
theorem ca_Sh_seen {h : PH} (w : CW h) : isAr h pSh_seen 2 := ⟨Nat.lt_of_lt_of_le (by decide) w.1, 40, rfl⟩
theorem cl_Sh_seen : lnA pSh_seen = 40 := rfl
theorem ca_Sh_queue {h : PH} (w : CW h) : isAr h pSh_queue 0 := ⟨Nat.lt_of_lt_of_le (by decide) w.1, 40, rfl⟩
theorem cl_Sh_queue : lnA pSh_queue = 40 := rfl
