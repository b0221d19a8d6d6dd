/-! READING: the machine's steps, for the component's descent -/
def stp (ch : Int → Int) (sz m : Int) : Nat → RS → RS → Prop
  | 0, s, t => t = s
  | n + 1, s, t => (rsS ch sz m s).1 = 0 ∧ stp ch sz m n (rsS ch sz m s).2.2 t
def Srn (ch : Int → Int) (sz m : Int) (s t : RS) : Prop := ∃ n, stp ch sz m n s t
theorem stp_add {ch : Int → Int} {sz m : Int} : ∀ {n k : Nat} {s t u : RS}, stp ch sz m n s t → stp ch sz m k t u → stp ch sz m (n + k) s u
  | 0, k, s, t, u, h1, h2 => by rw [Nat.zero_add]; rw [show t = s from h1] at h2; exact h2
  | n + 1, k, s, t, u, h1, h2 => by
    rw [show n + 1 + k = (n + k) + 1 by omega]
    exact ⟨h1.1, stp_add h1.2 h2⟩
theorem Srn_refl {ch : Int → Int} {sz m : Int} (s : RS) : Srn ch sz m s s := ⟨0, rfl⟩
theorem Srn_trans {ch : Int → Int} {sz m : Int} {s t u : RS} (h1 : Srn ch sz m s t) (h2 : Srn ch sz m t u) : Srn ch sz m s u := by
  obtain ⟨n, hn⟩ := h1
  obtain ⟨k, hk⟩ := h2
  exact ⟨n + k, stp_add hn hk⟩
theorem Srn_one {ch : Int → Int} {sz m : Int} {s t : RS} (h : rsS ch sz m s = (0, 0, t)) : Srn ch sz m s t := ⟨1, by rw [h], by rw [h]; rfl⟩
theorem stp_rat {ch : Int → Int} {sz m : Int} (hc : ∀ j, sz ≤ j → ch j = -1) (m1 : 1 ≤ m) (m5 : m ≤ 5) (hsz : sz ≤ 400) : ∀ {n : Nat} {s t : RS}, rsI sz m s → stp ch sz m n s t → rsI sz m t ∧ rat s + n ≤ rat t
  | 0, s, t, hI, h => by rw [show t = s from h]; exact ⟨hI, by omega⟩
  | n + 1, s, t, hI, h => by
    have o := rsS_ok hc m1 m5 hsz hI h.1
    have ih := stp_rat hc m1 m5 hsz o.1 h.2
    exact ⟨ih.1, by push_cast; omega⟩
theorem rsR_stp {ch : Int → Int} {sz m : Int} : ∀ {n f : Nat} {s t : RS}, stp ch sz m n s t → (rsS ch sz m t).1 ≠ 0 → n < f → rsR ch sz m f s = rsS ch sz m t
  | 0, f, s, t, h, h0, hf => by
    obtain ⟨f', rfl⟩ : ∃ f', f = f' + 1 := ⟨f - 1, by omega⟩
    rw [show t = s from h] at h0 ⊢
    exact if_neg h0
  | n + 1, f, s, t, h, h0, hf => by
    obtain ⟨f', rfl⟩ : ∃ f', f = f' + 1 := ⟨f - 1, by omega⟩
    show (if (rsS ch sz m s).1 = 0 then rsR ch sz m f' (rsS ch sz m s).2.2 else rsS ch sz m s) = _
    rw [if_pos h.1]
    exact rsR_stp h.2 h0 (by omega)
theorem rs0_I {sz m : Int} (z0 : 0 ≤ sz) : rsI sz m (rs0 0) := ⟨Nat.zero_le _, rfl, fun i h1 h2 => absurd h2 (by show ¬ i ≤ 0; omega), fun i _ => Or.inl rfl, fun i _ => okW_nil, fun i _ h => absurd (show (0 : Int) = 3 from h) (by decide), fun i h1 h2 => absurd h2 (by show ¬ i ≤ 0; omega), Int.le_refl _, z0⟩
/-- all that reading comes to -/
theorem rsR_all {ch : Int → Int} {sz m : Int} (hc : ∀ j, sz ≤ j → ch j = -1) (m1 : 1 ≤ m) (m5 : m ≤ 5) (z0 : 0 ≤ sz) (hsz : sz ≤ 400) {t : RS} (h : Srn ch sz m (rs0 0) t) (h0 : (rsS ch sz m t).1 ≠ 0) : rsR ch sz m bB (rs0 0) = rsS ch sz m t := by
  obtain ⟨n, hn⟩ := h
  have o := stp_rat hc m1 m5 hsz (rs0_I z0) hn
  have := bB_eq
  have r0 : rat (rs0 0) = 0 := rfl
  have r1 := o.1.2.2.2.2.2.2.2.2
  exact rsR_stp hn h0 (by omega)
theorem skA_id {ch : Int → Int} {sz a : Int} (h : a ≤ sz) : skA ch sz (skA ch sz a) = skA ch sz a := by
  have k := skA_le (ch := ch) h
  refine lsF_eq (Int.le_refl _) (by omega) (fun j x y => by omega) (fun y => ?_)
  exact lsF_has (g := fun j => if ch j = 32 then 0 else 1) (n := (sz - a).toNat) (x := a) (show skA ch sz a < _ by omega)
/-- what stands below a depth -/
def lowQ (d : Nat) (s s' : RS) : Prop := rl s' = d ∧ (∀ i, i < d → rop s' i = rop s i ∧ rbg s' i = rbg s i) ∧ (∀ i, i ≤ d → roa s' i = roa s i) ∧ ∀ j, j < 2 * d → rpl s' j = rpl s j
theorem lowQ_refl {d : Nat} {s : RS} (h : rl s = d) : lowQ d s s := ⟨h, fun _ _ => ⟨rfl, rfl⟩, fun _ _ => rfl, fun _ _ => rfl⟩
theorem lowQ_trans {d : Nat} {s t u : RS} (h1 : lowQ d s t) (h2 : lowQ d t u) : lowQ d s u := ⟨h2.1, fun i hi => ⟨(h2.2.1 i hi).1.trans (h1.2.1 i hi).1, (h2.2.1 i hi).2.trans (h1.2.1 i hi).2⟩, fun i hi => (h2.2.2.1 i hi).trans (h1.2.2.1 i hi), fun j hj => (h2.2.2.2 j hj).trans (h1.2.2.2 j hj)⟩
/-- at a depth itself: the bracket and a commutator's first word -/
def lowT (d : Nat) (s s' : RS) : Prop := rop s' d = rop s d ∧ rpl s' (2 * d + 1) = rpl s (2 * d + 1)
/-- the factor that comes next is joined to what stands -/
def fact (ch : Int → Int) (sz m : Int) (s : RS) (d : Nat) (a0 a2 : Int) (U : List Int) : Prop := ∃ (s2 : RS) (g : Int × Int × List Int × Int → RS), Srn ch sz m s s2 ∧ (∀ F, F = faF ch sz a2 U (rpl s (2 * d)) a0 → rsS ch sz m s2 = faR ch sz s2 F (g F)) ∧ ∀ F, lowQ d s (g F) ∧ lowT d s (g F) ∧ rbg (g F) d = 1 ∧ rpl (g F) (2 * d) = F.2.2.1 ∧ rat (g F) = F.2.2.2
theorem fact_letter {ch : Int → Int} {sz m : Int} {s : RS} {a : Int} (ha : a = skA ch sz (rat s)) (hb : rbg s (rl s) < 2) (h1 : ¬ (rbg s (rl s) = 0 ∧ ch a = 49)) (hl : isLt m (ch a)) : fact ch sz m s (rl s) a (a + 1) [colC (ch a)] := by
  refine ⟨s, rs2 s, Srn_refl s, fun F hF => ?_, fun F => ⟨⟨rfl, fun i hi => ⟨rfl, ?_⟩, fun _ _ => rfl, fun j hj => ?_⟩, ⟨rfl, ?_⟩, ?_, ?_, rfl⟩⟩
  · unfold rsS rsA
    rw [← ha, if_neg h1, if_pos ⟨hb, hl⟩, hF]
  · show upN (rbg s) (rl s) 1 i = rbg s i
    rw [upN_ne (by omega)]
  · show upN (rpl s) (2 * rl s) F.2.2.1 j = rpl s j
    rw [upN_ne (by omega)]
  · show upN (rpl s) (2 * rl s) F.2.2.1 (2 * rl s + 1) = _
    rw [upN_ne (by omega)]
  · exact upN_eq
  · exact upN_eq
/-- a bracket is opened -/
theorem st_open {ch : Int → Int} {sz m : Int} {s : RS} {a : Int} (ha : a = skA ch sz (rat s)) (hb : rbg s (rl s) < 2) (hl : ¬ isLt m (ch a)) (hc : ch a = 40 ∨ ch a = 91) (h8 : rl s ≠ 8) : rsS ch sz m s = (0, 0, rs3 s (ch a) a) := by
  unfold rsS rsA
  rw [← ha, if_neg (fun z => by omega), if_neg (fun z => hl z.2), if_pos ⟨hb, hc⟩, if_neg h8]
theorem st_deep {ch : Int → Int} {sz m : Int} {s : RS} {a : Int} (ha : a = skA ch sz (rat s)) (hb : rbg s (rl s) < 2) (hl : ¬ isLt m (ch a)) (hc : ch a = 40 ∨ ch a = 91) (h8 : rl s = 8) : rsS ch sz m s = (3, a, s) := by
  unfold rsS rsA
  rw [← ha, if_neg (fun z => by omega), if_neg (fun z => hl z.2), if_pos ⟨hb, hc⟩, if_pos h8]
theorem st_form {ch : Int → Int} {sz m : Int} {s : RS} {a : Int} (ha : a = skA ch sz (rat s)) (h1 : ¬ (rbg s (rl s) = 0 ∧ ch a = 49)) (hl : rbg s (rl s) < 2 → ¬ bgF m (ch a)) (hq : rbg s (rl s) = 0 ∨ ch a ≠ exC (rop s (rl s))) : rsS ch sz m s = (1, a, s) := by
  unfold rsS rsA
  rw [← ha, if_neg h1, if_neg (fun z => hl z.1 (Or.inl z.2)), if_neg (fun z => hl z.1 (Or.inr z.2)), if_pos hq]
theorem st_one {ch : Int → Int} {sz m : Int} {s : RS} {a : Int} (ha : a = skA ch sz (rat s)) (hb : rbg s (rl s) = 0) (h1 : ch a = 49) : rsS ch sz m s = (0, 0, rs1 s a) := by
  unfold rsS rsA
  rw [← ha, if_pos ⟨hb, h1⟩]
theorem st_end {ch : Int → Int} {sz m : Int} {s : RS} {a : Int} (ha : a = skA ch sz (rat s)) (hb : rbg s (rl s) ≠ 0) (hl : rbg s (rl s) < 2 → ¬ bgF m (ch a)) (hq : ch a = exC (rop s (rl s))) (ho : rop s (rl s) = 0) : rsS ch sz m s = (-1, 0, s) := by
  unfold rsS rsA
  rw [← ha, if_neg (fun z => hb z.1), if_neg (fun z => hl z.1 (Or.inl z.2)), if_neg (fun z => hl z.1 (Or.inr z.2)), if_neg (fun z => z.elim hb (fun z => z hq)), if_pos ho]
theorem st_comma {ch : Int → Int} {sz m : Int} {s : RS} {a : Int} (ha : a = skA ch sz (rat s)) (hb : rbg s (rl s) ≠ 0) (hl : rbg s (rl s) < 2 → ¬ bgF m (ch a)) (hq : ch a = 44) (ho : rop s (rl s) = 2) : rsS ch sz m s = (0, 0, rs6 s a) := by
  unfold rsS rsA
  rw [← ha, if_neg (fun z => hb z.1), if_neg (fun z => hl z.1 (Or.inl z.2)), if_neg (fun z => hl z.1 (Or.inr z.2)), if_neg (fun z => z.elim hb (fun z => z (by rw [hq, ho]; rfl))), if_neg (by omega), if_pos ho]
theorem st_close {ch : Int → Int} {sz m : Int} {s : RS} {a : Int} (ha : a = skA ch sz (rat s)) (hb : rbg s (rl s) ≠ 0) (hl : rbg s (rl s) < 2 → ¬ bgF m (ch a)) (hq : ch a = exC (rop s (rl s))) (ho : rop s (rl s) ≠ 0) (ho2 : rop s (rl s) ≠ 2) : rsS ch sz m s = faR ch sz s (faF ch sz (a + 1) (clW s) (rpl s (2 * (rl s - 1))) (roa s (rl s))) (rs7 s (faF ch sz (a + 1) (clW s) (rpl s (2 * (rl s - 1))) (roa s (rl s)))) := by
  unfold rsS rsA
  rw [← ha, if_neg (fun z => hb z.1), if_neg (fun z => hl z.1 (Or.inl z.2)), if_neg (fun z => hl z.1 (Or.inr z.2)), if_neg (fun z => z.elim hb (fun z => z hq)), if_neg ho, if_neg ho2]
