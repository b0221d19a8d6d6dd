/-! THE COMPONENT: Table: forgetMelted -/
def mlt (Me : Int → Int) (m s : Int) : Prop := ∃ i, 0 ≤ i ∧ i < m ∧ Me i = s
def Pfm (b : Nat) (j : Int) : Prop := b = pTa_numbers ∨ b = pTa_parents ∨ b = pTa_order ∨ b = pTa_spare ∨ (b = pTa ∧ (j = 8 ∨ j = 12))
def fgR (h h' : PH) (m : Int) : Prop := (∀ s, 0 ≤ s → s < 300 → (mlt (gI h pTa_melting) m s → gI h' pTa_numbers s = -1) ∧ (¬ mlt (gI h pTa_melting) m s → gI h' pTa_numbers s = gI h pTa_numbers s)) ∧ (∀ s, 0 ≤ s → s < 300 → gI h' pTa_parents s = s) ∧ TgO (gI h' pTa 12) (gI h' pTa_numbers) (gI h' pTa_order) (gI h' pTa_spare) ∧ gI h' pTa 8 = (if gI h pTa 8 ≠ 0 ∨ 0 < m then 1 else 0)
def Ct_Ta_forgetMelted : CtT := fun av h post => match av with
  | [.inr (.inl (some p))] => p = pTa ∧ CW h ∧ ∃ (R : Int → Int) (m : Int), gI h pTa 7 = m ∧ m ≤ 299 ∧ TgO (gI h pTa 12) (gI h pTa_numbers) (gI h pTa_order) (gI h pTa_spare) ∧ MIp (gI h pTa_numbers) (gI h pTa_parents) (gI h pTa_melting) R m ∧ ∀ h', FrP Pfm h h' → fgR h h' m → post none h'
  | _ => False
theorem ce_Ta_forgetMelted {p : Nat} {h : PH} {post : TR} : Ct_Ta_forgetMelted [.inr (.inl (some p))] h post = (p = pTa ∧ CW h ∧ ∃ (R : Int → Int) (m : Int), gI h pTa 7 = m ∧ m ≤ 299 ∧ TgO (gI h pTa 12) (gI h pTa_numbers) (gI h pTa_order) (gI h pTa_spare) ∧ MIp (gI h pTa_numbers) (gI h pTa_parents) (gI h pTa_melting) R m ∧ ∀ h', FrP Pfm h h' → fgR h h' m → post none h') := rfl
def B_Ta_forgetMelted_133 : TT := (tt_pZ 4 8 tt_vr)
theorem E_Ta_forgetMelted_133 {K : TK} {R : TR} {ls : LSt} {st : List PV} {h : PH} : B_Ta_forgetMelted_133 K R ls st h = (tt_pZ 4 8 tt_vr) K R ls st h := rfl
theorem S_Ta_forgetMelted_133 (lc lz : Nat) : Snd md_Ta_forgetMelted lc lz 133 (B_Ta_forgetMelted_133) := (snd_pZ (kn := 8) fd_Ta_38 rfl (dget dd_Ta_forgetMelted 75 rfl) (snd_vr (dget dd_Ta_forgetMelted 76 rfl) rfl))
def B_Ta_forgetMelted_132 : TT := (tt_ci 0 (B_Ta_forgetMelted_133))
theorem E_Ta_forgetMelted_132 {K : TK} {R : TR} {ls : LSt} {st : List PV} {h : PH} : B_Ta_forgetMelted_132 K R ls st h = (tt_ci 0 (B_Ta_forgetMelted_133)) K R ls st h := rfl
theorem S_Ta_forgetMelted_132 (lc lz : Nat) : Snd md_Ta_forgetMelted lc lz 132 (B_Ta_forgetMelted_132) := (snd_iconst (n := 0) (dget dd_Ta_forgetMelted 74 rfl) (inR_d rfl) rfl (S_Ta_forgetMelted_133 lc lz))
def B_Ta_forgetMelted_128 : TT := (tt_ci 1 (B_Ta_forgetMelted_133))
theorem E_Ta_forgetMelted_128 {K : TK} {R : TR} {ls : LSt} {st : List PV} {h : PH} : B_Ta_forgetMelted_128 K R ls st h = (tt_ci 1 (B_Ta_forgetMelted_133)) K R ls st h := rfl
theorem S_Ta_forgetMelted_128 (lc lz : Nat) : Snd md_Ta_forgetMelted lc lz 128 (B_Ta_forgetMelted_128) := (snd_iconst (n := 1) (dget dd_Ta_forgetMelted 72 rfl) (inR_d rfl) rfl (snd_goto (tg := 133) (dget dd_Ta_forgetMelted 73 rfl) rfl (S_Ta_forgetMelted_133 lc lz)))
def B_Ta_forgetMelted_108 : TT := (tt_al 0 (tt_il 1 (tt_pI 4 12 (tt_al 0 (tt_al 0 (tt_gI 4 8 (tt_zne (B_Ta_forgetMelted_128) (tt_al 0 (tt_gI 4 7 (tt_zle (B_Ta_forgetMelted_132) (B_Ta_forgetMelted_128)))))))))))
theorem E_Ta_forgetMelted_108 {K : TK} {R : TR} {ls : LSt} {st : List PV} {h : PH} : B_Ta_forgetMelted_108 K R ls st h = (tt_al 0 (tt_il 1 (tt_pI 4 12 (tt_al 0 (tt_al 0 (tt_gI 4 8 (tt_zne (B_Ta_forgetMelted_128) (tt_al 0 (tt_gI 4 7 (tt_zle (B_Ta_forgetMelted_132) (B_Ta_forgetMelted_128))))))))))) K R ls st h := rfl
theorem S_Ta_forgetMelted_108 (lc lz : Nat) : Snd md_Ta_forgetMelted lc lz 108 (B_Ta_forgetMelted_108) := (snd_al_n (n := 0) (dget dd_Ta_forgetMelted 62 rfl) rfl (snd_il_n (n := 1) (dget dd_Ta_forgetMelted 63 rfl) rfl (snd_pI (kn := 12) fd_Ta_51 rfl (dget dd_Ta_forgetMelted 64 rfl) (snd_al_n (n := 0) (dget dd_Ta_forgetMelted 65 rfl) rfl (snd_al_n (n := 0) (dget dd_Ta_forgetMelted 66 rfl) rfl (snd_gI (kn := 8) fd_Ta_38 rfl (dget dd_Ta_forgetMelted 67 rfl) (snd_zne (tg := 128) (dget dd_Ta_forgetMelted 68 rfl) rfl (S_Ta_forgetMelted_128 lc lz) (snd_al_n (n := 0) (dget dd_Ta_forgetMelted 69 rfl) rfl (snd_gI (kn := 7) fd_Ta_34 rfl (dget dd_Ta_forgetMelted 70 rfl) (snd_zle (tg := 132) (dget dd_Ta_forgetMelted 71 rfl) rfl (S_Ta_forgetMelted_132 lc lz) (S_Ta_forgetMelted_128 lc lz)))))))))))
def B_Ta_forgetMelted_102 : TT := (tt_inc 3 1 (tt_cut 50))
theorem E_Ta_forgetMelted_102 {K : TK} {R : TR} {ls : LSt} {st : List PV} {h : PH} : B_Ta_forgetMelted_102 K R ls st h = (tt_inc 3 1 (tt_cut 50)) K R ls st h := rfl
theorem S_Ta_forgetMelted_102 (lc lz : Nat) : Snd md_Ta_forgetMelted lc lz 102 (B_Ta_forgetMelted_102) := (snd_inc (dget dd_Ta_forgetMelted 60 rfl) (snd_goto (tg := 50) (dget dd_Ta_forgetMelted 61 rfl) rfl snd_cut))
def B_Ta_forgetMelted_91 : TT := (tt_al 0 (tt_gR 4 4 (tt_il 2 (tt_il 4 (tt_iS (tt_inc 2 1 (B_Ta_forgetMelted_102)))))))
theorem E_Ta_forgetMelted_91 {K : TK} {R : TR} {ls : LSt} {st : List PV} {h : PH} : B_Ta_forgetMelted_91 K R ls st h = (tt_al 0 (tt_gR 4 4 (tt_il 2 (tt_il 4 (tt_iS (tt_inc 2 1 (B_Ta_forgetMelted_102))))))) K R ls st h := rfl
theorem S_Ta_forgetMelted_91 (lc lz : Nat) : Snd md_Ta_forgetMelted lc lz 91 (B_Ta_forgetMelted_91) := (snd_al_n (n := 0) (dget dd_Ta_forgetMelted 54 rfl) rfl (snd_gR (kn := 4) fd_Ta_25 rfl (dget dd_Ta_forgetMelted 55 rfl) (snd_il_n (n := 2) (dget dd_Ta_forgetMelted 56 rfl) rfl (snd_il (dget dd_Ta_forgetMelted 57 rfl) (snd_iS (dget dd_Ta_forgetMelted 58 rfl) (snd_inc (dget dd_Ta_forgetMelted 59 rfl) (S_Ta_forgetMelted_102 lc lz)))))))
def B_Ta_forgetMelted_50 : TT := (tt_il 3 (tt_al 0 (tt_gI 4 12 (tt_cge (B_Ta_forgetMelted_108) (tt_al 0 (tt_gR 4 3 (tt_il 3 (tt_ia (tt_is 4 (tt_al 0 (tt_gR 4 1 (tt_il 4 (tt_ia (tt_ci (-1) (tt_ceq (B_Ta_forgetMelted_91) (tt_al 0 (tt_gR 4 3 (tt_il 1 (tt_il 4 (tt_iS (tt_inc 1 1 (B_Ta_forgetMelted_102))))))))))))))))))))))
theorem E_Ta_forgetMelted_50 {K : TK} {R : TR} {ls : LSt} {st : List PV} {h : PH} : B_Ta_forgetMelted_50 K R ls st h = (tt_il 3 (tt_al 0 (tt_gI 4 12 (tt_cge (B_Ta_forgetMelted_108) (tt_al 0 (tt_gR 4 3 (tt_il 3 (tt_ia (tt_is 4 (tt_al 0 (tt_gR 4 1 (tt_il 4 (tt_ia (tt_ci (-1) (tt_ceq (B_Ta_forgetMelted_91) (tt_al 0 (tt_gR 4 3 (tt_il 1 (tt_il 4 (tt_iS (tt_inc 1 1 (B_Ta_forgetMelted_102)))))))))))))))))))))) K R ls st h := rfl
theorem S_Ta_forgetMelted_50 (lc lz : Nat) : Snd md_Ta_forgetMelted lc lz 50 (B_Ta_forgetMelted_50) := (snd_il_n (n := 3) (dget dd_Ta_forgetMelted 32 rfl) rfl (snd_al_n (n := 0) (dget dd_Ta_forgetMelted 33 rfl) rfl (snd_gI (kn := 12) fd_Ta_51 rfl (dget dd_Ta_forgetMelted 34 rfl) (snd_cge (tg := 108) (dget dd_Ta_forgetMelted 35 rfl) rfl (S_Ta_forgetMelted_108 lc lz) (snd_al_n (n := 0) (dget dd_Ta_forgetMelted 36 rfl) rfl (snd_gR (kn := 3) fd_Ta_22 rfl (dget dd_Ta_forgetMelted 37 rfl) (snd_il_n (n := 3) (dget dd_Ta_forgetMelted 38 rfl) rfl (snd_ia (dget dd_Ta_forgetMelted 39 rfl) (snd_is (dget dd_Ta_forgetMelted 40 rfl) (snd_al_n (n := 0) (dget dd_Ta_forgetMelted 41 rfl) rfl (snd_gR (kn := 1) fd_Ta_15 rfl (dget dd_Ta_forgetMelted 42 rfl) (snd_il (dget dd_Ta_forgetMelted 43 rfl) (snd_ia (dget dd_Ta_forgetMelted 44 rfl) (snd_iconst (n := -1) (dget dd_Ta_forgetMelted 45 rfl) (inR_d rfl) rfl (snd_ceq (tg := 91) (dget dd_Ta_forgetMelted 46 rfl) rfl (S_Ta_forgetMelted_91 lc lz) (snd_al_n (n := 0) (dget dd_Ta_forgetMelted 47 rfl) rfl (snd_gR (kn := 3) fd_Ta_22 rfl (dget dd_Ta_forgetMelted 48 rfl) (snd_il_n (n := 1) (dget dd_Ta_forgetMelted 49 rfl) rfl (snd_il (dget dd_Ta_forgetMelted 50 rfl) (snd_iS (dget dd_Ta_forgetMelted 51 rfl) (snd_inc (dget dd_Ta_forgetMelted 52 rfl) (snd_goto (tg := 102) (dget dd_Ta_forgetMelted 53 rfl) rfl (S_Ta_forgetMelted_102 lc lz)))))))))))))))))))))))
def B_Ta_forgetMelted_37 : TT := (tt_ci 0 (tt_is 1 (tt_ci 300 (tt_al 0 (tt_gI 4 12 (tt_sub (tt_is 2 (tt_ci 0 (tt_is 3 (tt_cut 50))))))))))
theorem E_Ta_forgetMelted_37 {K : TK} {R : TR} {ls : LSt} {st : List PV} {h : PH} : B_Ta_forgetMelted_37 K R ls st h = (tt_ci 0 (tt_is 1 (tt_ci 300 (tt_al 0 (tt_gI 4 12 (tt_sub (tt_is 2 (tt_ci 0 (tt_is 3 (tt_cut 50)))))))))) K R ls st h := rfl
theorem S_Ta_forgetMelted_37 (lc lz : Nat) : Snd md_Ta_forgetMelted lc lz 37 (B_Ta_forgetMelted_37) := (snd_iconst (n := 0) (dget dd_Ta_forgetMelted 23 rfl) (inR_d rfl) rfl (snd_is_n (n := 1) (dget dd_Ta_forgetMelted 24 rfl) rfl (snd_sipush (n := 300) (dget dd_Ta_forgetMelted 25 rfl) (inR_d rfl) (by decide) (snd_al_n (n := 0) (dget dd_Ta_forgetMelted 26 rfl) rfl (snd_gI (kn := 12) fd_Ta_51 rfl (dget dd_Ta_forgetMelted 27 rfl) (snd_sub (dget dd_Ta_forgetMelted 28 rfl) (snd_is_n (n := 2) (dget dd_Ta_forgetMelted 29 rfl) rfl (snd_iconst (n := 0) (dget dd_Ta_forgetMelted 30 rfl) (inR_d rfl) rfl (snd_is_n (n := 3) (dget dd_Ta_forgetMelted 31 rfl) rfl snd_cut)))))))))
def B_Ta_forgetMelted_2 : TT := (tt_il 1 (tt_al 0 (tt_gI 4 7 (tt_cge (B_Ta_forgetMelted_37) (tt_al 0 (tt_gR 4 6 (tt_il 1 (tt_ia (tt_is 2 (tt_al 0 (tt_gR 4 1 (tt_il 2 (tt_ci (-1) (tt_iS (tt_al 0 (tt_gR 4 5 (tt_il 2 (tt_il 2 (tt_iS (tt_inc 1 1 (tt_cut 2)))))))))))))))))))))
theorem E_Ta_forgetMelted_2 {K : TK} {R : TR} {ls : LSt} {st : List PV} {h : PH} : B_Ta_forgetMelted_2 K R ls st h = (tt_il 1 (tt_al 0 (tt_gI 4 7 (tt_cge (B_Ta_forgetMelted_37) (tt_al 0 (tt_gR 4 6 (tt_il 1 (tt_ia (tt_is 2 (tt_al 0 (tt_gR 4 1 (tt_il 2 (tt_ci (-1) (tt_iS (tt_al 0 (tt_gR 4 5 (tt_il 2 (tt_il 2 (tt_iS (tt_inc 1 1 (tt_cut 2))))))))))))))))))))) K R ls st h := rfl
theorem S_Ta_forgetMelted_2 (lc lz : Nat) : Snd md_Ta_forgetMelted lc lz 2 (B_Ta_forgetMelted_2) := (snd_il_n (n := 1) (dget dd_Ta_forgetMelted 2 rfl) rfl (snd_al_n (n := 0) (dget dd_Ta_forgetMelted 3 rfl) rfl (snd_gI (kn := 7) fd_Ta_34 rfl (dget dd_Ta_forgetMelted 4 rfl) (snd_cge (tg := 37) (dget dd_Ta_forgetMelted 5 rfl) rfl (S_Ta_forgetMelted_37 lc lz) (snd_al_n (n := 0) (dget dd_Ta_forgetMelted 6 rfl) rfl (snd_gR (kn := 6) fd_Ta_31 rfl (dget dd_Ta_forgetMelted 7 rfl) (snd_il_n (n := 1) (dget dd_Ta_forgetMelted 8 rfl) rfl (snd_ia (dget dd_Ta_forgetMelted 9 rfl) (snd_is_n (n := 2) (dget dd_Ta_forgetMelted 10 rfl) rfl (snd_al_n (n := 0) (dget dd_Ta_forgetMelted 11 rfl) rfl (snd_gR (kn := 1) fd_Ta_15 rfl (dget dd_Ta_forgetMelted 12 rfl) (snd_il_n (n := 2) (dget dd_Ta_forgetMelted 13 rfl) rfl (snd_iconst (n := -1) (dget dd_Ta_forgetMelted 14 rfl) (inR_d rfl) rfl (snd_iS (dget dd_Ta_forgetMelted 15 rfl) (snd_al_n (n := 0) (dget dd_Ta_forgetMelted 16 rfl) rfl (snd_gR (kn := 5) fd_Ta_28 rfl (dget dd_Ta_forgetMelted 17 rfl) (snd_il_n (n := 2) (dget dd_Ta_forgetMelted 18 rfl) rfl (snd_il_n (n := 2) (dget dd_Ta_forgetMelted 19 rfl) rfl (snd_iS (dget dd_Ta_forgetMelted 20 rfl) (snd_inc (dget dd_Ta_forgetMelted 21 rfl) (snd_goto (tg := 2) (dget dd_Ta_forgetMelted 22 rfl) rfl snd_cut)))))))))))))))))))))
def B_Ta_forgetMelted_0 : TT := (tt_ci 0 (tt_is 1 (tt_cut 2)))
theorem E_Ta_forgetMelted_0 {K : TK} {R : TR} {ls : LSt} {st : List PV} {h : PH} : B_Ta_forgetMelted_0 K R ls st h = (tt_ci 0 (tt_is 1 (tt_cut 2))) K R ls st h := rfl
theorem S_Ta_forgetMelted_0 (lc lz : Nat) : Snd md_Ta_forgetMelted lc lz 0 (B_Ta_forgetMelted_0) := (snd_iconst (n := 0) (dget dd_Ta_forgetMelted 0 rfl) (inR_d rfl) rfl (snd_is_n (n := 1) (dget dd_Ta_forgetMelted 1 rfl) rfl snd_cut))
def muFg (pc : Nat) (ls : LSt) (_ : PH) : Nat := if pc = 2 then (2000 - locI ls 1).toNat else (1000 - locI ls 3).toNat
theorem muFg_2 {ls : LSt} {h' : PH} : muFg 2 ls h' = (2000 - locI ls 1).toNat := rfl
theorem muFg_50 {ls : LSt} {h' : PH} : muFg 50 ls h' = (1000 - locI ls 3).toNat := rfl
/-- slot 0 does not melt -/
theorem mlt_0 {Nu Od Sp P Me R : Int → Int} {n m : Int} (ho : TgO n Nu Od Sp) (h : MIp Nu P Me R m) : ¬ mlt Me m 0 := by
  rintro ⟨i, i0, i1, e⟩
  have h0 : lfS Nu 0 := ⟨by omega, by omega, by rw [ho.2.2.2.2.2]; decide⟩
  obtain ⟨a1, a2, a3, a4, a5⟩ := h.2.2.2.2.2.2.1 0 h0
  have b := TgO_num ho a1
  rw [ho.2.2.2.2.2] at a4
  have e0 : R 0 = 0 := TgO_inj ho a1 h0 (by rw [ho.2.2.2.2.2]; omega)
  rw [e0] at a2
  have := (h.2.1 i i0 i1).2
  rw [e] at this
  exact this a2
/-- the order, and the spare slots, as far as place k -/
def fgI (h h' : PH) (m k st fr : Int) : Prop :=
  (∀ s, 0 ≤ s → s < 300 → (mlt (gI h pTa_melting) m s → gI h' pTa_numbers s = -1) ∧ (¬ mlt (gI h pTa_melting) m s → gI h' pTa_numbers s = gI h pTa_numbers s)) ∧ (∀ s, 0 ≤ s → s < 300 → gI h' pTa_parents s = s) ∧
  0 ≤ k ∧ k ≤ gI h pTa 12 ∧ 0 ≤ st ∧ st ≤ k ∧ fr = 300 - gI h pTa 12 + (k - st) ∧
  (∀ i, 0 ≤ i → i < st → ∃ j, 0 ≤ j ∧ j < k ∧ gI h' pTa_order i = gI h pTa_order j ∧ ¬ mlt (gI h pTa_melting) m (gI h pTa_order j)) ∧
  (∀ i i', 0 ≤ i → i < i' → i' < st → gI h pTa_numbers (gI h' pTa_order i) < gI h pTa_numbers (gI h' pTa_order i')) ∧
  (∀ j, 0 ≤ j → j < k → ¬ mlt (gI h pTa_melting) m (gI h pTa_order j) → ∃ i, 0 ≤ i ∧ i < st ∧ gI h' pTa_order i = gI h pTa_order j) ∧
  (∀ i, k ≤ i → gI h' pTa_order i = gI h pTa_order i) ∧
  (∀ i, 0 ≤ i → i < 300 - gI h pTa 12 → gI h' pTa_spare i = gI h pTa_spare i) ∧
  (∀ i, 300 - gI h pTa 12 ≤ i → i < fr → ∃ j, 0 ≤ j ∧ j < k ∧ gI h' pTa_spare i = gI h pTa_order j ∧ mlt (gI h pTa_melting) m (gI h pTa_order j)) ∧
  (∀ i i', 300 - gI h pTa 12 ≤ i → i < i' → i' < fr → gI h pTa_numbers (gI h' pTa_spare i) < gI h pTa_numbers (gI h' pTa_spare i'))
theorem fgI_end {h h1 : PH} {R : Int → Int} {m st fr : Int} (ho : TgO (gI h pTa 12) (gI h pTa_numbers) (gI h pTa_order) (gI h pTa_spare)) (hM : MIp (gI h pTa_numbers) (gI h pTa_parents) (gI h pTa_melting) R m) (hI : fgI h h1 m (gI h pTa 12) st fr) : TgO st (gI h1 pTa_numbers) (gI h1 pTa_order) (gI h1 pTa_spare) := by
  obtain ⟨g1, g2, g3, g4, g5, g6, g7, g8, g9, g10, g11, g12, g13, g14⟩ := hI
  have nm0 := mlt_0 ho hM
  have nm : ∀ s, 0 ≤ s → s < 300 → gI h pTa_numbers s = -1 → gI h1 pTa_numbers s = -1 := by
    intro s s0 s1 z
    by_cases y : mlt (gI h pTa_melting) m s
    · exact (g1 s s0 s1).1 y
    · rw [(g1 s s0 s1).2 y]; exact z
  have sp : ∀ i, 0 ≤ i → i < 300 - st → 0 ≤ gI h1 pTa_spare i ∧ gI h1 pTa_spare i < 300 ∧ gI h1 pTa_numbers (gI h1 pTa_spare i) = -1 ∧ (i < 300 - gI h pTa 12 → gI h pTa_numbers (gI h1 pTa_spare i) = -1) ∧ (¬ i < 300 - gI h pTa 12 → 0 ≤ gI h pTa_numbers (gI h1 pTa_spare i)) := by
    intro i i0 i1
    by_cases q : i < 300 - gI h pTa 12
    · have e := g12 i i0 q
      have b := ho.2.2.2.1 i i0 q
      rw [e]
      exact ⟨b.1, b.2.1, nm _ b.1 b.2.1 b.2.2, fun _ => b.2.2, fun z => absurd q z⟩
    · obtain ⟨j, j0, j1, j2, j3⟩ := g13 i (by omega) (by omega)
      have b := ho.1 j j0 j1
      rw [j2]
      exact ⟨b.1, b.2.1, (g1 _ b.1 b.2.1).1 j3, fun z => absurd z q, fun _ => b.2.2⟩
  refine ⟨fun i i0 i1 => ?_, fun i i' i0 ii i1 => ?_, fun s hs => ?_, fun i i0 i1 => ?_, fun i i' i0 ii i1 => ?_, ?_⟩
  · obtain ⟨j, j0, j1, j2, j3⟩ := g8 i i0 i1
    have b := ho.1 j j0 j1
    rw [j2, (g1 _ b.1 b.2.1).2 j3]
    exact b
  · have a := g9 i i' i0 ii i1
    obtain ⟨j, j0, j1, j2, j3⟩ := g8 i i0 (by omega)
    obtain ⟨j', j0', j1', j2', j3'⟩ := g8 i' (by omega) i1
    have b := ho.1 j j0 j1
    have b' := ho.1 j' j0' j1'
    rw [j2, j2'] at a ⊢
    rw [(g1 _ b.1 b.2.1).2 j3, (g1 _ b'.1 b'.2.1).2 j3']
    exact a
  · have nms : ¬ mlt (gI h pTa_melting) m s := fun y => hs.2.2 ((g1 s hs.1 hs.2.1).1 y)
    have hs' : lfS (gI h pTa_numbers) s := ⟨hs.1, hs.2.1, by rw [← (g1 s hs.1 hs.2.1).2 nms]; exact hs.2.2⟩
    obtain ⟨j, j0, j1, rfl⟩ := ho.2.2.1 s hs'
    exact g10 j j0 j1 nms
  · have := sp i i0 i1
    exact ⟨this.1, this.2.1, this.2.2.1⟩
  · have a := sp i i0 (by omega)
    have b := sp i' (by omega) i1
    intro e
    by_cases q : i' < 300 - gI h pTa 12
    · rw [g12 i i0 (by omega), g12 i' (by omega) q] at e
      exact ho.2.2.2.2.1 i i' i0 ii q e
    · by_cases q2 : i < 300 - gI h pTa 12
      · have a1 := a.2.2.2.1 q2
        have b1 := b.2.2.2.2 q
        rw [e] at a1
        omega
      · have := g14 i i' (by omega) ii (by omega)
        rw [e] at this
        omega
  · rw [(g1 0 (by omega) (by omega)).2 nm0]
    exact ho.2.2.2.2.2
theorem fgI_melt {h h1 : PH} {m k st fr : Int} (ho : TgO (gI h pTa 12) (gI h pTa_numbers) (gI h pTa_order) (gI h pTa_spare)) (hI : fgI h h1 m k st fr) (hk : k < gI h pTa 12) (hm : mlt (gI h pTa_melting) m (gI h pTa_order k)) : fgI h (sI h1 pTa_spare fr (gI h pTa_order k)) m (k + 1) st (fr + 1) := by
  obtain ⟨g1, g2, g3, g4, g5, g6, g7, g8, g9, g10, g11, g12, g13, g14⟩ := hI
  have e : ∀ i, gI (sI h1 pTa_spare fr (gI h pTa_order k)) pTa_spare i = if i = fr then gI h pTa_order k else gI h1 pTa_spare i := fun i => by rw [gI_sI]; simp
  refine ⟨g1, g2, by omega, by omega, by omega, by omega, by omega, fun i i0 i1 => ?_, g9, fun j j0 j1 nm => ?_, fun i i0 => g11 i (by omega), fun i i0 i1 => ?_, fun i i0 i1 => ?_, fun i i' i0 ii i1 => ?_⟩
  · obtain ⟨j, j0, j1, j2⟩ := g8 i i0 i1
    exact ⟨j, j0, by omega, j2⟩
  · by_cases y : j = k
    · rw [y] at nm; exact absurd hm nm
    · exact g10 j j0 (by omega) nm
  · rw [e, if_neg (by omega)]; exact g12 i i0 i1
  · rw [e]
    by_cases y : i = fr
    · rw [if_pos y]; exact ⟨k, g3, by omega, rfl, hm⟩
    · rw [if_neg y]
      obtain ⟨j, j0, j1, j2⟩ := g13 i i0 (by omega)
      exact ⟨j, j0, by omega, j2⟩
  · rw [e, e, if_neg (show i ≠ fr by omega)]
    by_cases y : i' = fr
    · rw [if_pos y]
      obtain ⟨j, j0, j1, j2, -⟩ := g13 i i0 (by omega)
      rw [j2]
      exact ho.2.1 j k j0 j1 hk
    · rw [if_neg y]; exact g14 i i' i0 ii (by omega)
theorem fgI_keep {h h1 : PH} {m k st fr : Int} (ho : TgO (gI h pTa 12) (gI h pTa_numbers) (gI h pTa_order) (gI h pTa_spare)) (hI : fgI h h1 m k st fr) (hk : k < gI h pTa 12) (hm : ¬ mlt (gI h pTa_melting) m (gI h pTa_order k)) : fgI h (sI h1 pTa_order st (gI h pTa_order k)) m (k + 1) (st + 1) fr := by
  obtain ⟨g1, g2, g3, g4, g5, g6, g7, g8, g9, g10, g11, g12, g13, g14⟩ := hI
  have e : ∀ i, gI (sI h1 pTa_order st (gI h pTa_order k)) pTa_order i = if i = st then gI h pTa_order k else gI h1 pTa_order i := fun i => by rw [gI_sI]; simp
  refine ⟨g1, g2, by omega, by omega, by omega, by omega, by omega, fun i i0 i1 => ?_, fun i i' i0 ii i1 => ?_, fun j j0 j1 nm => ?_, fun i i0 => ?_, g12, fun i i0 i1 => ?_, g14⟩
  · rw [e]
    by_cases y : i = st
    · rw [if_pos y]; exact ⟨k, g3, by omega, rfl, hm⟩
    · rw [if_neg y]
      obtain ⟨j, j0, j1, j2⟩ := g8 i i0 (by omega)
      exact ⟨j, j0, by omega, j2⟩
  · rw [e, e, if_neg (show i ≠ st by omega)]
    by_cases y : i' = st
    · rw [if_pos y]
      obtain ⟨j, j0, j1, j2, -⟩ := g8 i i0 (by omega)
      rw [j2]
      exact ho.2.1 j k j0 j1 hk
    · rw [if_neg y]; exact g9 i i' i0 ii (by omega)
  · by_cases y : j = k
    · exact ⟨st, g5, by omega, by rw [e, if_pos rfl, y]⟩
    · obtain ⟨i, i0, i1, i2⟩ := g10 j j0 (by omega) nm
      exact ⟨i, i0, by omega, by rw [e, if_neg (by omega)]; exact i2⟩
  · rw [e, if_neg (by omega)]; exact g11 i (by omega)
  · obtain ⟨j, j0, j1, j2⟩ := g13 i i0 i1
    exact ⟨j, j0, by omega, j2⟩
theorem met_Ta_forgetMelted : MetP y_Ta_forgetMelted md_Ta_forgetMelted (fun _ => 0) (fun _ => 0) Ct_Ta_forgetMelted := by
  refine metL2 (body := B_Ta_forgetMelted_0) (B1 := B_Ta_forgetMelted_2) (B2 := B_Ta_forgetMelted_50) (by decide) rfl rfl (fun lc lz => S_Ta_forgetMelted_0 lc lz) (fun lc lz => S_Ta_forgetMelted_2 lc lz) (fun lc lz => S_Ta_forgetMelted_50 lc lz) (by decide) ?_
  intro av h post hc hH hav
  unfold Ct_Ta_forgetMelted at hc
  split at hc
  rotate_left
  · exact hc.elim
  rename_i p
  obtain ⟨rfl, w, R, m, h7, hm, ho, hM, hp⟩ := hc
  refine ⟨Nat.le_of_ble_eq_true rfl, ?_⟩
  obtain ⟨mu, hmu⟩ : ∃ mu, mu = muFg := ⟨_, rfl⟩
  have l3 := Ta_300 (F := gI h pTa) ho
  have nm0 := mlt_0 ho hM
  obtain ⟨m1, m2, m3, m4, m5, m6, m7, m8⟩ := id hM
  have n1 : 0 < gI h pTa 12 := by
    obtain ⟨k, k0, k1, -⟩ := ho.2.2.1 0 ⟨by omega, by omega, by rw [ho.2.2.2.2.2]; decide⟩
    omega
  refine ⟨fun ls h' => ∃ (k : Int) (x2 x3 x4 : Option PV), ls = [some (.inr (.inl (some pTa))), some (.inl k), x2, x3, x4] ∧ 0 ≤ k ∧ k ≤ m ∧ FrP (fun b _ => b = pTa_numbers ∨ b = pTa_parents) h h' ∧ (∀ s, 0 ≤ s → s < 300 → (mlt (gI h pTa_melting) k s → gI h' pTa_numbers s = -1 ∧ gI h' pTa_parents s = s) ∧ (¬ mlt (gI h pTa_melting) k s → gI h' pTa_numbers s = gI h pTa_numbers s ∧ gI h' pTa_parents s = gI h pTa_parents s)),
    fun ls h' => ∃ (st fr k : Int) (x4 : Option PV), ls = [some (.inr (.inl (some pTa))), some (.inl st), some (.inl fr), some (.inl k), x4] ∧ FrP Pfm h h' ∧ gI h' pTa 12 = gI h pTa 12 ∧ gI h' pTa 8 = gI h pTa 8 ∧ fgI h h' m k st fr, mu, ?_, ?_, ?_⟩
  · rintro ls h1 ⟨k, x2, x3, x4, rfl, k0, k1, hF, hk⟩
    have w1 := FrP_CW hF w
    have e : ∀ b, b ≠ pTa_numbers → b ≠ pTa_parents → gI h1 b = gI h b := fun b z1 z2 => FrP_arr hF (fun j z => z.elim z1 z2)
    have e1 := e pTa (by decide) (by decide)
    have e2 := e pTa_melting (by decide) (by decide)
    have e3 := e pTa_order (by decide) (by decide)
    have e4 := e pTa_spare (by decide) (by decide)
    simp (decide := true) only [↓E_Ta_forgetMelted_0, ↓E_Ta_forgetMelted_2, ↓E_Ta_forgetMelted_37, ↓E_Ta_forgetMelted_50, ↓E_Ta_forgetMelted_91, ↓E_Ta_forgetMelted_102, ↓E_Ta_forgetMelted_108, ↓E_Ta_forgetMelted_128, ↓E_Ta_forgetMelted_132, ↓E_Ta_forgetMelted_133, ↓e_ci, ↓e_cl, ↓e_nul, ↓e_add, ↓e_sub, ↓e_mul, ↓e_ladd, ↓e_lmul, ↓e_div, ↓e_rem, ↓e_ldiv, ↓e_lrem, ↓e_zeq, ↓e_zne, ↓e_zlt, ↓e_zge, ↓e_zgt, ↓e_zle, ↓e_ceq, ↓e_cne, ↓e_clt, ↓e_cge, ↓e_cgt, ↓e_cle, ↓e_nn, ↓e_gI, ↓e_gR, ↓e_pI, ↓e_pZ, ↓e_pR, ↓e_ia, ↓e_ba, ↓e_za, ↓e_iS, ↓e_bS, ↓e_zS, ↓e_aa, ↓e_aS, ↓e_len, ↓e_and, ↓e_xor, ↓e_shr, ↓e_ushr, ↓e_lcmp, ↓e_i2b, ↓e_i2l, ↓e_l2i, ↓e_sw, ↓e_min, ↓e_max, ↓e_acp, ↓e_il_0, ↓e_al_0, ↓e_ll_0, ↓e_is_0n, ↓e_as_0n, ↓e_ls_0n, ↓e_inc_0n, ↓e_il_1, ↓e_al_1, ↓e_ll_1, ↓e_is_1i, ↓e_as_1i, ↓e_ls_1i, ↓e_inc_1i, ↓e_is_1o, ↓e_as_1o, ↓e_ls_1o, ↓e_inc_1o, ↓e_is_1n, ↓e_as_1n, ↓e_ls_1n, ↓e_inc_1n, ↓e_il_2, ↓e_al_2, ↓e_ll_2, ↓e_is_2i, ↓e_as_2i, ↓e_ls_2i, ↓e_inc_2i, ↓e_is_2o, ↓e_as_2o, ↓e_ls_2o, ↓e_inc_2o, ↓e_is_2n, ↓e_as_2n, ↓e_ls_2n, ↓e_inc_2n, ↓e_il_3, ↓e_al_3, ↓e_ll_3, ↓e_is_3i, ↓e_as_3i, ↓e_ls_3i, ↓e_inc_3i, ↓e_is_3o, ↓e_as_3o, ↓e_ls_3o, ↓e_inc_3o, ↓e_is_3n, ↓e_as_3n, ↓e_ls_3n, ↓e_inc_3n, ↓e_il_4, ↓e_al_4, ↓e_ll_4, ↓e_is_4i, ↓e_as_4i, ↓e_ls_4i, ↓e_inc_4i, ↓e_is_4o, ↓e_as_4o, ↓e_ls_4o, ↓e_inc_4o, ↓e_is_4n, ↓e_as_4n, ↓e_ls_4n, ↓e_inc_4n, ↓e_il_5, ↓e_al_5, ↓e_ll_5, ↓e_is_5i, ↓e_as_5i, ↓e_ls_5i, ↓e_inc_5i, ↓e_is_5o, ↓e_as_5o, ↓e_ls_5o, ↓e_inc_5o, ↓e_is_5n, ↓e_as_5n, ↓e_ls_5n, ↓e_inc_5n, ↓e_il_6, ↓e_al_6, ↓e_ll_6, ↓e_is_6i, ↓e_as_6i, ↓e_ls_6i, ↓e_inc_6i, ↓e_is_6o, ↓e_as_6o, ↓e_ls_6o, ↓e_inc_6o, ↓e_is_6n, ↓e_as_6n, ↓e_ls_6n, ↓e_inc_6n, ↓e_il_7, ↓e_al_7, ↓e_ll_7, ↓e_is_7i, ↓e_as_7i, ↓e_ls_7i, ↓e_inc_7i, ↓e_is_7o, ↓e_as_7o, ↓e_ls_7o, ↓e_inc_7o, ↓e_is_7n, ↓e_as_7n, ↓e_ls_7n, ↓e_inc_7n, ↓e_il_8, ↓e_al_8, ↓e_ll_8, ↓e_is_8i, ↓e_as_8i, ↓e_ls_8i, ↓e_inc_8i, ↓e_is_8o, ↓e_as_8o, ↓e_ls_8o, ↓e_inc_8o, ↓e_is_8n, ↓e_as_8n, ↓e_ls_8n, ↓e_inc_8n, ↓e_il_9, ↓e_al_9, ↓e_ll_9, ↓e_is_9i, ↓e_as_9i, ↓e_ls_9i, ↓e_inc_9i, ↓e_is_9o, ↓e_as_9o, ↓e_ls_9o, ↓e_inc_9o, ↓e_is_9n, ↓e_as_9n, ↓e_ls_9n, ↓e_inc_9n, ↓e_il_10, ↓e_al_10, ↓e_ll_10, ↓e_is_10i, ↓e_as_10i, ↓e_ls_10i, ↓e_inc_10i, ↓e_is_10o, ↓e_as_10o, ↓e_ls_10o, ↓e_inc_10o, ↓e_is_10n, ↓e_as_10n, ↓e_ls_10n, ↓e_inc_10n, ↓e_il_11, ↓e_al_11, ↓e_ll_11, ↓e_is_11i, ↓e_as_11i, ↓e_ls_11i, ↓e_inc_11i, ↓e_is_11o, ↓e_as_11o, ↓e_ls_11o, ↓e_inc_11o, ↓e_is_11n, ↓e_as_11n, ↓e_ls_11n, ↓e_inc_11n, ↓e_il_12, ↓e_al_12, ↓e_ll_12, ↓e_is_12i, ↓e_as_12i, ↓e_ls_12i, ↓e_inc_12i, ↓e_is_12o, ↓e_as_12o, ↓e_ls_12o, ↓e_inc_12o, ↓e_is_12n, ↓e_as_12n, ↓e_ls_12n, ↓e_inc_12n, ↓e_dup_i, ↓e_pop_i, ↓e_dup2_ii, ↓e_dup2_io, ↓e_dup_o, ↓e_pop_o, ↓e_dup2_oi, ↓e_dup2_oo, ↓e_ir, ↓e_zr, ↓e_br, ↓e_lr, ↓e_ar, ↓e_vr, ↓e_cut, ↓e_cS_0, ↓e_cV_1, ↓e_cS_1, ↓e_cV_2, ↓e_cS_2, ↓e_cV_3, ↓e_cS_3, ↓e_cV_4, ↓e_cS_4, ↓e_cV_5, ↓e_cS_5, ↓e_cV_6, ↓e_cS_6, ↓e_cV_7, ↓e_cS_7, ↓e_swn, ↓e_swc, ↓e_tls, ↓e_tln, E_Ta_forgetMelted_0, E_Ta_forgetMelted_2, E_Ta_forgetMelted_37, E_Ta_forgetMelted_50, E_Ta_forgetMelted_91, E_Ta_forgetMelted_102, E_Ta_forgetMelted_108, E_Ta_forgetMelted_128, E_Ta_forgetMelted_132, E_Ta_forgetMelted_133, e_ci, e_cl, e_nul, e_add, e_sub, e_mul, e_ladd, e_lmul, e_div, e_rem, e_ldiv, e_lrem, e_zeq, e_zne, e_zlt, e_zge, e_zgt, e_zle, e_ceq, e_cne, e_clt, e_cge, e_cgt, e_cle, e_nn, e_gI, e_gR, e_pI, e_pZ, e_pR, e_ia, e_ba, e_za, e_iS, e_bS, e_zS, e_aa, e_aS, e_len, e_and, e_xor, e_shr, e_ushr, e_lcmp, e_i2b, e_i2l, e_l2i, e_sw, e_min, e_max, e_acp, e_il_0, e_al_0, e_ll_0, e_is_0n, e_as_0n, e_ls_0n, e_inc_0n, e_il_1, e_al_1, e_ll_1, e_is_1i, e_as_1i, e_ls_1i, e_inc_1i, e_is_1o, e_as_1o, e_ls_1o, e_inc_1o, e_is_1n, e_as_1n, e_ls_1n, e_inc_1n, e_il_2, e_al_2, e_ll_2, e_is_2i, e_as_2i, e_ls_2i, e_inc_2i, e_is_2o, e_as_2o, e_ls_2o, e_inc_2o, e_is_2n, e_as_2n, e_ls_2n, e_inc_2n, e_il_3, e_al_3, e_ll_3, e_is_3i, e_as_3i, e_ls_3i, e_inc_3i, e_is_3o, e_as_3o, e_ls_3o, e_inc_3o, e_is_3n, e_as_3n, e_ls_3n, e_inc_3n, e_il_4, e_al_4, e_ll_4, e_is_4i, e_as_4i, e_ls_4i, e_inc_4i, e_is_4o, e_as_4o, e_ls_4o, e_inc_4o, e_is_4n, e_as_4n, e_ls_4n, e_inc_4n, e_il_5, e_al_5, e_ll_5, e_is_5i, e_as_5i, e_ls_5i, e_inc_5i, e_is_5o, e_as_5o, e_ls_5o, e_inc_5o, e_is_5n, e_as_5n, e_ls_5n, e_inc_5n, e_il_6, e_al_6, e_ll_6, e_is_6i, e_as_6i, e_ls_6i, e_inc_6i, e_is_6o, e_as_6o, e_ls_6o, e_inc_6o, e_is_6n, e_as_6n, e_ls_6n, e_inc_6n, e_il_7, e_al_7, e_ll_7, e_is_7i, e_as_7i, e_ls_7i, e_inc_7i, e_is_7o, e_as_7o, e_ls_7o, e_inc_7o, e_is_7n, e_as_7n, e_ls_7n, e_inc_7n, e_il_8, e_al_8, e_ll_8, e_is_8i, e_as_8i, e_ls_8i, e_inc_8i, e_is_8o, e_as_8o, e_ls_8o, e_inc_8o, e_is_8n, e_as_8n, e_ls_8n, e_inc_8n, e_il_9, e_al_9, e_ll_9, e_is_9i, e_as_9i, e_ls_9i, e_inc_9i, e_is_9o, e_as_9o, e_ls_9o, e_inc_9o, e_is_9n, e_as_9n, e_ls_9n, e_inc_9n, e_il_10, e_al_10, e_ll_10, e_is_10i, e_as_10i, e_ls_10i, e_inc_10i, e_is_10o, e_as_10o, e_ls_10o, e_inc_10o, e_is_10n, e_as_10n, e_ls_10n, e_inc_10n, e_il_11, e_al_11, e_ll_11, e_is_11i, e_as_11i, e_ls_11i, e_inc_11i, e_is_11o, e_as_11o, e_ls_11o, e_inc_11o, e_is_11n, e_as_11n, e_ls_11n, e_inc_11n, e_il_12, e_al_12, e_ll_12, e_is_12i, e_as_12i, e_ls_12i, e_inc_12i, e_is_12o, e_as_12o, e_ls_12o, e_inc_12o, e_is_12n, e_as_12n, e_ls_12n, e_inc_12n, e_dup_i, e_pop_i, e_dup2_ii, e_dup2_io, e_dup_o, e_pop_o, e_dup2_oi, e_dup2_oo, e_ir, e_zr, e_br, e_lr, e_ar, e_vr, e_cut, e_cS_0, e_cV_1, e_cS_1, e_cV_2, e_cS_2, e_cV_3, e_cS_3, e_cV_4, e_cS_4, e_cV_5, e_cS_5, e_cV_6, e_cS_6, e_cV_7, e_cS_7, e_swn, e_swc, e_tls, e_tln, gI_sI, gI_sA, gR_sI, gR_sA, gI_sR, gR_sR, hN_sI, hN_sA, hN_sR, isO_sI, isO_sA, isO_sR, isAr_sI, isAr_sA, isAr_sR, hC_sI, hC_sA, hC_sR, hZ_sI, hZ_sA, hZ_sR, MW_sI, MW_sA, true_and, and_true, true_or, or_true, and_self, forall_const, imp_self, implies_true, if_true, if_false, false_and, and_false, false_or, or_false, not_false_eq_true, not_true_eq_false, sI_sI, entA, fitL, List.length_cons, List.length_nil, List.nil_append, List.cons_append, false_imp_iff, true_imp_iff, pn1, pn2, MW_sI, CW_sI, cr_Ho_0 w1, cr_Ho_3 w1, cr_Ho_4 w1, cr_Ho_5 w1, cr_Ho_6 w1, cr_Ho_7 w1, cr_Ho_8 w1, cr_Ho_9 w1, cr_Ho_13 w1, cr_Ho_15 w1, cr_Ho_16 w1, cr_Ws_0 w1, cr_Ss_0 w1, cr_Re_0 w1, cr_Re_1 w1, cr_Re_2 w1, cr_Re_3 w1, cr_Ta_0 w1, cr_Ta_1 w1, cr_Ta_2 w1, cr_Ta_3 w1, cr_Ta_4 w1, cr_Ta_5 w1, cr_Ta_6 w1, cr_Wa_0 w1, cr_Wa_2 w1, cr_Wa_3 w1, cr_Wa_4 w1, cr_Wa_5 w1, cr_Wa_6 w1, cr_Lo_0 w1, cr_Lo_1 w1, cr_Lo_2 w1, cr_Lo_3 w1, cr_Lo_4 w1, cr_Sh_0 w1, cr_Sh_1 w1, cr_Sh_2 w1, co_Ho w1, ca_Ho_tape w1, cl_Ho_tape, co_Ws w1, co_Ss w1, co_Ask w1, co_Re w1, co_Ta w1, co_Fi w1, co_Wa w1, ca_Ho_told w1, cl_Ho_told, co_Lo w1, co_Sh w1, ca_Ws_e w1, cl_Ws_e, ca_Ss_e w1, cl_Ss_e, ca_Re_sums w1, cl_Re_sums, ca_Re_firsts w1, cl_Re_firsts, co_Atom w1, co_Raised w1, ca_Ta_cells w1, cl_Ta_cells, ca_Ta_numbers w1, cl_Ta_numbers, ca_Ta_done w1, cl_Ta_done, ca_Ta_order w1, cl_Ta_order, ca_Ta_spare w1, cl_Ta_spare, ca_Ta_parents w1, cl_Ta_parents, ca_Ta_melting w1, cl_Ta_melting, ca_Wa_queue w1, cl_Wa_queue, ca_Wa_origins w1, cl_Wa_origins, ca_Wa_vias w1, cl_Wa_vias, ca_Wa_lengths w1, cl_Wa_lengths, ca_Wa_seen w1, cl_Wa_seen, co_Single w1, ca_Lo_cells w1, cl_Lo_cells, ca_Lo_kept w1, cl_Lo_kept, ca_Lo_keptRows w1, cl_Lo_keptRows, ca_Lo_names w1, cl_Lo_names, ca_Lo_met w1, cl_Lo_met, ca_Sh_cells w1, cl_Sh_cells, ca_Sh_seen w1, cl_Sh_seen, ca_Sh_queue w1, cl_Sh_queue, CW_sI, CW_sA, locI, nth, e1, e2, h7, hmu, muFg_2, muFg_50]
    refine ⟨fun z => ⟨⟨by omega, by omega⟩, ⟨0, _, 0, _, rfl, FrP_mono (fun b _ z => z.elim Or.inl (fun y => Or.inr (Or.inl y))) hF, ?_⟩, by omega⟩, fun z => ?_⟩
    · have ek : k = m := by omega
      rw [ek] at hk
      refine ⟨fun s s0 s1 => ⟨fun y => ((hk s s0 s1).1 y).1, fun y => ((hk s s0 s1).2 y).1⟩, fun s s0 s1 => ?_, by omega, by omega, by omega, by omega, by omega, fun i i0 i1 => by omega, fun i i' i0 ii i1 => by omega, fun j j0 j1 => by omega, fun i _ => by rw [e3], fun i _ _ => by rw [e4], fun i i0 i1 => by omega, fun i i' i0 ii i1 => by omega⟩
      by_cases y : mlt (gI h pTa_melting) m s
      · exact ((hk s s0 s1).1 y).2
      · rw [((hk s s0 s1).2 y).2]
        by_cases v : lfS (gI h pTa_numbers) s
        · apply Classical.byContradiction
          intro x
          exact y (m4 s v x)
        · exact m8 s s0 s1 v
    · have o := (m2 k k0 (by omega)).1
      refine ⟨by omega, by omega, o.1, o.2.1, o.1, o.2.1, ⟨by omega, by omega⟩, ⟨k + 1, _, _, _, rfl, by omega, by omega, FrP_sI (Or.inr rfl) (FrP_sI (Or.inl rfl) hF), fun s s0 s1 => ?_⟩, by omega⟩
      have old := hk s s0 s1
      by_cases y : s = gI h pTa_melting k
      · rw [if_pos y, if_pos y]
        exact ⟨fun _ => ⟨rfl, y.symm⟩, fun v => absurd ⟨k, k0, by omega, y.symm⟩ v⟩
      · rw [if_neg y, if_neg y]
        refine ⟨fun ⟨i, i0, i1, i2⟩ => old.1 ⟨i, i0, ?_, i2⟩, fun v => old.2 (fun ⟨i, i0, i1, i2⟩ => v ⟨i, i0, by omega, i2⟩)⟩
        by_cases x : i = k
        · rw [x] at i2; exact absurd i2.symm y
        · omega
  · rintro ls h1 ⟨st, fr, k, x4, rfl, hF, e12, e8, hI⟩
    have w1 := FrP_CW hF w
    obtain ⟨g1, g2, g3, g4, g5, g6, g7, g8, g9, g10, g11, g12, g13, g14⟩ := id hI
    have em : gI h1 pTa_melting = gI h pTa_melting := FrP_arr hF (fun j z => by unfold Pfm at z; simp (decide := true) at z)
    have e7 : gI h1 pTa 7 = m := by rw [hF.1 _ _ (by unfold Pfm; simp (decide := true))]; exact h7
    simp (decide := true) only [↓E_Ta_forgetMelted_0, ↓E_Ta_forgetMelted_2, ↓E_Ta_forgetMelted_37, ↓E_Ta_forgetMelted_50, ↓E_Ta_forgetMelted_91, ↓E_Ta_forgetMelted_102, ↓E_Ta_forgetMelted_108, ↓E_Ta_forgetMelted_128, ↓E_Ta_forgetMelted_132, ↓E_Ta_forgetMelted_133, ↓e_ci, ↓e_cl, ↓e_nul, ↓e_add, ↓e_sub, ↓e_mul, ↓e_ladd, ↓e_lmul, ↓e_div, ↓e_rem, ↓e_ldiv, ↓e_lrem, ↓e_zeq, ↓e_zne, ↓e_zlt, ↓e_zge, ↓e_zgt, ↓e_zle, ↓e_ceq, ↓e_cne, ↓e_clt, ↓e_cge, ↓e_cgt, ↓e_cle, ↓e_nn, ↓e_gI, ↓e_gR, ↓e_pI, ↓e_pZ, ↓e_pR, ↓e_ia, ↓e_ba, ↓e_za, ↓e_iS, ↓e_bS, ↓e_zS, ↓e_aa, ↓e_aS, ↓e_len, ↓e_and, ↓e_xor, ↓e_shr, ↓e_ushr, ↓e_lcmp, ↓e_i2b, ↓e_i2l, ↓e_l2i, ↓e_sw, ↓e_min, ↓e_max, ↓e_acp, ↓e_il_0, ↓e_al_0, ↓e_ll_0, ↓e_is_0n, ↓e_as_0n, ↓e_ls_0n, ↓e_inc_0n, ↓e_il_1, ↓e_al_1, ↓e_ll_1, ↓e_is_1i, ↓e_as_1i, ↓e_ls_1i, ↓e_inc_1i, ↓e_is_1o, ↓e_as_1o, ↓e_ls_1o, ↓e_inc_1o, ↓e_is_1n, ↓e_as_1n, ↓e_ls_1n, ↓e_inc_1n, ↓e_il_2, ↓e_al_2, ↓e_ll_2, ↓e_is_2i, ↓e_as_2i, ↓e_ls_2i, ↓e_inc_2i, ↓e_is_2o, ↓e_as_2o, ↓e_ls_2o, ↓e_inc_2o, ↓e_is_2n, ↓e_as_2n, ↓e_ls_2n, ↓e_inc_2n, ↓e_il_3, ↓e_al_3, ↓e_ll_3, ↓e_is_3i, ↓e_as_3i, ↓e_ls_3i, ↓e_inc_3i, ↓e_is_3o, ↓e_as_3o, ↓e_ls_3o, ↓e_inc_3o, ↓e_is_3n, ↓e_as_3n, ↓e_ls_3n, ↓e_inc_3n, ↓e_il_4, ↓e_al_4, ↓e_ll_4, ↓e_is_4i, ↓e_as_4i, ↓e_ls_4i, ↓e_inc_4i, ↓e_is_4o, ↓e_as_4o, ↓e_ls_4o, ↓e_inc_4o, ↓e_is_4n, ↓e_as_4n, ↓e_ls_4n, ↓e_inc_4n, ↓e_il_5, ↓e_al_5, ↓e_ll_5, ↓e_is_5i, ↓e_as_5i, ↓e_ls_5i, ↓e_inc_5i, ↓e_is_5o, ↓e_as_5o, ↓e_ls_5o, ↓e_inc_5o, ↓e_is_5n, ↓e_as_5n, ↓e_ls_5n, ↓e_inc_5n, ↓e_il_6, ↓e_al_6, ↓e_ll_6, ↓e_is_6i, ↓e_as_6i, ↓e_ls_6i, ↓e_inc_6i, ↓e_is_6o, ↓e_as_6o, ↓e_ls_6o, ↓e_inc_6o, ↓e_is_6n, ↓e_as_6n, ↓e_ls_6n, ↓e_inc_6n, ↓e_il_7, ↓e_al_7, ↓e_ll_7, ↓e_is_7i, ↓e_as_7i, ↓e_ls_7i, ↓e_inc_7i, ↓e_is_7o, ↓e_as_7o, ↓e_ls_7o, ↓e_inc_7o, ↓e_is_7n, ↓e_as_7n, ↓e_ls_7n, ↓e_inc_7n, ↓e_il_8, ↓e_al_8, ↓e_ll_8, ↓e_is_8i, ↓e_as_8i, ↓e_ls_8i, ↓e_inc_8i, ↓e_is_8o, ↓e_as_8o, ↓e_ls_8o, ↓e_inc_8o, ↓e_is_8n, ↓e_as_8n, ↓e_ls_8n, ↓e_inc_8n, ↓e_il_9, ↓e_al_9, ↓e_ll_9, ↓e_is_9i, ↓e_as_9i, ↓e_ls_9i, ↓e_inc_9i, ↓e_is_9o, ↓e_as_9o, ↓e_ls_9o, ↓e_inc_9o, ↓e_is_9n, ↓e_as_9n, ↓e_ls_9n, ↓e_inc_9n, ↓e_il_10, ↓e_al_10, ↓e_ll_10, ↓e_is_10i, ↓e_as_10i, ↓e_ls_10i, ↓e_inc_10i, ↓e_is_10o, ↓e_as_10o, ↓e_ls_10o, ↓e_inc_10o, ↓e_is_10n, ↓e_as_10n, ↓e_ls_10n, ↓e_inc_10n, ↓e_il_11, ↓e_al_11, ↓e_ll_11, ↓e_is_11i, ↓e_as_11i, ↓e_ls_11i, ↓e_inc_11i, ↓e_is_11o, ↓e_as_11o, ↓e_ls_11o, ↓e_inc_11o, ↓e_is_11n, ↓e_as_11n, ↓e_ls_11n, ↓e_inc_11n, ↓e_il_12, ↓e_al_12, ↓e_ll_12, ↓e_is_12i, ↓e_as_12i, ↓e_ls_12i, ↓e_inc_12i, ↓e_is_12o, ↓e_as_12o, ↓e_ls_12o, ↓e_inc_12o, ↓e_is_12n, ↓e_as_12n, ↓e_ls_12n, ↓e_inc_12n, ↓e_dup_i, ↓e_pop_i, ↓e_dup2_ii, ↓e_dup2_io, ↓e_dup_o, ↓e_pop_o, ↓e_dup2_oi, ↓e_dup2_oo, ↓e_ir, ↓e_zr, ↓e_br, ↓e_lr, ↓e_ar, ↓e_vr, ↓e_cut, ↓e_cS_0, ↓e_cV_1, ↓e_cS_1, ↓e_cV_2, ↓e_cS_2, ↓e_cV_3, ↓e_cS_3, ↓e_cV_4, ↓e_cS_4, ↓e_cV_5, ↓e_cS_5, ↓e_cV_6, ↓e_cS_6, ↓e_cV_7, ↓e_cS_7, ↓e_swn, ↓e_swc, ↓e_tls, ↓e_tln, E_Ta_forgetMelted_0, E_Ta_forgetMelted_2, E_Ta_forgetMelted_37, E_Ta_forgetMelted_50, E_Ta_forgetMelted_91, E_Ta_forgetMelted_102, E_Ta_forgetMelted_108, E_Ta_forgetMelted_128, E_Ta_forgetMelted_132, E_Ta_forgetMelted_133, e_ci, e_cl, e_nul, e_add, e_sub, e_mul, e_ladd, e_lmul, e_div, e_rem, e_ldiv, e_lrem, e_zeq, e_zne, e_zlt, e_zge, e_zgt, e_zle, e_ceq, e_cne, e_clt, e_cge, e_cgt, e_cle, e_nn, e_gI, e_gR, e_pI, e_pZ, e_pR, e_ia, e_ba, e_za, e_iS, e_bS, e_zS, e_aa, e_aS, e_len, e_and, e_xor, e_shr, e_ushr, e_lcmp, e_i2b, e_i2l, e_l2i, e_sw, e_min, e_max, e_acp, e_il_0, e_al_0, e_ll_0, e_is_0n, e_as_0n, e_ls_0n, e_inc_0n, e_il_1, e_al_1, e_ll_1, e_is_1i, e_as_1i, e_ls_1i, e_inc_1i, e_is_1o, e_as_1o, e_ls_1o, e_inc_1o, e_is_1n, e_as_1n, e_ls_1n, e_inc_1n, e_il_2, e_al_2, e_ll_2, e_is_2i, e_as_2i, e_ls_2i, e_inc_2i, e_is_2o, e_as_2o, e_ls_2o, e_inc_2o, e_is_2n, e_as_2n, e_ls_2n, e_inc_2n, e_il_3, e_al_3, e_ll_3, e_is_3i, e_as_3i, e_ls_3i, e_inc_3i, e_is_3o, e_as_3o, e_ls_3o, e_inc_3o, e_is_3n, e_as_3n, e_ls_3n, e_inc_3n, e_il_4, e_al_4, e_ll_4, e_is_4i, e_as_4i, e_ls_4i, e_inc_4i, e_is_4o, e_as_4o, e_ls_4o, e_inc_4o, e_is_4n, e_as_4n, e_ls_4n, e_inc_4n, e_il_5, e_al_5, e_ll_5, e_is_5i, e_as_5i, e_ls_5i, e_inc_5i, e_is_5o, e_as_5o, e_ls_5o, e_inc_5o, e_is_5n, e_as_5n, e_ls_5n, e_inc_5n, e_il_6, e_al_6, e_ll_6, e_is_6i, e_as_6i, e_ls_6i, e_inc_6i, e_is_6o, e_as_6o, e_ls_6o, e_inc_6o, e_is_6n, e_as_6n, e_ls_6n, e_inc_6n, e_il_7, e_al_7, e_ll_7, e_is_7i, e_as_7i, e_ls_7i, e_inc_7i, e_is_7o, e_as_7o, e_ls_7o, e_inc_7o, e_is_7n, e_as_7n, e_ls_7n, e_inc_7n, e_il_8, e_al_8, e_ll_8, e_is_8i, e_as_8i, e_ls_8i, e_inc_8i, e_is_8o, e_as_8o, e_ls_8o, e_inc_8o, e_is_8n, e_as_8n, e_ls_8n, e_inc_8n, e_il_9, e_al_9, e_ll_9, e_is_9i, e_as_9i, e_ls_9i, e_inc_9i, e_is_9o, e_as_9o, e_ls_9o, e_inc_9o, e_is_9n, e_as_9n, e_ls_9n, e_inc_9n, e_il_10, e_al_10, e_ll_10, e_is_10i, e_as_10i, e_ls_10i, e_inc_10i, e_is_10o, e_as_10o, e_ls_10o, e_inc_10o, e_is_10n, e_as_10n, e_ls_10n, e_inc_10n, e_il_11, e_al_11, e_ll_11, e_is_11i, e_as_11i, e_ls_11i, e_inc_11i, e_is_11o, e_as_11o, e_ls_11o, e_inc_11o, e_is_11n, e_as_11n, e_ls_11n, e_inc_11n, e_il_12, e_al_12, e_ll_12, e_is_12i, e_as_12i, e_ls_12i, e_inc_12i, e_is_12o, e_as_12o, e_ls_12o, e_inc_12o, e_is_12n, e_as_12n, e_ls_12n, e_inc_12n, e_dup_i, e_pop_i, e_dup2_ii, e_dup2_io, e_dup_o, e_pop_o, e_dup2_oi, e_dup2_oo, e_ir, e_zr, e_br, e_lr, e_ar, e_vr, e_cut, e_cS_0, e_cV_1, e_cS_1, e_cV_2, e_cS_2, e_cV_3, e_cS_3, e_cV_4, e_cS_4, e_cV_5, e_cS_5, e_cV_6, e_cS_6, e_cV_7, e_cS_7, e_swn, e_swc, e_tls, e_tln, gI_sI, gI_sA, gR_sI, gR_sA, gI_sR, gR_sR, hN_sI, hN_sA, hN_sR, isO_sI, isO_sA, isO_sR, isAr_sI, isAr_sA, isAr_sR, hC_sI, hC_sA, hC_sR, hZ_sI, hZ_sA, hZ_sR, MW_sI, MW_sA, true_and, and_true, true_or, or_true, and_self, forall_const, imp_self, implies_true, if_true, if_false, false_and, and_false, false_or, or_false, not_false_eq_true, not_true_eq_false, sI_sI, entA, fitL, List.length_cons, List.length_nil, List.nil_append, List.cons_append, false_imp_iff, true_imp_iff, pn1, pn2, MW_sI, CW_sI, cr_Ho_0 w1, cr_Ho_3 w1, cr_Ho_4 w1, cr_Ho_5 w1, cr_Ho_6 w1, cr_Ho_7 w1, cr_Ho_8 w1, cr_Ho_9 w1, cr_Ho_13 w1, cr_Ho_15 w1, cr_Ho_16 w1, cr_Ws_0 w1, cr_Ss_0 w1, cr_Re_0 w1, cr_Re_1 w1, cr_Re_2 w1, cr_Re_3 w1, cr_Ta_0 w1, cr_Ta_1 w1, cr_Ta_2 w1, cr_Ta_3 w1, cr_Ta_4 w1, cr_Ta_5 w1, cr_Ta_6 w1, cr_Wa_0 w1, cr_Wa_2 w1, cr_Wa_3 w1, cr_Wa_4 w1, cr_Wa_5 w1, cr_Wa_6 w1, cr_Lo_0 w1, cr_Lo_1 w1, cr_Lo_2 w1, cr_Lo_3 w1, cr_Lo_4 w1, cr_Sh_0 w1, cr_Sh_1 w1, cr_Sh_2 w1, co_Ho w1, ca_Ho_tape w1, cl_Ho_tape, co_Ws w1, co_Ss w1, co_Ask w1, co_Re w1, co_Ta w1, co_Fi w1, co_Wa w1, ca_Ho_told w1, cl_Ho_told, co_Lo w1, co_Sh w1, ca_Ws_e w1, cl_Ws_e, ca_Ss_e w1, cl_Ss_e, ca_Re_sums w1, cl_Re_sums, ca_Re_firsts w1, cl_Re_firsts, co_Atom w1, co_Raised w1, ca_Ta_cells w1, cl_Ta_cells, ca_Ta_numbers w1, cl_Ta_numbers, ca_Ta_done w1, cl_Ta_done, ca_Ta_order w1, cl_Ta_order, ca_Ta_spare w1, cl_Ta_spare, ca_Ta_parents w1, cl_Ta_parents, ca_Ta_melting w1, cl_Ta_melting, ca_Wa_queue w1, cl_Wa_queue, ca_Wa_origins w1, cl_Wa_origins, ca_Wa_vias w1, cl_Wa_vias, ca_Wa_lengths w1, cl_Wa_lengths, ca_Wa_seen w1, cl_Wa_seen, co_Single w1, ca_Lo_cells w1, cl_Lo_cells, ca_Lo_kept w1, cl_Lo_kept, ca_Lo_keptRows w1, cl_Lo_keptRows, ca_Lo_names w1, cl_Lo_names, ca_Lo_met w1, cl_Lo_met, ca_Sh_cells w1, cl_Sh_cells, ca_Sh_seen w1, cl_Sh_seen, ca_Sh_queue w1, cl_Sh_queue, CW_sI, CW_sA, locI, nth, e12, e8, e7, hmu, muFg_50]
    refine ⟨fun z => ?_, fun z => ?_⟩
    · have ek : k = gI h pTa 12 := by omega
      rw [ek] at hI
      have hO := fgI_end ho hM hI
      have fin : ∀ v, v = (if gI h pTa 8 ≠ 0 ∨ 0 < m then (1 : Int) else 0) → post none (sI (sI h1 pTa 12 st) pTa 8 v) := fun v hv => hp _ (FrP_sI (by unfold Pfm; simp (decide := true)) (FrP_sI (by unfold Pfm; simp (decide := true)) hF)) ⟨g1, g2, hO, hv⟩
      refine ⟨fun q => ⟨fin 1 (by rw [if_pos (Or.inl q)]), hF.2.2.2.1, hF.2.2.2.2⟩, fun q => ⟨fun q2 => ⟨fin 0 (by rw [if_neg (by omega)]), hF.2.2.2.1, hF.2.2.2.2⟩, fun q2 => ⟨fin 1 (by rw [if_pos (by omega)]), hF.2.2.2.1, hF.2.2.2.2⟩⟩⟩
    · have hk : k < gI h pTa 12 := by omega
      have eo := g11 k (by omega)
      have o := ho.1 k g3 hk
      have gk := g1 _ o.1 o.2.1
      rw [eo]
      refine ⟨g3, by omega, o.1, o.2.1, fun q => ⟨by omega, by omega, ⟨by omega, by omega⟩, ⟨by omega, by omega⟩, ⟨st, fr + 1, k + 1, _, rfl, FrP_sI (by unfold Pfm; simp (decide := true)) hF, fgI_melt ho hI hk ?_⟩, by omega⟩, fun q => ⟨g5, by omega, ⟨by omega, by omega⟩, ⟨by omega, by omega⟩, ⟨st + 1, fr, k + 1, _, rfl, FrP_sI (by unfold Pfm; simp (decide := true)) hF, fgI_keep ho hI hk ?_⟩, by omega⟩⟩
      · apply Classical.byContradiction
        intro y
        rw [gk.2 y] at q
        omega
      · intro y
        exact q (gk.1 y)
  · simp (decide := true) only [↓E_Ta_forgetMelted_0, ↓E_Ta_forgetMelted_2, ↓E_Ta_forgetMelted_37, ↓E_Ta_forgetMelted_50, ↓E_Ta_forgetMelted_91, ↓E_Ta_forgetMelted_102, ↓E_Ta_forgetMelted_108, ↓E_Ta_forgetMelted_128, ↓E_Ta_forgetMelted_132, ↓E_Ta_forgetMelted_133, ↓e_ci, ↓e_cl, ↓e_nul, ↓e_add, ↓e_sub, ↓e_mul, ↓e_ladd, ↓e_lmul, ↓e_div, ↓e_rem, ↓e_ldiv, ↓e_lrem, ↓e_zeq, ↓e_zne, ↓e_zlt, ↓e_zge, ↓e_zgt, ↓e_zle, ↓e_ceq, ↓e_cne, ↓e_clt, ↓e_cge, ↓e_cgt, ↓e_cle, ↓e_nn, ↓e_gI, ↓e_gR, ↓e_pI, ↓e_pZ, ↓e_pR, ↓e_ia, ↓e_ba, ↓e_za, ↓e_iS, ↓e_bS, ↓e_zS, ↓e_aa, ↓e_aS, ↓e_len, ↓e_and, ↓e_xor, ↓e_shr, ↓e_ushr, ↓e_lcmp, ↓e_i2b, ↓e_i2l, ↓e_l2i, ↓e_sw, ↓e_min, ↓e_max, ↓e_acp, ↓e_il_0, ↓e_al_0, ↓e_ll_0, ↓e_is_0n, ↓e_as_0n, ↓e_ls_0n, ↓e_inc_0n, ↓e_il_1, ↓e_al_1, ↓e_ll_1, ↓e_is_1i, ↓e_as_1i, ↓e_ls_1i, ↓e_inc_1i, ↓e_is_1o, ↓e_as_1o, ↓e_ls_1o, ↓e_inc_1o, ↓e_is_1n, ↓e_as_1n, ↓e_ls_1n, ↓e_inc_1n, ↓e_il_2, ↓e_al_2, ↓e_ll_2, ↓e_is_2i, ↓e_as_2i, ↓e_ls_2i, ↓e_inc_2i, ↓e_is_2o, ↓e_as_2o, ↓e_ls_2o, ↓e_inc_2o, ↓e_is_2n, ↓e_as_2n, ↓e_ls_2n, ↓e_inc_2n, ↓e_il_3, ↓e_al_3, ↓e_ll_3, ↓e_is_3i, ↓e_as_3i, ↓e_ls_3i, ↓e_inc_3i, ↓e_is_3o, ↓e_as_3o, ↓e_ls_3o, ↓e_inc_3o, ↓e_is_3n, ↓e_as_3n, ↓e_ls_3n, ↓e_inc_3n, ↓e_il_4, ↓e_al_4, ↓e_ll_4, ↓e_is_4i, ↓e_as_4i, ↓e_ls_4i, ↓e_inc_4i, ↓e_is_4o, ↓e_as_4o, ↓e_ls_4o, ↓e_inc_4o, ↓e_is_4n, ↓e_as_4n, ↓e_ls_4n, ↓e_inc_4n, ↓e_il_5, ↓e_al_5, ↓e_ll_5, ↓e_is_5i, ↓e_as_5i, ↓e_ls_5i, ↓e_inc_5i, ↓e_is_5o, ↓e_as_5o, ↓e_ls_5o, ↓e_inc_5o, ↓e_is_5n, ↓e_as_5n, ↓e_ls_5n, ↓e_inc_5n, ↓e_il_6, ↓e_al_6, ↓e_ll_6, ↓e_is_6i, ↓e_as_6i, ↓e_ls_6i, ↓e_inc_6i, ↓e_is_6o, ↓e_as_6o, ↓e_ls_6o, ↓e_inc_6o, ↓e_is_6n, ↓e_as_6n, ↓e_ls_6n, ↓e_inc_6n, ↓e_il_7, ↓e_al_7, ↓e_ll_7, ↓e_is_7i, ↓e_as_7i, ↓e_ls_7i, ↓e_inc_7i, ↓e_is_7o, ↓e_as_7o, ↓e_ls_7o, ↓e_inc_7o, ↓e_is_7n, ↓e_as_7n, ↓e_ls_7n, ↓e_inc_7n, ↓e_il_8, ↓e_al_8, ↓e_ll_8, ↓e_is_8i, ↓e_as_8i, ↓e_ls_8i, ↓e_inc_8i, ↓e_is_8o, ↓e_as_8o, ↓e_ls_8o, ↓e_inc_8o, ↓e_is_8n, ↓e_as_8n, ↓e_ls_8n, ↓e_inc_8n, ↓e_il_9, ↓e_al_9, ↓e_ll_9, ↓e_is_9i, ↓e_as_9i, ↓e_ls_9i, ↓e_inc_9i, ↓e_is_9o, ↓e_as_9o, ↓e_ls_9o, ↓e_inc_9o, ↓e_is_9n, ↓e_as_9n, ↓e_ls_9n, ↓e_inc_9n, ↓e_il_10, ↓e_al_10, ↓e_ll_10, ↓e_is_10i, ↓e_as_10i, ↓e_ls_10i, ↓e_inc_10i, ↓e_is_10o, ↓e_as_10o, ↓e_ls_10o, ↓e_inc_10o, ↓e_is_10n, ↓e_as_10n, ↓e_ls_10n, ↓e_inc_10n, ↓e_il_11, ↓e_al_11, ↓e_ll_11, ↓e_is_11i, ↓e_as_11i, ↓e_ls_11i, ↓e_inc_11i, ↓e_is_11o, ↓e_as_11o, ↓e_ls_11o, ↓e_inc_11o, ↓e_is_11n, ↓e_as_11n, ↓e_ls_11n, ↓e_inc_11n, ↓e_il_12, ↓e_al_12, ↓e_ll_12, ↓e_is_12i, ↓e_as_12i, ↓e_ls_12i, ↓e_inc_12i, ↓e_is_12o, ↓e_as_12o, ↓e_ls_12o, ↓e_inc_12o, ↓e_is_12n, ↓e_as_12n, ↓e_ls_12n, ↓e_inc_12n, ↓e_dup_i, ↓e_pop_i, ↓e_dup2_ii, ↓e_dup2_io, ↓e_dup_o, ↓e_pop_o, ↓e_dup2_oi, ↓e_dup2_oo, ↓e_ir, ↓e_zr, ↓e_br, ↓e_lr, ↓e_ar, ↓e_vr, ↓e_cut, ↓e_cS_0, ↓e_cV_1, ↓e_cS_1, ↓e_cV_2, ↓e_cS_2, ↓e_cV_3, ↓e_cS_3, ↓e_cV_4, ↓e_cS_4, ↓e_cV_5, ↓e_cS_5, ↓e_cV_6, ↓e_cS_6, ↓e_cV_7, ↓e_cS_7, ↓e_swn, ↓e_swc, ↓e_tls, ↓e_tln, E_Ta_forgetMelted_0, E_Ta_forgetMelted_2, E_Ta_forgetMelted_37, E_Ta_forgetMelted_50, E_Ta_forgetMelted_91, E_Ta_forgetMelted_102, E_Ta_forgetMelted_108, E_Ta_forgetMelted_128, E_Ta_forgetMelted_132, E_Ta_forgetMelted_133, e_ci, e_cl, e_nul, e_add, e_sub, e_mul, e_ladd, e_lmul, e_div, e_rem, e_ldiv, e_lrem, e_zeq, e_zne, e_zlt, e_zge, e_zgt, e_zle, e_ceq, e_cne, e_clt, e_cge, e_cgt, e_cle, e_nn, e_gI, e_gR, e_pI, e_pZ, e_pR, e_ia, e_ba, e_za, e_iS, e_bS, e_zS, e_aa, e_aS, e_len, e_and, e_xor, e_shr, e_ushr, e_lcmp, e_i2b, e_i2l, e_l2i, e_sw, e_min, e_max, e_acp, e_il_0, e_al_0, e_ll_0, e_is_0n, e_as_0n, e_ls_0n, e_inc_0n, e_il_1, e_al_1, e_ll_1, e_is_1i, e_as_1i, e_ls_1i, e_inc_1i, e_is_1o, e_as_1o, e_ls_1o, e_inc_1o, e_is_1n, e_as_1n, e_ls_1n, e_inc_1n, e_il_2, e_al_2, e_ll_2, e_is_2i, e_as_2i, e_ls_2i, e_inc_2i, e_is_2o, e_as_2o, e_ls_2o, e_inc_2o, e_is_2n, e_as_2n, e_ls_2n, e_inc_2n, e_il_3, e_al_3, e_ll_3, e_is_3i, e_as_3i, e_ls_3i, e_inc_3i, e_is_3o, e_as_3o, e_ls_3o, e_inc_3o, e_is_3n, e_as_3n, e_ls_3n, e_inc_3n, e_il_4, e_al_4, e_ll_4, e_is_4i, e_as_4i, e_ls_4i, e_inc_4i, e_is_4o, e_as_4o, e_ls_4o, e_inc_4o, e_is_4n, e_as_4n, e_ls_4n, e_inc_4n, e_il_5, e_al_5, e_ll_5, e_is_5i, e_as_5i, e_ls_5i, e_inc_5i, e_is_5o, e_as_5o, e_ls_5o, e_inc_5o, e_is_5n, e_as_5n, e_ls_5n, e_inc_5n, e_il_6, e_al_6, e_ll_6, e_is_6i, e_as_6i, e_ls_6i, e_inc_6i, e_is_6o, e_as_6o, e_ls_6o, e_inc_6o, e_is_6n, e_as_6n, e_ls_6n, e_inc_6n, e_il_7, e_al_7, e_ll_7, e_is_7i, e_as_7i, e_ls_7i, e_inc_7i, e_is_7o, e_as_7o, e_ls_7o, e_inc_7o, e_is_7n, e_as_7n, e_ls_7n, e_inc_7n, e_il_8, e_al_8, e_ll_8, e_is_8i, e_as_8i, e_ls_8i, e_inc_8i, e_is_8o, e_as_8o, e_ls_8o, e_inc_8o, e_is_8n, e_as_8n, e_ls_8n, e_inc_8n, e_il_9, e_al_9, e_ll_9, e_is_9i, e_as_9i, e_ls_9i, e_inc_9i, e_is_9o, e_as_9o, e_ls_9o, e_inc_9o, e_is_9n, e_as_9n, e_ls_9n, e_inc_9n, e_il_10, e_al_10, e_ll_10, e_is_10i, e_as_10i, e_ls_10i, e_inc_10i, e_is_10o, e_as_10o, e_ls_10o, e_inc_10o, e_is_10n, e_as_10n, e_ls_10n, e_inc_10n, e_il_11, e_al_11, e_ll_11, e_is_11i, e_as_11i, e_ls_11i, e_inc_11i, e_is_11o, e_as_11o, e_ls_11o, e_inc_11o, e_is_11n, e_as_11n, e_ls_11n, e_inc_11n, e_il_12, e_al_12, e_ll_12, e_is_12i, e_as_12i, e_ls_12i, e_inc_12i, e_is_12o, e_as_12o, e_ls_12o, e_inc_12o, e_is_12n, e_as_12n, e_ls_12n, e_inc_12n, e_dup_i, e_pop_i, e_dup2_ii, e_dup2_io, e_dup_o, e_pop_o, e_dup2_oi, e_dup2_oo, e_ir, e_zr, e_br, e_lr, e_ar, e_vr, e_cut, e_cS_0, e_cV_1, e_cS_1, e_cV_2, e_cS_2, e_cV_3, e_cS_3, e_cV_4, e_cS_4, e_cV_5, e_cS_5, e_cV_6, e_cS_6, e_cV_7, e_cS_7, e_swn, e_swc, e_tls, e_tln, gI_sI, gI_sA, gR_sI, gR_sA, gI_sR, gR_sR, hN_sI, hN_sA, hN_sR, isO_sI, isO_sA, isO_sR, isAr_sI, isAr_sA, isAr_sR, hC_sI, hC_sA, hC_sR, hZ_sI, hZ_sA, hZ_sR, MW_sI, MW_sA, true_and, and_true, true_or, or_true, and_self, forall_const, imp_self, implies_true, if_true, if_false, false_and, and_false, false_or, or_false, not_false_eq_true, not_true_eq_false, sI_sI, entA, fitL, List.length_cons, List.length_nil, List.nil_append, List.cons_append, false_imp_iff, true_imp_iff, pn1, pn2, MW_sI, CW_sI, cr_Ho_0 w, cr_Ho_3 w, cr_Ho_4 w, cr_Ho_5 w, cr_Ho_6 w, cr_Ho_7 w, cr_Ho_8 w, cr_Ho_9 w, cr_Ho_13 w, cr_Ho_15 w, cr_Ho_16 w, cr_Ws_0 w, cr_Ss_0 w, cr_Re_0 w, cr_Re_1 w, cr_Re_2 w, cr_Re_3 w, cr_Ta_0 w, cr_Ta_1 w, cr_Ta_2 w, cr_Ta_3 w, cr_Ta_4 w, cr_Ta_5 w, cr_Ta_6 w, cr_Wa_0 w, cr_Wa_2 w, cr_Wa_3 w, cr_Wa_4 w, cr_Wa_5 w, cr_Wa_6 w, cr_Lo_0 w, cr_Lo_1 w, cr_Lo_2 w, cr_Lo_3 w, cr_Lo_4 w, cr_Sh_0 w, cr_Sh_1 w, cr_Sh_2 w, co_Ho w, ca_Ho_tape w, cl_Ho_tape, co_Ws w, co_Ss w, co_Ask w, co_Re w, co_Ta w, co_Fi w, co_Wa w, ca_Ho_told w, cl_Ho_told, co_Lo w, co_Sh w, ca_Ws_e w, cl_Ws_e, ca_Ss_e w, cl_Ss_e, ca_Re_sums w, cl_Re_sums, ca_Re_firsts w, cl_Re_firsts, co_Atom w, co_Raised w, ca_Ta_cells w, cl_Ta_cells, ca_Ta_numbers w, cl_Ta_numbers, ca_Ta_done w, cl_Ta_done, ca_Ta_order w, cl_Ta_order, ca_Ta_spare w, cl_Ta_spare, ca_Ta_parents w, cl_Ta_parents, ca_Ta_melting w, cl_Ta_melting, ca_Wa_queue w, cl_Wa_queue, ca_Wa_origins w, cl_Wa_origins, ca_Wa_vias w, cl_Wa_vias, ca_Wa_lengths w, cl_Wa_lengths, ca_Wa_seen w, cl_Wa_seen, co_Single w, ca_Lo_cells w, cl_Lo_cells, ca_Lo_kept w, cl_Lo_kept, ca_Lo_keptRows w, cl_Lo_keptRows, ca_Lo_names w, cl_Lo_names, ca_Lo_met w, cl_Lo_met, ca_Sh_cells w, cl_Sh_cells, ca_Sh_seen w, cl_Sh_seen, ca_Sh_queue w, cl_Sh_queue, CW_sI, CW_sA]
    refine ⟨0, _, _, _, rfl, by omega, by omega, FrP_refl _ h, fun s s0 s1 ⟨i, i0, i1, _⟩ => by omega⟩
