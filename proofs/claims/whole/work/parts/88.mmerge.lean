/-! THE COMPONENT: Table: merge -/
def Ct_Ta_merge : CtT := fun av h post => match av with
  | [.inr (.inl (some p)), .inl x, .inl y] => p = pTa ∧ CW h ∧ ∃ (L Q : Int) (a : AT), L % 2 = 0 ∧ 0 ≤ L ∧ L ≤ 10 ∧ TaR h L a ∧ WT L Q a ∧ lfS (gI h pTa_numbers) x ∧ lfS (gI h pTa_numbers) y ∧ x ≠ y ∧ ∀ h', FrP Pt h h' → TaR h' L (quA L a (gI h pTa_numbers x) (gI h pTa_numbers y)) → hasQ L a (gI h pTa_numbers x) (gI h pTa_numbers y) → (∀ s, lfS (gI h' pTa_numbers) s → lfS (gI h pTa_numbers) s ∧ gI h' pTa_numbers s = gI h pTa_numbers s) → post none h'
  | _ => False
theorem ce_Ta_merge {p : Nat} {x : Int} {y : Int} {h : PH} {post : TR} : Ct_Ta_merge [.inr (.inl (some p)), .inl x, .inl y] h post = (p = pTa ∧ CW h ∧ ∃ (L Q : Int) (a : AT), L % 2 = 0 ∧ 0 ≤ L ∧ L ≤ 10 ∧ TaR h L a ∧ WT L Q a ∧ lfS (gI h pTa_numbers) x ∧ lfS (gI h pTa_numbers) y ∧ x ≠ y ∧ ∀ h', FrP Pt h h' → TaR h' L (quA L a (gI h pTa_numbers x) (gI h pTa_numbers y)) → hasQ L a (gI h pTa_numbers x) (gI h pTa_numbers y) → (∀ s, lfS (gI h' pTa_numbers) s → lfS (gI h pTa_numbers) s ∧ gI h' pTa_numbers s = gI h pTa_numbers s) → post none h') := rfl
def B_Ta_merge_182 : TT := (tt_al 0 (tt_cV 4 1 Ct_Ta_forgetMelted tt_vr))
theorem E_Ta_merge_182 {K : TK} {R : TR} {ls : LSt} {st : List PV} {h : PH} : B_Ta_merge_182 K R ls st h = (tt_al 0 (tt_cV 4 1 Ct_Ta_forgetMelted tt_vr)) K R ls st h := rfl
theorem S_Ta_merge_182 (lc lz : Nat) : Snd md_Ta_merge lc lz 182 (B_Ta_merge_182) := (snd_al_n (n := 0) (dget dd_Ta_merge 90 rfl) rfl (snd_cV (n := 0) met_Ta_forgetMelted mi_Ta_forgetMelted ki_Ta_forgetMelted kv_Ta_forgetMelted ml_Ta_126 rfl (by decide) (dget dd_Ta_merge 91 rfl) (snd_vr (dget dd_Ta_merge 92 rfl) rfl)))
def B_Ta_merge_176 : TT := (tt_inc 3 1 (tt_cut 13))
theorem E_Ta_merge_176 {K : TK} {R : TR} {ls : LSt} {st : List PV} {h : PH} : B_Ta_merge_176 K R ls st h = (tt_inc 3 1 (tt_cut 13)) K R ls st h := rfl
theorem S_Ta_merge_176 (lc lz : Nat) : Snd md_Ta_merge lc lz 176 (B_Ta_merge_176) := (snd_inc (dget dd_Ta_merge 88 rfl) (snd_goto (tg := 13) (dget dd_Ta_merge 89 rfl) rfl snd_cut))
def B_Ta_merge_170 : TT := (tt_inc 5 1 (tt_cut 39))
theorem E_Ta_merge_170 {K : TK} {R : TR} {ls : LSt} {st : List PV} {h : PH} : B_Ta_merge_170 K R ls st h = (tt_inc 5 1 (tt_cut 39)) K R ls st h := rfl
theorem S_Ta_merge_170 (lc lz : Nat) : Snd md_Ta_merge lc lz 170 (B_Ta_merge_170) := (snd_inc (dget dd_Ta_merge 86 rfl) (snd_goto (tg := 39) (dget dd_Ta_merge 87 rfl) rfl snd_cut))
def B_Ta_merge_160 : TT := (tt_al 0 (tt_il 7 (tt_il 5 (tt_il 8 (tt_cV 4 4 Ct_Ta_link (B_Ta_merge_170))))))
theorem E_Ta_merge_160 {K : TK} {R : TR} {ls : LSt} {st : List PV} {h : PH} : B_Ta_merge_160 K R ls st h = (tt_al 0 (tt_il 7 (tt_il 5 (tt_il 8 (tt_cV 4 4 Ct_Ta_link (B_Ta_merge_170)))))) K R ls st h := rfl
theorem S_Ta_merge_160 (lc lz : Nat) : Snd md_Ta_merge lc lz 160 (B_Ta_merge_160) := (snd_al_n (n := 0) (dget dd_Ta_merge 81 rfl) rfl (snd_il (dget dd_Ta_merge 82 rfl) (snd_il (dget dd_Ta_merge 83 rfl) (snd_il (dget dd_Ta_merge 84 rfl) (snd_cV (n := 3) met_Ta_link mi_Ta_link ki_Ta_link kv_Ta_link ml_Ta_91 rfl (by decide) (dget dd_Ta_merge 85 rfl) (S_Ta_merge_170 lc lz))))))
def B_Ta_merge_138 : TT := (tt_il 10 (tt_ci (-2) (tt_ceq (B_Ta_merge_160) (tt_al 0 (tt_al 0 (tt_il 10 (tt_cV 4 2 Ct_Ta_rootOf (tt_il 7 (tt_cV 4 3 Ct_Ta_unite (B_Ta_merge_170))))))))))
theorem E_Ta_merge_138 {K : TK} {R : TR} {ls : LSt} {st : List PV} {h : PH} : B_Ta_merge_138 K R ls st h = (tt_il 10 (tt_ci (-2) (tt_ceq (B_Ta_merge_160) (tt_al 0 (tt_al 0 (tt_il 10 (tt_cV 4 2 Ct_Ta_rootOf (tt_il 7 (tt_cV 4 3 Ct_Ta_unite (B_Ta_merge_170)))))))))) K R ls st h := rfl
theorem S_Ta_merge_138 (lc lz : Nat) : Snd md_Ta_merge lc lz 138 (B_Ta_merge_138) := (snd_il (dget dd_Ta_merge 71 rfl) (snd_bipush (n := -2) (dget dd_Ta_merge 72 rfl) (inR_d rfl) (by decide) (snd_ceq (tg := 160) (dget dd_Ta_merge 73 rfl) rfl (S_Ta_merge_160 lc lz) (snd_al_n (n := 0) (dget dd_Ta_merge 74 rfl) rfl (snd_al_n (n := 0) (dget dd_Ta_merge 75 rfl) rfl (snd_il (dget dd_Ta_merge 76 rfl) (snd_cV (n := 1) met_Ta_rootOf mi_Ta_rootOf ki_Ta_rootOf kv_Ta_rootOf ml_Ta_123 rfl (by decide) (dget dd_Ta_merge 77 rfl) (snd_il (dget dd_Ta_merge 78 rfl) (snd_cV (n := 2) met_Ta_unite mi_Ta_unite ki_Ta_unite kv_Ta_unite ml_Ta_116 rfl (by decide) (dget dd_Ta_merge 79 rfl) (snd_goto (tg := 170) (dget dd_Ta_merge 80 rfl) rfl (S_Ta_merge_170 lc lz)))))))))))
def B_Ta_merge_68 : TT := (tt_al 0 (tt_il 4 (tt_il 5 (tt_il 6 (tt_cV 4 4 Ct_Ta_unlink (tt_al 0 (tt_il 4 (tt_cV 4 2 Ct_Ta_rootOf (tt_is 7 (tt_al 0 (tt_il 6 (tt_cV 4 2 Ct_Ta_rootOf (tt_is 8 (tt_al 0 (tt_il 7 (tt_il 5 (tt_cV 4 3 Ct_Ta_get (tt_is 9 (tt_al 0 (tt_il 8 (tt_il 5 (tt_ci 1 (tt_xor (tt_cV 4 3 Ct_Ta_get (tt_is 10 (tt_il 9 (tt_ci (-2) (tt_ceq (B_Ta_merge_138) (tt_al 0 (tt_al 0 (tt_il 9 (tt_cV 4 2 Ct_Ta_rootOf (tt_il 8 (tt_cV 4 3 Ct_Ta_unite (B_Ta_merge_170)))))))))))))))))))))))))))))))))))
theorem E_Ta_merge_68 {K : TK} {R : TR} {ls : LSt} {st : List PV} {h : PH} : B_Ta_merge_68 K R ls st h = (tt_al 0 (tt_il 4 (tt_il 5 (tt_il 6 (tt_cV 4 4 Ct_Ta_unlink (tt_al 0 (tt_il 4 (tt_cV 4 2 Ct_Ta_rootOf (tt_is 7 (tt_al 0 (tt_il 6 (tt_cV 4 2 Ct_Ta_rootOf (tt_is 8 (tt_al 0 (tt_il 7 (tt_il 5 (tt_cV 4 3 Ct_Ta_get (tt_is 9 (tt_al 0 (tt_il 8 (tt_il 5 (tt_ci 1 (tt_xor (tt_cV 4 3 Ct_Ta_get (tt_is 10 (tt_il 9 (tt_ci (-2) (tt_ceq (B_Ta_merge_138) (tt_al 0 (tt_al 0 (tt_il 9 (tt_cV 4 2 Ct_Ta_rootOf (tt_il 8 (tt_cV 4 3 Ct_Ta_unite (B_Ta_merge_170))))))))))))))))))))))))))))))))))) K R ls st h := rfl
theorem S_Ta_merge_68 (lc lz : Nat) : Snd md_Ta_merge lc lz 68 (B_Ta_merge_68) := (snd_al_n (n := 0) (dget dd_Ta_merge 36 rfl) rfl (snd_il (dget dd_Ta_merge 37 rfl) (snd_il (dget dd_Ta_merge 38 rfl) (snd_il (dget dd_Ta_merge 39 rfl) (snd_cV (n := 3) met_Ta_unlink mi_Ta_unlink ki_Ta_unlink kv_Ta_unlink ml_Ta_120 rfl (by decide) (dget dd_Ta_merge 40 rfl) (snd_al_n (n := 0) (dget dd_Ta_merge 41 rfl) rfl (snd_il (dget dd_Ta_merge 42 rfl) (snd_cV (n := 1) met_Ta_rootOf mi_Ta_rootOf ki_Ta_rootOf kv_Ta_rootOf ml_Ta_123 rfl (by decide) (dget dd_Ta_merge 43 rfl) (snd_is (dget dd_Ta_merge 44 rfl) (snd_al_n (n := 0) (dget dd_Ta_merge 45 rfl) rfl (snd_il (dget dd_Ta_merge 46 rfl) (snd_cV (n := 1) met_Ta_rootOf mi_Ta_rootOf ki_Ta_rootOf kv_Ta_rootOf ml_Ta_123 rfl (by decide) (dget dd_Ta_merge 47 rfl) (snd_is (dget dd_Ta_merge 48 rfl) (snd_al_n (n := 0) (dget dd_Ta_merge 49 rfl) rfl (snd_il (dget dd_Ta_merge 50 rfl) (snd_il (dget dd_Ta_merge 51 rfl) (snd_cV (n := 2) met_Ta_get mi_Ta_get ki_Ta_get kv_Ta_get ml_Ta_102 rfl (by decide) (dget dd_Ta_merge 52 rfl) (snd_is (dget dd_Ta_merge 53 rfl) (snd_al_n (n := 0) (dget dd_Ta_merge 54 rfl) rfl (snd_il (dget dd_Ta_merge 55 rfl) (snd_il (dget dd_Ta_merge 56 rfl) (snd_iconst (n := 1) (dget dd_Ta_merge 57 rfl) (inR_d rfl) rfl (snd_xor (dget dd_Ta_merge 58 rfl) (snd_cV (n := 2) met_Ta_get mi_Ta_get ki_Ta_get kv_Ta_get ml_Ta_102 rfl (by decide) (dget dd_Ta_merge 59 rfl) (snd_is (dget dd_Ta_merge 60 rfl) (snd_il (dget dd_Ta_merge 61 rfl) (snd_bipush (n := -2) (dget dd_Ta_merge 62 rfl) (inR_d rfl) (by decide) (snd_ceq (tg := 138) (dget dd_Ta_merge 63 rfl) rfl (S_Ta_merge_138 lc lz) (snd_al_n (n := 0) (dget dd_Ta_merge 64 rfl) rfl (snd_al_n (n := 0) (dget dd_Ta_merge 65 rfl) rfl (snd_il (dget dd_Ta_merge 66 rfl) (snd_cV (n := 1) met_Ta_rootOf mi_Ta_rootOf ki_Ta_rootOf kv_Ta_rootOf ml_Ta_123 rfl (by decide) (dget dd_Ta_merge 67 rfl) (snd_il (dget dd_Ta_merge 68 rfl) (snd_cV (n := 2) met_Ta_unite mi_Ta_unite ki_Ta_unite kv_Ta_unite ml_Ta_116 rfl (by decide) (dget dd_Ta_merge 69 rfl) (snd_goto (tg := 170) (dget dd_Ta_merge 70 rfl) rfl (S_Ta_merge_170 lc lz))))))))))))))))))))))))))))))))))))
def B_Ta_merge_39 : TT := (tt_il 5 (tt_al 0 (tt_gI 4 11 (tt_cge (B_Ta_merge_176) (tt_al 0 (tt_il 4 (tt_il 5 (tt_cV 4 3 Ct_Ta_get (tt_is 6 (tt_il 6 (tt_ci (-2) (tt_cne (B_Ta_merge_68) (B_Ta_merge_170)))))))))))))
theorem E_Ta_merge_39 {K : TK} {R : TR} {ls : LSt} {st : List PV} {h : PH} : B_Ta_merge_39 K R ls st h = (tt_il 5 (tt_al 0 (tt_gI 4 11 (tt_cge (B_Ta_merge_176) (tt_al 0 (tt_il 4 (tt_il 5 (tt_cV 4 3 Ct_Ta_get (tt_is 6 (tt_il 6 (tt_ci (-2) (tt_cne (B_Ta_merge_68) (B_Ta_merge_170))))))))))))) K R ls st h := rfl
theorem S_Ta_merge_39 (lc lz : Nat) : Snd md_Ta_merge lc lz 39 (B_Ta_merge_39) := (snd_il (dget dd_Ta_merge 23 rfl) (snd_al_n (n := 0) (dget dd_Ta_merge 24 rfl) rfl (snd_gI (kn := 11) fd_Ta_48 rfl (dget dd_Ta_merge 25 rfl) (snd_cge (tg := 176) (dget dd_Ta_merge 26 rfl) rfl (S_Ta_merge_176 lc lz) (snd_al_n (n := 0) (dget dd_Ta_merge 27 rfl) rfl (snd_il (dget dd_Ta_merge 28 rfl) (snd_il (dget dd_Ta_merge 29 rfl) (snd_cV (n := 2) met_Ta_get mi_Ta_get ki_Ta_get kv_Ta_get ml_Ta_102 rfl (by decide) (dget dd_Ta_merge 30 rfl) (snd_is (dget dd_Ta_merge 31 rfl) (snd_il (dget dd_Ta_merge 32 rfl) (snd_bipush (n := -2) (dget dd_Ta_merge 33 rfl) (inR_d rfl) (by decide) (snd_cne (tg := 68) (dget dd_Ta_merge 34 rfl) rfl (S_Ta_merge_68 lc lz) (snd_goto (tg := 170) (dget dd_Ta_merge 35 rfl) rfl (S_Ta_merge_170 lc lz))))))))))))))
def B_Ta_merge_13 : TT := (tt_il 3 (tt_al 0 (tt_gI 4 7 (tt_cge (B_Ta_merge_182) (tt_il 3 (tt_ci 300 (tt_cge (B_Ta_merge_182) (tt_al 0 (tt_gR 4 6 (tt_il 3 (tt_ia (tt_is 4 (tt_ci 0 (tt_is 5 (tt_cut 39)))))))))))))))
theorem E_Ta_merge_13 {K : TK} {R : TR} {ls : LSt} {st : List PV} {h : PH} : B_Ta_merge_13 K R ls st h = (tt_il 3 (tt_al 0 (tt_gI 4 7 (tt_cge (B_Ta_merge_182) (tt_il 3 (tt_ci 300 (tt_cge (B_Ta_merge_182) (tt_al 0 (tt_gR 4 6 (tt_il 3 (tt_ia (tt_is 4 (tt_ci 0 (tt_is 5 (tt_cut 39))))))))))))))) K R ls st h := rfl
theorem S_Ta_merge_13 (lc lz : Nat) : Snd md_Ta_merge lc lz 13 (B_Ta_merge_13) := (snd_il_n (n := 3) (dget dd_Ta_merge 9 rfl) rfl (snd_al_n (n := 0) (dget dd_Ta_merge 10 rfl) rfl (snd_gI (kn := 7) fd_Ta_34 rfl (dget dd_Ta_merge 11 rfl) (snd_cge (tg := 182) (dget dd_Ta_merge 12 rfl) rfl (S_Ta_merge_182 lc lz) (snd_il_n (n := 3) (dget dd_Ta_merge 13 rfl) rfl (snd_sipush (n := 300) (dget dd_Ta_merge 14 rfl) (inR_d rfl) (by decide) (snd_cge (tg := 182) (dget dd_Ta_merge 15 rfl) rfl (S_Ta_merge_182 lc lz) (snd_al_n (n := 0) (dget dd_Ta_merge 16 rfl) rfl (snd_gR (kn := 6) fd_Ta_31 rfl (dget dd_Ta_merge 17 rfl) (snd_il_n (n := 3) (dget dd_Ta_merge 18 rfl) rfl (snd_ia (dget dd_Ta_merge 19 rfl) (snd_is (dget dd_Ta_merge 20 rfl) (snd_iconst (n := 0) (dget dd_Ta_merge 21 rfl) (inR_d rfl) rfl (snd_is (dget dd_Ta_merge 22 rfl) snd_cut))))))))))))))
def B_Ta_merge_0 : TT := (tt_al 0 (tt_ci 0 (tt_pI 4 7 (tt_al 0 (tt_il 1 (tt_il 2 (tt_cV 4 3 Ct_Ta_unite (tt_ci 0 (tt_is 3 (tt_cut 13))))))))))
theorem E_Ta_merge_0 {K : TK} {R : TR} {ls : LSt} {st : List PV} {h : PH} : B_Ta_merge_0 K R ls st h = (tt_al 0 (tt_ci 0 (tt_pI 4 7 (tt_al 0 (tt_il 1 (tt_il 2 (tt_cV 4 3 Ct_Ta_unite (tt_ci 0 (tt_is 3 (tt_cut 13)))))))))) K R ls st h := rfl
theorem S_Ta_merge_0 (lc lz : Nat) : Snd md_Ta_merge lc lz 0 (B_Ta_merge_0) := (snd_al_n (n := 0) (dget dd_Ta_merge 0 rfl) rfl (snd_iconst (n := 0) (dget dd_Ta_merge 1 rfl) (inR_d rfl) rfl (snd_pI (kn := 7) fd_Ta_34 rfl (dget dd_Ta_merge 2 rfl) (snd_al_n (n := 0) (dget dd_Ta_merge 3 rfl) rfl (snd_il_n (n := 1) (dget dd_Ta_merge 4 rfl) rfl (snd_il_n (n := 2) (dget dd_Ta_merge 5 rfl) rfl (snd_cV (n := 2) met_Ta_unite mi_Ta_unite ki_Ta_unite kv_Ta_unite ml_Ta_116 rfl (by decide) (dget dd_Ta_merge 6 rfl) (snd_iconst (n := 0) (dget dd_Ta_merge 7 rfl) (inR_d rfl) rfl (snd_is_n (n := 3) (dget dd_Ta_merge 8 rfl) rfl snd_cut)))))))))
def muMg (pc : Nat) (ls : LSt) (_ : PH) : Nat := if pc = 13 then (10000 - 20 * locI ls 3).toNat else (10000 - 20 * locI ls 3 - 1 - locI ls 5).toNat
theorem muMg_13 {ls : LSt} {h' : PH} : muMg 13 ls h' = (10000 - 20 * locI ls 3).toNat := rfl
theorem muMg_39 {ls : LSt} {h' : PH} : muMg 39 ls h' = (10000 - 20 * locI ls 3 - 1 - locI ls 5).toNat := rfl
theorem lkH_C {h : PH} {s c t x y : Int} {b : Nat} (hb : b ≠ pTa_cells) : gI (lkH h s c t x y) b = gI h b := by
  funext j
  unfold lkH
  rw [gI_sI, if_neg (fun z => hb z.1), gI_sI, if_neg (fun z => hb z.1)]
theorem lkH_dp {h : PH} {g c t : Int} : gI (lkH h g c t (-2) (-2)) pTa_cells = dpC (gI h pTa_cells) g c t := by
  funext j
  unfold lkH dpC
  simp (decide := true) only [gI_sI, true_and]
theorem lkH_ad {h : PH} {g c t : Int} : gI (lkH h g c t t g) pTa_cells = adC (gI h pTa_cells) g c t := by
  funext j
  unfold lkH adC
  simp (decide := true) only [gI_sI, true_and]
theorem unH_C {h : PH} {g s : Int} : gI (unH h g s) pTa_cells = gI h pTa_cells ∧ gI (unH h g s) pTa_numbers = gI h pTa_numbers := ⟨rfl, rfl⟩
theorem dpC_em {C : Int → Int} {g c t L s n : Int} (h : emR C L s n) : emR (dpC C g c t) L s n := by
  intro d d0 d1 d2
  unfold dpC
  split
  · rfl
  · split
    · rfl
    · exact h d d0 d1 d2
/-- what stands when the merge's column c of row g = Me k was gone through -/
def mgJ (h : PH) (L x0 y0 : Int) (h' : PH) (k c : Int) : Prop := ∃ (R : Int → Int) (m : Int), MS h h' R L x0 y0 m ∧ 0 ≤ k ∧ k < m ∧ 0 ≤ c ∧ c ≤ L ∧ emK h' L k ∧ emR (gI h' pTa_cells) L (gI h' pTa_melting k) c
theorem MS_CW {h h' : PH} {R : Int → Int} {L x0 y0 m : Int} (hS : MS h h' R L x0 y0 m) (w : CW h) : CW h' ∧ gI h' pTa_numbers = gI h pTa_numbers ∧ gI h' pTa 11 = gI h pTa 11 := ⟨FrP_CW hS.1 w, FrP_arr hS.1 (fun j z => by unfold Pmg at z; simp (decide := true) at z), hS.1.1 _ _ (by unfold Pmg; simp (decide := true))⟩
theorem mg_roots {Nu P Me R : Int → Int} {m : Int} (h : MIp Nu P Me R m) {s : Int} (hs : lfS Nu s) : lfS Nu (R s) ∧ R (R s) = R s ∧ P (R s) = R s := by
  have a := h.2.2.2.2.2.2.1 s hs
  exact ⟨a.1, (h.2.2.2.2.2.2.1 _ a.1).2.2.2.2 a.2.1, a.2.1⟩
/-- rows that melted before stay empty: an arrow between roots touches none of them -/
theorem adC_em {Nu P Me R C : Int → Int} {m g c t L i n : Int} (hM : MIp Nu P Me R m) (L2 : L % 2 = 0) (L10 : L ≤ 10) (c0 : 0 ≤ c) (c1 : c < L) (i0 : 0 ≤ i) (i1 : i < m) (pg : P g = g) (pt : P t = t) (h : emR C L (Me i) n) : emR (adC C g c t) L (Me i) n := by
  intro d d0 d1 d2
  have o := oc_in L2 c0 c1
  have a := (hM.2.1 i i0 i1).2
  have b1 : Me i ≠ g := fun z => a (by rw [z]; exact pg)
  have b2 : Me i ≠ t := fun z => a (by rw [z]; exact pt)
  unfold adC
  rw [if_neg (by omega), if_neg (by omega)]
  exact h d d0 d1 d2
theorem dpC_sym {Nu C0 C R : Int → Int} {L x0 y0 g c t : Int} (L2 : L % 2 = 0) (L10 : L ≤ 10) (h : MIc Nu C0 C R L x0 y0) (hg : lfS Nu g) (c0 : 0 ≤ c) (c1 : c < L) (ht : C (10 * g + c) = t) (hn : t ≠ -2) {s d : Int} (hs : lfS Nu s) (d0 : 0 ≤ d) (d1 : d < L) (z : dpC C g c t (10 * s + d) ≠ -2) : dpC C g c t (10 * s + d) = C (10 * s + d) ∧ lfS Nu (C (10 * s + d)) ∧ dpC C g c t (10 * C (10 * s + d) + oc d) = s := by
  obtain ⟨h1, -⟩ := h
  have t1 := (h1 g c hg c0 c1).resolve_left (by rw [ht]; exact hn)
  rw [ht] at t1
  have e : dpC C g c t (10 * s + d) = C (10 * s + d) := by
    unfold dpC at z ⊢
    by_cases a : 10 * s + d = 10 * t + oc c
    · rw [if_pos a] at z; exact absurd rfl z
    · rw [if_neg a] at z ⊢
      by_cases b : 10 * s + d = 10 * g + c
      · rw [if_pos b] at z; exact absurd rfl z
      · rw [if_neg b]
  have od := oc_in L2 d0 d1
  have o := oc_in L2 c0 c1
  obtain ⟨q1, q2⟩ := (h1 s d hs d0 d1).resolve_left (by rw [← e]; exact z)
  refine ⟨e, q1, ?_⟩
  have k : dpC C g c t (10 * C (10 * s + d) + oc d) = C (10 * C (10 * s + d) + oc d) := by
    have n1 : ¬ (C (10 * s + d) = t ∧ oc d = oc c) := by
      rintro ⟨a1, a2⟩
      have : d = c := oc_inj d0 c0 a2
      rw [a1, a2, t1.2] at q2
      apply z
      unfold dpC
      rw [if_neg (fun y => by rw [← q2] at y; have := oc_ne c; omega), if_pos (by rw [← q2, this])]
    have n2 : ¬ (C (10 * s + d) = g ∧ oc d = c) := by
      rintro ⟨a1, a2⟩
      rw [a1, a2, ht] at q2
      have : d = oc c := by rw [← a2, oc_oc d0]
      apply z
      unfold dpC
      rw [if_pos (by rw [← q2, this])]
    unfold dpC
    rw [if_neg (by omega), if_neg (by omega)]
  rw [k]; exact q2
/-- the arrow goes, and two roots become one -/
theorem MS_uniD {h h1 : PH} {R : Int → Int} {L x0 y0 m x y g c t g' : Int} (L2 : L % 2 = 0) (L10 : L ≤ 10) (hS : MS h h1 R L x0 y0 m) (hx : lfS (gI h pTa_numbers) x) (hy : lfS (gI h pTa_numbers) y) (px : gI h1 pTa_parents x = x) (py : gI h1 pTa_parents y = y) (hne : x ≠ y) (hlt : gI h pTa_numbers y < gI h pTa_numbers x) (hf : fcd (gI h pTa_numbers) (gI h pTa_cells) L x0 y0 x y)
    (hg : lfS (gI h pTa_numbers) g) (c0 : 0 ≤ c) (c1 : c < L) (ht : gI h1 pTa_cells (10 * g + c) = t) (hn : t ≠ -2) (hg' : lfS (gI h pTa_numbers) g') (n1 : dpC (gI h1 pTa_cells) g c t (10 * g' + c) ≠ -2) (r1 : upR R x y g' = upR R x y g) (r2 : upR R x y (gI h1 pTa_cells (10 * g' + c)) = upR R x y t) : MS h (unH (lkH h1 g c t (-2) (-2)) x y) (upR R x y) L x0 y0 (m + 1) := by
  obtain ⟨f1, f2, f3, f4, f5, f6, f7⟩ := hS
  have hb := MIp_298 f3 hx hy px py hne
  have pc : Pmg pTa_cells 0 := Or.inl rfl
  refine ⟨FrP_sI (by unfold Pmg; simp (decide := true)) (FrP_sI (by unfold Pmg; simp (decide := true)) (FrP_sI (by unfold Pmg; simp (decide := true)) (FrP_sI (Or.inl rfl) (FrP_sI (Or.inl rfl) f1)))), ?_, ?_, ?_, by omega, by omega, upR_same f7⟩
  · show gI (lkH h1 g c t (-2) (-2)) pTa 7 + 1 = m + 1
    rw [lkH_C (by decide), f2]
  · have e1 : gI (unH (lkH h1 g c t (-2) (-2)) x y) pTa_parents = upI (gI h1 pTa_parents) x y := by
      funext j
      unfold unH upI
      simp (decide := true) only [gI_sI, if_false, false_and, true_and]
      rw [lkH_C (by decide)]
    have e2 : gI (unH (lkH h1 g c t (-2) (-2)) x y) pTa_melting = upI (gI h1 pTa_melting) m x := by
      funext j
      unfold unH upI
      simp (decide := true) only [gI_sI, if_false, false_and, true_and]
      rw [lkH_C (by decide), lkH_C (by decide), f2]
    rw [e1, e2]
    exact MIp_uni f3 hx hy px py hlt
  · rw [unH_C.1, lkH_dp]
    exact MIc_drop L2 L10 (MIc_uni f4 hf) hg c0 c1 ht hn hg' n1 r1 r2
/-- .. or they are one already -/
theorem MS_same {h h1 : PH} {R : Int → Int} {L x0 y0 m g c t g' : Int} (L2 : L % 2 = 0) (L10 : L ≤ 10) (hS : MS h h1 R L x0 y0 m) (hg : lfS (gI h pTa_numbers) g) (c0 : 0 ≤ c) (c1 : c < L) (ht : gI h1 pTa_cells (10 * g + c) = t) (hn : t ≠ -2) (hg' : lfS (gI h pTa_numbers) g') (n1 : dpC (gI h1 pTa_cells) g c t (10 * g' + c) ≠ -2) (r1 : R g' = R g) (r2 : R (gI h1 pTa_cells (10 * g' + c)) = R t) : MS h (lkH h1 g c t (-2) (-2)) R L x0 y0 m := by
  obtain ⟨f1, f2, f3, f4, f5, f6, f7⟩ := hS
  refine ⟨FrP_sI (Or.inl rfl) (FrP_sI (Or.inl rfl) f1), by rw [lkH_C (by decide)]; exact f2, by rw [lkH_C (by decide), lkH_C (by decide)]; exact f3, ?_, f5, f6, f7⟩
  rw [lkH_dp]
  exact MIc_drop L2 L10 f4 hg c0 c1 ht hn hg' n1 r1 r2
theorem upR_one {R : Int → Int} {x y s t : Int} (hs : R s = x) (ht : R t = y) : upR R x y s = upR R x y t ∧ upR R y x s = upR R y x t := by
  unfold upR
  rw [hs, ht]
  refine ⟨?_, ?_⟩
  · rw [if_pos rfl]; split <;> rfl
  · rw [if_pos rfl]; split
    · rename_i q; rw [q]
    · rfl
/-- a column is gone through -/
theorem merge_39 {h h1 : PH} {K : TK} {R' : TR} {L x0 y0 k c : Int} {a : AT} {y6 y7 y8 y9 y10 : Option PV} (w : CW h) (L2 : L % 2 = 0) (L10 : L ≤ 10) (hT : TaR h L a) (hJ : mgJ h L x0 y0 h1 k c) (hc : c < L)
    (hK : ∀ h2 z6 z7 z8 z9 z10, mgJ h L x0 y0 h2 k (c + 1) → gI h2 pTa_melting k = gI h1 pTa_melting k → K 39 [some (.inr (.inl (some pTa))), some (.inl x0), some (.inl y0), some (.inl k), some (.inl (gI h1 pTa_melting k)), some (.inl (c + 1)), z6, z7, z8, z9, z10] h2) :
    B_Ta_merge_39 K R' [some (.inr (.inl (some pTa))), some (.inl x0), some (.inl y0), some (.inl k), some (.inl (gI h1 pTa_melting k)), some (.inl c), y6, y7, y8, y9, y10] [] h1 := by
  obtain ⟨R, m, hS, k0, k1, c0, c1, eK, eR⟩ := hJ
  obtain ⟨f1, f2, f3, f4, f5, f6, f7⟩ := id hS
  obtain ⟨hS0, ho, hE, hP⟩ := id hT
  obtain ⟨w1, eN, e11⟩ := MS_CW hS w
  have h11 : gI h1 pTa 11 = L := by rw [e11]; exact hS0.2.2.2.2.2.2.2.2.2.2.2
  have o := oc_in L2 c0 hc
  obtain ⟨g, hg0⟩ : ∃ g, g = gI h1 pTa_melting k := ⟨_, rfl⟩
  have hg : lfS (gI h pTa_numbers) g := by rw [hg0]; exact (f3.2.1 k k0 k1).1
  obtain ⟨t, ht⟩ : ∃ t, t = gI h1 pTa_cells (10 * g + c) := ⟨_, rfl⟩
  have g0 := hg.1
  have g1 := hg.2.1
  rw [← hg0] at hK eR ⊢
  simp (decide := true) only [↓E_Ta_merge_0, ↓E_Ta_merge_13, ↓E_Ta_merge_39, ↓E_Ta_merge_68, ↓E_Ta_merge_138, ↓E_Ta_merge_160, ↓E_Ta_merge_170, ↓E_Ta_merge_176, ↓E_Ta_merge_182, ↓ce_Ta_unite, ↓ce_Ta_get, ↓ce_Ta_unlink, ↓ce_Ta_rootOf, ↓ce_Ta_link, ↓ce_Ta_forgetMelted, ↓e_ci, ↓e_cl, ↓e_nul, ↓e_add, ↓e_sub, ↓e_mul, ↓e_ladd, ↓e_lmul, ↓e_div, ↓e_rem, ↓e_ldiv, ↓e_lrem, ↓e_zeq, ↓e_zne, ↓e_zlt, ↓e_zge, ↓e_zgt, ↓e_zle, ↓e_ceq, ↓e_cne, ↓e_clt, ↓e_cge, ↓e_cgt, ↓e_cle, ↓e_nn, ↓e_gI, ↓e_gR, ↓e_pI, ↓e_pZ, ↓e_pR, ↓e_ia, ↓e_ba, ↓e_za, ↓e_iS, ↓e_bS, ↓e_zS, ↓e_aa, ↓e_aS, ↓e_len, ↓e_and, ↓e_xor, ↓e_shr, ↓e_ushr, ↓e_lcmp, ↓e_i2b, ↓e_i2l, ↓e_l2i, ↓e_sw, ↓e_min, ↓e_max, ↓e_acp, ↓e_il_0, ↓e_al_0, ↓e_ll_0, ↓e_is_0n, ↓e_as_0n, ↓e_ls_0n, ↓e_inc_0n, ↓e_il_1, ↓e_al_1, ↓e_ll_1, ↓e_is_1i, ↓e_as_1i, ↓e_ls_1i, ↓e_inc_1i, ↓e_is_1o, ↓e_as_1o, ↓e_ls_1o, ↓e_inc_1o, ↓e_is_1n, ↓e_as_1n, ↓e_ls_1n, ↓e_inc_1n, ↓e_il_2, ↓e_al_2, ↓e_ll_2, ↓e_is_2i, ↓e_as_2i, ↓e_ls_2i, ↓e_inc_2i, ↓e_is_2o, ↓e_as_2o, ↓e_ls_2o, ↓e_inc_2o, ↓e_is_2n, ↓e_as_2n, ↓e_ls_2n, ↓e_inc_2n, ↓e_il_3, ↓e_al_3, ↓e_ll_3, ↓e_is_3i, ↓e_as_3i, ↓e_ls_3i, ↓e_inc_3i, ↓e_is_3o, ↓e_as_3o, ↓e_ls_3o, ↓e_inc_3o, ↓e_is_3n, ↓e_as_3n, ↓e_ls_3n, ↓e_inc_3n, ↓e_il_4, ↓e_al_4, ↓e_ll_4, ↓e_is_4i, ↓e_as_4i, ↓e_ls_4i, ↓e_inc_4i, ↓e_is_4o, ↓e_as_4o, ↓e_ls_4o, ↓e_inc_4o, ↓e_is_4n, ↓e_as_4n, ↓e_ls_4n, ↓e_inc_4n, ↓e_il_5, ↓e_al_5, ↓e_ll_5, ↓e_is_5i, ↓e_as_5i, ↓e_ls_5i, ↓e_inc_5i, ↓e_is_5o, ↓e_as_5o, ↓e_ls_5o, ↓e_inc_5o, ↓e_is_5n, ↓e_as_5n, ↓e_ls_5n, ↓e_inc_5n, ↓e_il_6, ↓e_al_6, ↓e_ll_6, ↓e_is_6i, ↓e_as_6i, ↓e_ls_6i, ↓e_inc_6i, ↓e_is_6o, ↓e_as_6o, ↓e_ls_6o, ↓e_inc_6o, ↓e_is_6n, ↓e_as_6n, ↓e_ls_6n, ↓e_inc_6n, ↓e_il_7, ↓e_al_7, ↓e_ll_7, ↓e_is_7i, ↓e_as_7i, ↓e_ls_7i, ↓e_inc_7i, ↓e_is_7o, ↓e_as_7o, ↓e_ls_7o, ↓e_inc_7o, ↓e_is_7n, ↓e_as_7n, ↓e_ls_7n, ↓e_inc_7n, ↓e_il_8, ↓e_al_8, ↓e_ll_8, ↓e_is_8i, ↓e_as_8i, ↓e_ls_8i, ↓e_inc_8i, ↓e_is_8o, ↓e_as_8o, ↓e_ls_8o, ↓e_inc_8o, ↓e_is_8n, ↓e_as_8n, ↓e_ls_8n, ↓e_inc_8n, ↓e_il_9, ↓e_al_9, ↓e_ll_9, ↓e_is_9i, ↓e_as_9i, ↓e_ls_9i, ↓e_inc_9i, ↓e_is_9o, ↓e_as_9o, ↓e_ls_9o, ↓e_inc_9o, ↓e_is_9n, ↓e_as_9n, ↓e_ls_9n, ↓e_inc_9n, ↓e_il_10, ↓e_al_10, ↓e_ll_10, ↓e_is_10i, ↓e_as_10i, ↓e_ls_10i, ↓e_inc_10i, ↓e_is_10o, ↓e_as_10o, ↓e_ls_10o, ↓e_inc_10o, ↓e_is_10n, ↓e_as_10n, ↓e_ls_10n, ↓e_inc_10n, ↓e_il_11, ↓e_al_11, ↓e_ll_11, ↓e_is_11i, ↓e_as_11i, ↓e_ls_11i, ↓e_inc_11i, ↓e_is_11o, ↓e_as_11o, ↓e_ls_11o, ↓e_inc_11o, ↓e_is_11n, ↓e_as_11n, ↓e_ls_11n, ↓e_inc_11n, ↓e_il_12, ↓e_al_12, ↓e_ll_12, ↓e_is_12i, ↓e_as_12i, ↓e_ls_12i, ↓e_inc_12i, ↓e_is_12o, ↓e_as_12o, ↓e_ls_12o, ↓e_inc_12o, ↓e_is_12n, ↓e_as_12n, ↓e_ls_12n, ↓e_inc_12n, ↓e_dup_i, ↓e_pop_i, ↓e_dup2_ii, ↓e_dup2_io, ↓e_dup_o, ↓e_pop_o, ↓e_dup2_oi, ↓e_dup2_oo, ↓e_ir, ↓e_zr, ↓e_br, ↓e_lr, ↓e_ar, ↓e_vr, ↓e_cut, ↓e_cS_0, ↓e_cV_1, ↓e_cS_1, ↓e_cV_2, ↓e_cS_2, ↓e_cV_3, ↓e_cS_3, ↓e_cV_4, ↓e_cS_4, ↓e_cV_5, ↓e_cS_5, ↓e_cV_6, ↓e_cS_6, ↓e_cV_7, ↓e_cS_7, ↓e_swn, ↓e_swc, ↓e_tls, ↓e_tln, E_Ta_merge_0, E_Ta_merge_13, E_Ta_merge_39, E_Ta_merge_68, E_Ta_merge_138, E_Ta_merge_160, E_Ta_merge_170, E_Ta_merge_176, E_Ta_merge_182, ce_Ta_unite, ce_Ta_get, ce_Ta_unlink, ce_Ta_rootOf, ce_Ta_link, ce_Ta_forgetMelted, e_ci, e_cl, e_nul, e_add, e_sub, e_mul, e_ladd, e_lmul, e_div, e_rem, e_ldiv, e_lrem, e_zeq, e_zne, e_zlt, e_zge, e_zgt, e_zle, e_ceq, e_cne, e_clt, e_cge, e_cgt, e_cle, e_nn, e_gI, e_gR, e_pI, e_pZ, e_pR, e_ia, e_ba, e_za, e_iS, e_bS, e_zS, e_aa, e_aS, e_len, e_and, e_xor, e_shr, e_ushr, e_lcmp, e_i2b, e_i2l, e_l2i, e_sw, e_min, e_max, e_acp, e_il_0, e_al_0, e_ll_0, e_is_0n, e_as_0n, e_ls_0n, e_inc_0n, e_il_1, e_al_1, e_ll_1, e_is_1i, e_as_1i, e_ls_1i, e_inc_1i, e_is_1o, e_as_1o, e_ls_1o, e_inc_1o, e_is_1n, e_as_1n, e_ls_1n, e_inc_1n, e_il_2, e_al_2, e_ll_2, e_is_2i, e_as_2i, e_ls_2i, e_inc_2i, e_is_2o, e_as_2o, e_ls_2o, e_inc_2o, e_is_2n, e_as_2n, e_ls_2n, e_inc_2n, e_il_3, e_al_3, e_ll_3, e_is_3i, e_as_3i, e_ls_3i, e_inc_3i, e_is_3o, e_as_3o, e_ls_3o, e_inc_3o, e_is_3n, e_as_3n, e_ls_3n, e_inc_3n, e_il_4, e_al_4, e_ll_4, e_is_4i, e_as_4i, e_ls_4i, e_inc_4i, e_is_4o, e_as_4o, e_ls_4o, e_inc_4o, e_is_4n, e_as_4n, e_ls_4n, e_inc_4n, e_il_5, e_al_5, e_ll_5, e_is_5i, e_as_5i, e_ls_5i, e_inc_5i, e_is_5o, e_as_5o, e_ls_5o, e_inc_5o, e_is_5n, e_as_5n, e_ls_5n, e_inc_5n, e_il_6, e_al_6, e_ll_6, e_is_6i, e_as_6i, e_ls_6i, e_inc_6i, e_is_6o, e_as_6o, e_ls_6o, e_inc_6o, e_is_6n, e_as_6n, e_ls_6n, e_inc_6n, e_il_7, e_al_7, e_ll_7, e_is_7i, e_as_7i, e_ls_7i, e_inc_7i, e_is_7o, e_as_7o, e_ls_7o, e_inc_7o, e_is_7n, e_as_7n, e_ls_7n, e_inc_7n, e_il_8, e_al_8, e_ll_8, e_is_8i, e_as_8i, e_ls_8i, e_inc_8i, e_is_8o, e_as_8o, e_ls_8o, e_inc_8o, e_is_8n, e_as_8n, e_ls_8n, e_inc_8n, e_il_9, e_al_9, e_ll_9, e_is_9i, e_as_9i, e_ls_9i, e_inc_9i, e_is_9o, e_as_9o, e_ls_9o, e_inc_9o, e_is_9n, e_as_9n, e_ls_9n, e_inc_9n, e_il_10, e_al_10, e_ll_10, e_is_10i, e_as_10i, e_ls_10i, e_inc_10i, e_is_10o, e_as_10o, e_ls_10o, e_inc_10o, e_is_10n, e_as_10n, e_ls_10n, e_inc_10n, e_il_11, e_al_11, e_ll_11, e_is_11i, e_as_11i, e_ls_11i, e_inc_11i, e_is_11o, e_as_11o, e_ls_11o, e_inc_11o, e_is_11n, e_as_11n, e_ls_11n, e_inc_11n, e_il_12, e_al_12, e_ll_12, e_is_12i, e_as_12i, e_ls_12i, e_inc_12i, e_is_12o, e_as_12o, e_ls_12o, e_inc_12o, e_is_12n, e_as_12n, e_ls_12n, e_inc_12n, e_dup_i, e_pop_i, e_dup2_ii, e_dup2_io, e_dup_o, e_pop_o, e_dup2_oi, e_dup2_oo, e_ir, e_zr, e_br, e_lr, e_ar, e_vr, e_cut, e_cS_0, e_cV_1, e_cS_1, e_cV_2, e_cS_2, e_cV_3, e_cS_3, e_cV_4, e_cS_4, e_cV_5, e_cS_5, e_cV_6, e_cS_6, e_cV_7, e_cS_7, e_swn, e_swc, e_tls, e_tln, gI_sI, gI_sA, gR_sI, gR_sA, gI_sR, gR_sR, hN_sI, hN_sA, hN_sR, isO_sI, isO_sA, isO_sR, isAr_sI, isAr_sA, isAr_sR, hC_sI, hC_sA, hC_sR, hZ_sI, hZ_sA, hZ_sR, MW_sI, MW_sA, true_and, and_true, true_or, or_true, and_self, forall_const, imp_self, implies_true, if_true, if_false, false_and, and_false, false_or, or_false, not_false_eq_true, not_true_eq_false, sI_sI, entA, fitL, List.length_cons, List.length_nil, List.nil_append, List.cons_append, false_imp_iff, true_imp_iff, pn1, pn2, MW_sI, CW_sI, cr_Ho_0 w1, cr_Ho_3 w1, cr_Ho_4 w1, cr_Ho_5 w1, cr_Ho_6 w1, cr_Ho_7 w1, cr_Ho_8 w1, cr_Ho_9 w1, cr_Ho_13 w1, cr_Ho_15 w1, cr_Ho_16 w1, cr_Ws_0 w1, cr_Ss_0 w1, cr_Re_0 w1, cr_Re_1 w1, cr_Re_2 w1, cr_Re_3 w1, cr_Ta_0 w1, cr_Ta_1 w1, cr_Ta_2 w1, cr_Ta_3 w1, cr_Ta_4 w1, cr_Ta_5 w1, cr_Ta_6 w1, cr_Wa_0 w1, cr_Wa_2 w1, cr_Wa_3 w1, cr_Wa_4 w1, cr_Wa_5 w1, cr_Wa_6 w1, cr_Lo_0 w1, cr_Lo_1 w1, cr_Lo_2 w1, cr_Lo_3 w1, cr_Lo_4 w1, cr_Sh_0 w1, cr_Sh_1 w1, cr_Sh_2 w1, co_Ho w1, ca_Ho_tape w1, cl_Ho_tape, co_Ws w1, co_Ss w1, co_Ask w1, co_Re w1, co_Ta w1, co_Fi w1, co_Wa w1, ca_Ho_told w1, cl_Ho_told, co_Lo w1, co_Sh w1, ca_Ws_e w1, cl_Ws_e, ca_Ss_e w1, cl_Ss_e, ca_Re_sums w1, cl_Re_sums, ca_Re_firsts w1, cl_Re_firsts, co_Atom w1, co_Raised w1, ca_Ta_cells w1, cl_Ta_cells, ca_Ta_numbers w1, cl_Ta_numbers, ca_Ta_done w1, cl_Ta_done, ca_Ta_order w1, cl_Ta_order, ca_Ta_spare w1, cl_Ta_spare, ca_Ta_parents w1, cl_Ta_parents, ca_Ta_melting w1, cl_Ta_melting, ca_Wa_queue w1, cl_Wa_queue, ca_Wa_origins w1, cl_Wa_origins, ca_Wa_vias w1, cl_Wa_vias, ca_Wa_lengths w1, cl_Wa_lengths, ca_Wa_seen w1, cl_Wa_seen, co_Single w1, ca_Lo_cells w1, cl_Lo_cells, ca_Lo_kept w1, cl_Lo_kept, ca_Lo_keptRows w1, cl_Lo_keptRows, ca_Lo_names w1, cl_Lo_names, ca_Lo_met w1, cl_Lo_met, ca_Sh_cells w1, cl_Sh_cells, ca_Sh_seen w1, cl_Sh_seen, ca_Sh_queue w1, cl_Sh_queue, CW_sI, CW_sA, h11, ← ht]
  refine ⟨fun z => by omega, fun z => ⟨w1, g0, g1, c0, by omega, fun z2 => ?_, fun z2 => ?_⟩⟩
  · have ht1 := (f4.1 g c hg c0 hc).resolve_left (by rw [← ht]; exact z2)
    rw [← ht] at ht1
    have r0 := ht1.1.1
    have r1 := ht1.1.2.1
    obtain ⟨h2, eh2⟩ : ∃ h2, h2 = lkH h1 g c t (-2) (-2) := ⟨_, rfl⟩
    have fr2 : FrP Pmg h1 h2 := by rw [eh2]; exact FrP_sI (Or.inl rfl) (FrP_sI (Or.inl rfl) (FrP_refl _ h1))
    have w2 := FrP_CW fr2 w1
    have o2 := co_Ta w2
    have eP : gI h2 pTa_parents = gI h1 pTa_parents := by rw [eh2]; exact lkH_C (by decide)
    have eC : gI h2 pTa_cells = dpC (gI h1 pTa_cells) g c t := by rw [eh2]; exact lkH_dp
    have eNu : gI h2 pTa_numbers = gI h pTa_numbers := by rw [eh2, lkH_C (by decide)]; exact eN
    have eMe : gI h2 pTa_melting = gI h1 pTa_melting := by rw [eh2]; exact lkH_C (by decide)
    have e7 : gI h2 pTa 7 = m := by rw [eh2, lkH_C (by decide)]; exact f2
    obtain ⟨G1, G2, G3⟩ := mg_roots f3 hg
    obtain ⟨T1, T2, T3⟩ := mg_roots f3 ht1.1
    have fin : ∀ R2 m2 h3, MS h h3 R2 L x0 y0 m2 → m ≤ m2 → (∀ i, 0 ≤ i → i < m → gI h3 pTa_melting i = gI h1 pTa_melting i) → (∀ i, 0 ≤ i → i < m → ∀ n, emR (gI h2 pTa_cells) L (gI h1 pTa_melting i) n → emR (gI h3 pTa_cells) L (gI h1 pTa_melting i) n) → mgJ h L x0 y0 h3 k (c + 1) ∧ gI h3 pTa_melting k = g := by
      intro R2 m2 h3 q1 q2 q3 q4
      refine ⟨⟨R2, m2, q1, k0, by omega, by omega, by omega, fun i i0 i1 => ?_, ?_⟩, by rw [q3 k k0 k1, ← hg0]⟩
      · rw [q3 i i0 (by omega)]
        refine q4 i i0 (by omega) 10 ?_
        rw [eC]
        exact dpC_em (eK i i0 i1)
      · rw [q3 k k0 k1]
        refine q4 k k0 k1 (c + 1) ?_
        rw [eC, ← hg0]
        intro d d0 d1 d2
        by_cases e : d = c
        · rw [e]
          unfold dpC
          rw [if_pos rfl]
          split <;> rfl
        · exact dpC_em eR d d0 (by omega) d2
    rw [← eh2, eP, eC]
    have go : ∀ R2 m2 h3, MS h h3 R2 L x0 y0 m2 → m ≤ m2 → (∀ i, 0 ≤ i → i < m → gI h3 pTa_melting i = gI h1 pTa_melting i) → (∀ i, 0 ≤ i → i < m → ∀ n, emR (gI h2 pTa_cells) L (gI h1 pTa_melting i) n → emR (gI h3 pTa_cells) L (gI h1 pTa_melting i) n) → ∀ z6 z7 z8 z9 z10, K 39 [some (.inr (.inl (some pTa))), some (.inl x0), some (.inl y0), some (.inl k), some (.inl g), some (.inl (c + 1)), z6, z7, z8, z9, z10] h3 := by
      intro R2 m2 h3 q1 q2 q3 q4 z6 z7 z8 z9 z10
      have := fin R2 m2 h3 q1 q2 q3 q4
      exact hK h3 z6 z7 z8 z9 z10 this.1 this.2
    have unM : ∀ x y, (∀ i, 0 ≤ i → i < m → gI (unH h2 x y) pTa_melting i = gI h1 pTa_melting i) ∧ (∀ i, 0 ≤ i → i < m → ∀ n, emR (gI h2 pTa_cells) L (gI h1 pTa_melting i) n → emR (gI (unH h2 x y) pTa_cells) L (gI h1 pTa_melting i) n) := by
      intro x y
      refine ⟨fun i i0 i1 => ?_, fun i i0 i1 n q => q⟩
      unfold unH
      simp (decide := true) only [gI_sI, if_false, false_and, true_and]
      rw [if_neg (by omega), eMe]
    refine ⟨w1, g0, g1, c0, by omega, r0, r1, o2, w2, gI h pTa_numbers, gI h1 pTa_melting, R, m, f3, by omega, hg, o2, w2, gI h pTa_numbers, gI h1 pTa_melting, R, m, f3, by omega, ht1.1, o2, w2, G1.1, G1.2.1, c0, by omega, c0, o2, w2, T1.1, T1.2.1, o.1, by omega, fun z3 => ⟨fun z4 => ?_, fun z4 => ?_⟩, fun z3 => ?_⟩
    · refine ⟨o2, w2, G1.1, G1.2.1, c0, by omega, T1.1, T1.2.1, ⟨by omega, by omega⟩, go R m _ ?_ (Int.le_refl _) (fun i i0 i1 => ?_) (fun i i0 i1 n q => ?_) _ _ _ _ _⟩
      · refine ⟨FrP_trans f1 (FrP_trans fr2 (FrP_sI (Or.inl rfl) (FrP_sI (Or.inl rfl) (FrP_refl _ h2)))), ?_, ?_, ?_, f5, f6, f7⟩
        · rw [lkH_C (by decide)]; exact e7
        · rw [lkH_C (by decide), lkH_C (by decide), eP, eMe]; exact f3
        · rw [lkH_ad, eC]
          exact MIc_link L2 L10 f4 (fun s hs => ⟨(mg_roots f3 hs).1, (mg_roots f3 hs).2.1⟩) hg c0 hc ht.symm z2 z3 z4
      · rw [lkH_C (by decide), eMe]
      · rw [lkH_ad]
        exact adC_em f3 L2 L10 c0 hc i0 i1 G3 T3 q
    · obtain ⟨d1, d2, d3⟩ := dpC_sym L2 L10 f4 hg c0 hc ht.symm z2 T1 o.1 o.2 z4
      obtain ⟨u, hu⟩ : ∃ u, u = gI h1 pTa_cells (10 * R t + oc c) := ⟨_, rfl⟩
      rw [d1, ← hu]
      rw [← hu] at d2 d3
      rw [oc_oc c0] at d3
      obtain ⟨U1, U2, U3⟩ := mg_roots f3 d2
      have n1 : dpC (gI h1 pTa_cells) g c t (10 * u + c) ≠ -2 := by rw [d3]; have := T1.1; omega
      have e3 : gI h1 pTa_cells (10 * u + c) = R t := by rw [← (dpC_sym L2 L10 f4 hg c0 hc ht.symm z2 d2 c0 hc n1).1, d3]
      have hf : fcd (gI h pTa_numbers) (gI h pTa_cells) L x0 y0 (R u) (R g) := by
        intro X φ F hD hH he
        rw [f4.2.2.2.1 u d2 X φ F hD hH he, f4.2.2.2.1 g hg X φ F hD hH he]
        have a1 := f4.2.2.2.2 (R t) (oc c) T1 o.1 o.2 (by rw [← hu]; have := d2.1; omega) X φ F hD hH he
        rw [← hu, f4.2.2.2.1 t ht1.1 X φ F hD hH he] at a1
        have a2 := f4.2.2.2.2 t (oc c) ht1.1 o.1 o.2 (by rw [ht1.2]; omega) X φ F hD hH he
        rw [ht1.2] at a2
        exact hD _ _ _ _ a1 a2
      have hf' : fcd (gI h pTa_numbers) (gI h pTa_cells) L x0 y0 (R g) (R u) := fun X φ F hD hH he => (hf X φ F hD hH he).symm
      have up := upR_one (R := R) (s := u) (t := g) rfl rfl
      rw [e7, eNu]
      refine ⟨o2, w2, gI h pTa_numbers, gI h1 pTa_melting, R, m, f3, by omega, d2, o2, w2, U1.1, U1.2.1, G1.1, G1.2.1, by omega, fun _ => by omega, fun q => ⟨⟨by omega, by omega⟩, ?_⟩, fun q q2 => ⟨⟨by omega, by omega⟩, ?_⟩, fun q q2 => ⟨⟨by omega, by omega⟩, ?_⟩⟩
      · refine go R m h2 ?_ (Int.le_refl _) (fun i _ _ => by rw [eMe]) (fun i _ _ n q => q) _ _ _ _ _
        rw [eh2]
        exact MS_same L2 L10 hS hg c0 hc ht.symm z2 d2 n1 q (by rw [e3, T2])
      · refine go (upR R (R g) (R u)) (m + 1) _ ?_ (by omega) (unM _ _).1 (unM _ _).2 _ _ _ _ _
        rw [eh2]
        exact MS_uniD L2 L10 hS G1 U1 G3 U3 (fun y => q y.symm) q2 hf' hg c0 hc ht.symm z2 d2 n1 up.2 (by rw [e3]; exact upR_same T2)
      · have hlt : gI h pTa_numbers (R g) < gI h pTa_numbers (R u) := by
          have : gI h pTa_numbers (R g) ≠ gI h pTa_numbers (R u) := fun y => q (TgO_inj ho U1 G1 y.symm)
          omega
        refine go (upR R (R u) (R g)) (m + 1) _ ?_ (by omega) (unM _ _).1 (unM _ _).2 _ _ _ _ _
        rw [eh2]
        exact MS_uniD L2 L10 hS U1 G1 U3 G3 q hlt hf hg c0 hc ht.symm z2 d2 n1 up.1 (by rw [e3]; exact upR_same T2)
    · obtain ⟨d1, d2, d3⟩ := dpC_sym L2 L10 f4 hg c0 hc ht.symm z2 G1 c0 hc z3
      obtain ⟨u, hu⟩ : ∃ u, u = gI h1 pTa_cells (10 * R g + c) := ⟨_, rfl⟩
      rw [d1, ← hu]
      rw [← hu] at d2 d3
      obtain ⟨U1, U2, U3⟩ := mg_roots f3 d2
      have hf : fcd (gI h pTa_numbers) (gI h pTa_cells) L x0 y0 (R u) (R t) := by
        intro X φ F hD hH he
        rw [f4.2.2.2.1 u d2 X φ F hD hH he, f4.2.2.2.1 t ht1.1 X φ F hD hH he]
        have a1 := f4.2.2.2.2 (R g) c G1 c0 hc (by rw [← hu]; have := d2.1; omega) X φ F hD hH he
        rw [← hu, f4.2.2.2.1 g hg X φ F hD hH he] at a1
        have a2 := f4.2.2.2.2 g c hg c0 hc (by rw [← ht]; exact z2) X φ F hD hH he
        rw [← ht] at a2
        exact hD _ _ _ _ a1 a2
      have hf' : fcd (gI h pTa_numbers) (gI h pTa_cells) L x0 y0 (R t) (R u) := fun X φ F hD hH he => (hf X φ F hD hH he).symm
      have up := upR_one (R := R) (s := u) (t := t) rfl rfl
      rw [e7, eNu]
      refine ⟨o2, w2, gI h pTa_numbers, gI h1 pTa_melting, R, m, f3, by omega, d2, o2, w2, U1.1, U1.2.1, T1.1, T1.2.1, by omega, fun _ => by omega, fun q => ⟨⟨by omega, by omega⟩, ?_⟩, fun q q2 => ⟨⟨by omega, by omega⟩, ?_⟩, fun q q2 => ⟨⟨by omega, by omega⟩, ?_⟩⟩
      · refine go R m h2 ?_ (Int.le_refl _) (fun i _ _ => by rw [eMe]) (fun i _ _ n q => q) _ _ _ _ _
        rw [eh2]
        exact MS_same L2 L10 hS hg c0 hc ht.symm z2 G1 z3 G2 (by rw [← hu]; exact q)
      · refine go (upR R (R t) (R u)) (m + 1) _ ?_ (by omega) (unM _ _).1 (unM _ _).2 _ _ _ _ _
        rw [eh2]
        exact MS_uniD L2 L10 hS T1 U1 T3 U3 (fun y => q y.symm) q2 hf' hg c0 hc ht.symm z2 G1 z3 (upR_same G2) (by rw [← hu]; exact up.2)
      · have hlt : gI h pTa_numbers (R t) < gI h pTa_numbers (R u) := by
          have : gI h pTa_numbers (R t) ≠ gI h pTa_numbers (R u) := fun y => q (TgO_inj ho U1 T1 y.symm)
          omega
        refine go (upR R (R u) (R t)) (m + 1) _ ?_ (by omega) (unM _ _).1 (unM _ _).2 _ _ _ _ _
        rw [eh2]
        exact MS_uniD L2 L10 hS U1 T1 U3 T3 q hlt hf hg c0 hc ht.symm z2 G1 z3 (upR_same G2) (by rw [← hu]; exact up.1)
  · refine ⟨⟨by omega, by omega⟩, hK h1 _ _ _ _ _ ⟨R, m, hS, k0, k1, by omega, by omega, eK, ?_⟩ hg0.symm⟩
    rw [← hg0]
    intro d d0 d1 d2
    by_cases e : d = c
    · rw [e, ← ht]; exact z2
    · exact eR d d0 (by omega) d2
/-- before anything melts -/
theorem MI_start {F C Nu Dn Od Sp Pa : Int → Int} {L Q x0 y0 : Int} {a : AT} (Me : Int → Int) (L2 : L % 2 = 0) (hT : TaG F C Nu Dn Od Sp Pa L a) (hW : WT L Q a) : MIp Nu Pa Me (fun s => s) 0 ∧ MIc Nu C C (fun s => s) L x0 y0 := by
  obtain ⟨hS, ho, hE, hP⟩ := hT
  have hpa : ∀ s, lfS Nu s → Pa s = s := fun s hs => hP.1 s hs.1 hs.2.1
  refine ⟨⟨by omega, fun i i0 i1 => by omega, fun i j i0 ij j1 => by omega, fun s hs z => absurd (hpa s hs) z, fun s hs => by rw [hpa s hs]; exact hs, fun i i0 i1 => by omega, fun s hs => ⟨hs, hpa s hs, hpa s hs, Int.le_refl _, fun _ => rfl⟩, fun s s0 s1 _ => hP.1 s s0 s1⟩, fun s c hs c0 c1 => ?_, fun s c hs c0 c1 hn => ⟨s, hs, rfl, hn, rfl⟩, fun s c hs c0 c1 hn => ⟨s, hs, rfl, hn, rfl⟩, fun s hs X φ F hD hH he => rfl, fun s c hs c0 c1 hn X φ F hD hH he => hH s c hs c0 c1 hn⟩
  rcases hE.2.1 s c hs c0 c1 with z | ⟨z1, z2⟩
  · exact Or.inl z.1
  · refine Or.inr ⟨z1, ?_⟩
    have o := oc_in L2 c0 c1
    have hv : VV a (Nu s) := (hE.1 _).mpr ⟨s, hs, rfl⟩
    have n0 := TgO_num ho z1
    obtain ⟨q1, q2⟩ := (hW.1.2.2 (Nu s) c hv c0 c1).resolve_left (by rw [z2]; omega)
    rw [z2] at q2
    rcases hE.2.1 _ (oc c) z1 o.1 o.2 with y | ⟨y1, y2⟩
    · have := TgO_num ho hs; omega
    · rw [y2] at q2
      exact TgO_inj ho y1 hs q2
theorem met_Ta_merge : MetP y_Ta_merge md_Ta_merge (fun _ => 0) (fun _ => 0) Ct_Ta_merge := by
  refine metL2 (body := B_Ta_merge_0) (B1 := B_Ta_merge_13) (B2 := B_Ta_merge_39) (by decide) rfl rfl (fun lc lz => S_Ta_merge_0 lc lz) (fun lc lz => S_Ta_merge_13 lc lz) (fun lc lz => S_Ta_merge_39 lc lz) (by decide) ?_
  intro av h post hc hH hav
  unfold Ct_Ta_merge at hc
  split at hc
  rotate_left
  · exact hc.elim
  rename_i p x0 y0
  obtain ⟨rfl, w, L, Q, a, L2, L0, L10, hT, hW, hx, hy, hne, hp⟩ := hc
  refine ⟨Nat.le_of_ble_eq_true rfl, ?_⟩
  obtain ⟨mu, hmu⟩ : ∃ mu, mu = muMg := ⟨_, rfl⟩
  obtain ⟨hS0, ho, hE, hP⟩ := id hT
  have h11 : gI h pTa 11 = L := hS0.2.2.2.2.2.2.2.2.2.2.2
  refine ⟨fun ls h' => ∃ (k : Int) (x4 x5 x6 x7 x8 x9 x10 : Option PV) (R : Int → Int) (m : Int), ls = [some (.inr (.inl (some pTa))), some (.inl x0), some (.inl y0), some (.inl k), x4, x5, x6, x7, x8, x9, x10] ∧ MS h h' R L x0 y0 m ∧ 0 ≤ k ∧ k ≤ m ∧ emK h' L k,
    fun ls h' => ∃ (k c : Int) (x6 x7 x8 x9 x10 : Option PV), ls = [some (.inr (.inl (some pTa))), some (.inl x0), some (.inl y0), some (.inl k), some (.inl (gI h' pTa_melting k)), some (.inl c), x6, x7, x8, x9, x10] ∧ mgJ h L x0 y0 h' k c, mu, ?_, ?_, ?_⟩
  · rintro ls h1 ⟨k, x4, x5, x6, x7, x8, x9, x10, R, m, rfl, hS, k0, k1, eK⟩
    obtain ⟨f1, f2, f3, f4, f5, f6, f7⟩ := id hS
    obtain ⟨w1, eN, e11⟩ := MS_CW hS w
    simp (decide := true) only [↓E_Ta_merge_0, ↓E_Ta_merge_13, ↓E_Ta_merge_68, ↓E_Ta_merge_138, ↓E_Ta_merge_160, ↓E_Ta_merge_170, ↓E_Ta_merge_176, ↓E_Ta_merge_182, ↓ce_Ta_unite, ↓ce_Ta_get, ↓ce_Ta_unlink, ↓ce_Ta_rootOf, ↓ce_Ta_link, ↓ce_Ta_forgetMelted, ↓e_ci, ↓e_cl, ↓e_nul, ↓e_add, ↓e_sub, ↓e_mul, ↓e_ladd, ↓e_lmul, ↓e_div, ↓e_rem, ↓e_ldiv, ↓e_lrem, ↓e_zeq, ↓e_zne, ↓e_zlt, ↓e_zge, ↓e_zgt, ↓e_zle, ↓e_ceq, ↓e_cne, ↓e_clt, ↓e_cge, ↓e_cgt, ↓e_cle, ↓e_nn, ↓e_gI, ↓e_gR, ↓e_pI, ↓e_pZ, ↓e_pR, ↓e_ia, ↓e_ba, ↓e_za, ↓e_iS, ↓e_bS, ↓e_zS, ↓e_aa, ↓e_aS, ↓e_len, ↓e_and, ↓e_xor, ↓e_shr, ↓e_ushr, ↓e_lcmp, ↓e_i2b, ↓e_i2l, ↓e_l2i, ↓e_sw, ↓e_min, ↓e_max, ↓e_acp, ↓e_il_0, ↓e_al_0, ↓e_ll_0, ↓e_is_0n, ↓e_as_0n, ↓e_ls_0n, ↓e_inc_0n, ↓e_il_1, ↓e_al_1, ↓e_ll_1, ↓e_is_1i, ↓e_as_1i, ↓e_ls_1i, ↓e_inc_1i, ↓e_is_1o, ↓e_as_1o, ↓e_ls_1o, ↓e_inc_1o, ↓e_is_1n, ↓e_as_1n, ↓e_ls_1n, ↓e_inc_1n, ↓e_il_2, ↓e_al_2, ↓e_ll_2, ↓e_is_2i, ↓e_as_2i, ↓e_ls_2i, ↓e_inc_2i, ↓e_is_2o, ↓e_as_2o, ↓e_ls_2o, ↓e_inc_2o, ↓e_is_2n, ↓e_as_2n, ↓e_ls_2n, ↓e_inc_2n, ↓e_il_3, ↓e_al_3, ↓e_ll_3, ↓e_is_3i, ↓e_as_3i, ↓e_ls_3i, ↓e_inc_3i, ↓e_is_3o, ↓e_as_3o, ↓e_ls_3o, ↓e_inc_3o, ↓e_is_3n, ↓e_as_3n, ↓e_ls_3n, ↓e_inc_3n, ↓e_il_4, ↓e_al_4, ↓e_ll_4, ↓e_is_4i, ↓e_as_4i, ↓e_ls_4i, ↓e_inc_4i, ↓e_is_4o, ↓e_as_4o, ↓e_ls_4o, ↓e_inc_4o, ↓e_is_4n, ↓e_as_4n, ↓e_ls_4n, ↓e_inc_4n, ↓e_il_5, ↓e_al_5, ↓e_ll_5, ↓e_is_5i, ↓e_as_5i, ↓e_ls_5i, ↓e_inc_5i, ↓e_is_5o, ↓e_as_5o, ↓e_ls_5o, ↓e_inc_5o, ↓e_is_5n, ↓e_as_5n, ↓e_ls_5n, ↓e_inc_5n, ↓e_il_6, ↓e_al_6, ↓e_ll_6, ↓e_is_6i, ↓e_as_6i, ↓e_ls_6i, ↓e_inc_6i, ↓e_is_6o, ↓e_as_6o, ↓e_ls_6o, ↓e_inc_6o, ↓e_is_6n, ↓e_as_6n, ↓e_ls_6n, ↓e_inc_6n, ↓e_il_7, ↓e_al_7, ↓e_ll_7, ↓e_is_7i, ↓e_as_7i, ↓e_ls_7i, ↓e_inc_7i, ↓e_is_7o, ↓e_as_7o, ↓e_ls_7o, ↓e_inc_7o, ↓e_is_7n, ↓e_as_7n, ↓e_ls_7n, ↓e_inc_7n, ↓e_il_8, ↓e_al_8, ↓e_ll_8, ↓e_is_8i, ↓e_as_8i, ↓e_ls_8i, ↓e_inc_8i, ↓e_is_8o, ↓e_as_8o, ↓e_ls_8o, ↓e_inc_8o, ↓e_is_8n, ↓e_as_8n, ↓e_ls_8n, ↓e_inc_8n, ↓e_il_9, ↓e_al_9, ↓e_ll_9, ↓e_is_9i, ↓e_as_9i, ↓e_ls_9i, ↓e_inc_9i, ↓e_is_9o, ↓e_as_9o, ↓e_ls_9o, ↓e_inc_9o, ↓e_is_9n, ↓e_as_9n, ↓e_ls_9n, ↓e_inc_9n, ↓e_il_10, ↓e_al_10, ↓e_ll_10, ↓e_is_10i, ↓e_as_10i, ↓e_ls_10i, ↓e_inc_10i, ↓e_is_10o, ↓e_as_10o, ↓e_ls_10o, ↓e_inc_10o, ↓e_is_10n, ↓e_as_10n, ↓e_ls_10n, ↓e_inc_10n, ↓e_il_11, ↓e_al_11, ↓e_ll_11, ↓e_is_11i, ↓e_as_11i, ↓e_ls_11i, ↓e_inc_11i, ↓e_is_11o, ↓e_as_11o, ↓e_ls_11o, ↓e_inc_11o, ↓e_is_11n, ↓e_as_11n, ↓e_ls_11n, ↓e_inc_11n, ↓e_il_12, ↓e_al_12, ↓e_ll_12, ↓e_is_12i, ↓e_as_12i, ↓e_ls_12i, ↓e_inc_12i, ↓e_is_12o, ↓e_as_12o, ↓e_ls_12o, ↓e_inc_12o, ↓e_is_12n, ↓e_as_12n, ↓e_ls_12n, ↓e_inc_12n, ↓e_dup_i, ↓e_pop_i, ↓e_dup2_ii, ↓e_dup2_io, ↓e_dup_o, ↓e_pop_o, ↓e_dup2_oi, ↓e_dup2_oo, ↓e_ir, ↓e_zr, ↓e_br, ↓e_lr, ↓e_ar, ↓e_vr, ↓e_cut, ↓e_cS_0, ↓e_cV_1, ↓e_cS_1, ↓e_cV_2, ↓e_cS_2, ↓e_cV_3, ↓e_cS_3, ↓e_cV_4, ↓e_cS_4, ↓e_cV_5, ↓e_cS_5, ↓e_cV_6, ↓e_cS_6, ↓e_cV_7, ↓e_cS_7, ↓e_swn, ↓e_swc, ↓e_tls, ↓e_tln, E_Ta_merge_0, E_Ta_merge_13, E_Ta_merge_68, E_Ta_merge_138, E_Ta_merge_160, E_Ta_merge_170, E_Ta_merge_176, E_Ta_merge_182, ce_Ta_unite, ce_Ta_get, ce_Ta_unlink, ce_Ta_rootOf, ce_Ta_link, ce_Ta_forgetMelted, e_ci, e_cl, e_nul, e_add, e_sub, e_mul, e_ladd, e_lmul, e_div, e_rem, e_ldiv, e_lrem, e_zeq, e_zne, e_zlt, e_zge, e_zgt, e_zle, e_ceq, e_cne, e_clt, e_cge, e_cgt, e_cle, e_nn, e_gI, e_gR, e_pI, e_pZ, e_pR, e_ia, e_ba, e_za, e_iS, e_bS, e_zS, e_aa, e_aS, e_len, e_and, e_xor, e_shr, e_ushr, e_lcmp, e_i2b, e_i2l, e_l2i, e_sw, e_min, e_max, e_acp, e_il_0, e_al_0, e_ll_0, e_is_0n, e_as_0n, e_ls_0n, e_inc_0n, e_il_1, e_al_1, e_ll_1, e_is_1i, e_as_1i, e_ls_1i, e_inc_1i, e_is_1o, e_as_1o, e_ls_1o, e_inc_1o, e_is_1n, e_as_1n, e_ls_1n, e_inc_1n, e_il_2, e_al_2, e_ll_2, e_is_2i, e_as_2i, e_ls_2i, e_inc_2i, e_is_2o, e_as_2o, e_ls_2o, e_inc_2o, e_is_2n, e_as_2n, e_ls_2n, e_inc_2n, e_il_3, e_al_3, e_ll_3, e_is_3i, e_as_3i, e_ls_3i, e_inc_3i, e_is_3o, e_as_3o, e_ls_3o, e_inc_3o, e_is_3n, e_as_3n, e_ls_3n, e_inc_3n, e_il_4, e_al_4, e_ll_4, e_is_4i, e_as_4i, e_ls_4i, e_inc_4i, e_is_4o, e_as_4o, e_ls_4o, e_inc_4o, e_is_4n, e_as_4n, e_ls_4n, e_inc_4n, e_il_5, e_al_5, e_ll_5, e_is_5i, e_as_5i, e_ls_5i, e_inc_5i, e_is_5o, e_as_5o, e_ls_5o, e_inc_5o, e_is_5n, e_as_5n, e_ls_5n, e_inc_5n, e_il_6, e_al_6, e_ll_6, e_is_6i, e_as_6i, e_ls_6i, e_inc_6i, e_is_6o, e_as_6o, e_ls_6o, e_inc_6o, e_is_6n, e_as_6n, e_ls_6n, e_inc_6n, e_il_7, e_al_7, e_ll_7, e_is_7i, e_as_7i, e_ls_7i, e_inc_7i, e_is_7o, e_as_7o, e_ls_7o, e_inc_7o, e_is_7n, e_as_7n, e_ls_7n, e_inc_7n, e_il_8, e_al_8, e_ll_8, e_is_8i, e_as_8i, e_ls_8i, e_inc_8i, e_is_8o, e_as_8o, e_ls_8o, e_inc_8o, e_is_8n, e_as_8n, e_ls_8n, e_inc_8n, e_il_9, e_al_9, e_ll_9, e_is_9i, e_as_9i, e_ls_9i, e_inc_9i, e_is_9o, e_as_9o, e_ls_9o, e_inc_9o, e_is_9n, e_as_9n, e_ls_9n, e_inc_9n, e_il_10, e_al_10, e_ll_10, e_is_10i, e_as_10i, e_ls_10i, e_inc_10i, e_is_10o, e_as_10o, e_ls_10o, e_inc_10o, e_is_10n, e_as_10n, e_ls_10n, e_inc_10n, e_il_11, e_al_11, e_ll_11, e_is_11i, e_as_11i, e_ls_11i, e_inc_11i, e_is_11o, e_as_11o, e_ls_11o, e_inc_11o, e_is_11n, e_as_11n, e_ls_11n, e_inc_11n, e_il_12, e_al_12, e_ll_12, e_is_12i, e_as_12i, e_ls_12i, e_inc_12i, e_is_12o, e_as_12o, e_ls_12o, e_inc_12o, e_is_12n, e_as_12n, e_ls_12n, e_inc_12n, e_dup_i, e_pop_i, e_dup2_ii, e_dup2_io, e_dup_o, e_pop_o, e_dup2_oi, e_dup2_oo, e_ir, e_zr, e_br, e_lr, e_ar, e_vr, e_cut, e_cS_0, e_cV_1, e_cS_1, e_cV_2, e_cS_2, e_cV_3, e_cS_3, e_cV_4, e_cS_4, e_cV_5, e_cS_5, e_cV_6, e_cS_6, e_cV_7, e_cS_7, e_swn, e_swc, e_tls, e_tln, gI_sI, gI_sA, gR_sI, gR_sA, gI_sR, gR_sR, hN_sI, hN_sA, hN_sR, isO_sI, isO_sA, isO_sR, isAr_sI, isAr_sA, isAr_sR, hC_sI, hC_sA, hC_sR, hZ_sI, hZ_sA, hZ_sR, MW_sI, MW_sA, true_and, and_true, true_or, or_true, and_self, forall_const, imp_self, implies_true, if_true, if_false, false_and, and_false, false_or, or_false, not_false_eq_true, not_true_eq_false, sI_sI, entA, fitL, List.length_cons, List.length_nil, List.nil_append, List.cons_append, false_imp_iff, true_imp_iff, pn1, pn2, MW_sI, CW_sI, cr_Ho_0 w1, cr_Ho_3 w1, cr_Ho_4 w1, cr_Ho_5 w1, cr_Ho_6 w1, cr_Ho_7 w1, cr_Ho_8 w1, cr_Ho_9 w1, cr_Ho_13 w1, cr_Ho_15 w1, cr_Ho_16 w1, cr_Ws_0 w1, cr_Ss_0 w1, cr_Re_0 w1, cr_Re_1 w1, cr_Re_2 w1, cr_Re_3 w1, cr_Ta_0 w1, cr_Ta_1 w1, cr_Ta_2 w1, cr_Ta_3 w1, cr_Ta_4 w1, cr_Ta_5 w1, cr_Ta_6 w1, cr_Wa_0 w1, cr_Wa_2 w1, cr_Wa_3 w1, cr_Wa_4 w1, cr_Wa_5 w1, cr_Wa_6 w1, cr_Lo_0 w1, cr_Lo_1 w1, cr_Lo_2 w1, cr_Lo_3 w1, cr_Lo_4 w1, cr_Sh_0 w1, cr_Sh_1 w1, cr_Sh_2 w1, co_Ho w1, ca_Ho_tape w1, cl_Ho_tape, co_Ws w1, co_Ss w1, co_Ask w1, co_Re w1, co_Ta w1, co_Fi w1, co_Wa w1, ca_Ho_told w1, cl_Ho_told, co_Lo w1, co_Sh w1, ca_Ws_e w1, cl_Ws_e, ca_Ss_e w1, cl_Ss_e, ca_Re_sums w1, cl_Re_sums, ca_Re_firsts w1, cl_Re_firsts, co_Atom w1, co_Raised w1, ca_Ta_cells w1, cl_Ta_cells, ca_Ta_numbers w1, cl_Ta_numbers, ca_Ta_done w1, cl_Ta_done, ca_Ta_order w1, cl_Ta_order, ca_Ta_spare w1, cl_Ta_spare, ca_Ta_parents w1, cl_Ta_parents, ca_Ta_melting w1, cl_Ta_melting, ca_Wa_queue w1, cl_Wa_queue, ca_Wa_origins w1, cl_Wa_origins, ca_Wa_vias w1, cl_Wa_vias, ca_Wa_lengths w1, cl_Wa_lengths, ca_Wa_seen w1, cl_Wa_seen, co_Single w1, ca_Lo_cells w1, cl_Lo_cells, ca_Lo_kept w1, cl_Lo_kept, ca_Lo_keptRows w1, cl_Lo_keptRows, ca_Lo_names w1, cl_Lo_names, ca_Lo_met w1, cl_Lo_met, ca_Sh_cells w1, cl_Sh_cells, ca_Sh_seen w1, cl_Sh_seen, ca_Sh_queue w1, cl_Sh_queue, CW_sI, CW_sA, f2, hmu, muMg_13, muMg_39, locI, nth]
    have eo : gI h1 pTa_order = gI h pTa_order := FrP_arr f1 (fun j z => by unfold Pmg at z; simp (decide := true) at z)
    have es : gI h1 pTa_spare = gI h pTa_spare := FrP_arr f1 (fun j z => by unfold Pmg at z; simp (decide := true) at z)
    have ed : gI h1 pTa_done = gI h pTa_done := FrP_arr f1 (fun j z => by unfold Pmg at z; simp (decide := true) at z)
    have ej : ∀ j, j ≠ 7 → gI h1 pTa j = gI h pTa j := fun j hj => f1.1 _ _ (by unfold Pmg; simp (decide := true) [hj])
    have hO1 : TgO (gI h1 pTa 12) (gI h1 pTa_numbers) (gI h1 pTa_order) (gI h1 pTa_spare) := by rw [ej 12 (by decide), eN, eo, es]; exact ho
    have fin : m ≤ k → CW h1 ∧ ∃ (R : Int → Int) (m' : Int), m = m' ∧ m' ≤ 299 ∧ TgO (gI h1 pTa 12) (gI h1 pTa_numbers) (gI h1 pTa_order) (gI h1 pTa_spare) ∧ MIp (gI h1 pTa_numbers) (gI h1 pTa_parents) (gI h1 pTa_melting) R m' ∧ ∀ h', FrP Pfm h1 h' → fgR h1 h' m' → post none h' ∧ hC h' = hC h ∧ hZ h' = hZ h := by
      intro z
      have ekm : k = m := by omega
      rw [ekm] at eK
      refine ⟨w1, R, m, rfl, by omega, hO1, by rw [eN]; exact f3, fun h2 g1 g2 => ?_⟩
      obtain ⟨q1, q2, q3, q4⟩ := g2
      have fr : FrP Pt h h2 := FrP_trans (FrP_mono (fun b j z => by unfold Pmg at z; unfold Pt; rcases z with z | z | z | ⟨z, -⟩ <;> simp [z]) f1) (FrP_mono (fun b j z => by unfold Pfm at z; unfold Pt; rcases z with z | z | z | z | ⟨z, -⟩ <;> simp [z]) g1)
      have hE' : ∀ i, 0 ≤ i → i < m → emR (gI h1 pTa_cells) L (gI h1 pTa_melting i) 10 := eK
      have hq := quar_QR L2 L10 hT hW hx hy f3 f4 f7 hE'
      have e0 := quA_eq hW.1 hq
      have ec : gI h2 pTa_cells = gI h1 pTa_cells := FrP_arr g1 (fun j z => by unfold Pfm at z; simp (decide := true) at z)
      have ed2 : gI h2 pTa_done = gI h pTa_done := by rw [FrP_arr g1 (fun j z => by unfold Pfm at z; simp (decide := true) at z)]; exact ed
      rw [eN] at q1
      refine ⟨hp h2 fr ?_ ⟨_, _, hq⟩ (fun s hs => ?_), fr.2.2.2.1, fr.2.2.2.2⟩
      · rw [e0]
        unfold TaR
        rw [ec, ed2]
        refine quar_TaG L2 L10 hT hW f3 f4 hE' f6 q1 q3 q2 ?_ (fun j j0 j1 => ?_)
        · rw [q4, if_pos (Or.inr (by omega))]
        · rw [g1.1 _ _ (by unfold Pfm; simp (decide := true) only [false_or, true_and]; omega)]
          exact ej j (by omega)
      · have nm : ¬ mlt (gI h1 pTa_melting) m s := fun y => hs.2.2 ((q1 s hs.1 hs.2.1).1 y)
        have e := (q1 s hs.1 hs.2.1).2 nm
        exact ⟨⟨hs.1, hs.2.1, by rw [← e]; exact hs.2.2⟩, e⟩
    refine ⟨fun z => fin z, fun z => ⟨fun z2 => fin (by omega), fun z2 => ⟨by omega, by omega, ⟨k, 0, _, _, _, _, _, rfl, R, m, hS, k0, by omega, by omega, L0, eK, fun c c0 c1 => by omega⟩, by omega⟩⟩⟩
  · rintro ls h1 ⟨k, c, x6, x7, x8, x9, x10, rfl, hJ⟩
    obtain ⟨R, m, hS, k0, k1, c0, c1, eK, eR⟩ := id hJ
    obtain ⟨w1, eN, e11⟩ := MS_CW hS w
    have m299 := hS.2.2.2.2.1
    by_cases hc : c < L
    · refine merge_39 w L2 L10 hT hJ hc (fun h2 z6 z7 z8 z9 z10 j2 em => ?_)
      simp (decide := true) only [hmu, muMg_13, muMg_39, locI, nth]
      exact Or.inr ⟨trivial, ⟨k, c + 1, z6, z7, z8, z9, z10, by rw [em], j2⟩, by omega⟩
    · rw [h11] at e11
      simp (decide := true) only [↓E_Ta_merge_0, ↓E_Ta_merge_13, ↓E_Ta_merge_39, ↓E_Ta_merge_68, ↓E_Ta_merge_138, ↓E_Ta_merge_160, ↓E_Ta_merge_170, ↓E_Ta_merge_176, ↓E_Ta_merge_182, ↓ce_Ta_unite, ↓ce_Ta_get, ↓ce_Ta_unlink, ↓ce_Ta_rootOf, ↓ce_Ta_link, ↓ce_Ta_forgetMelted, ↓e_ci, ↓e_cl, ↓e_nul, ↓e_add, ↓e_sub, ↓e_mul, ↓e_ladd, ↓e_lmul, ↓e_div, ↓e_rem, ↓e_ldiv, ↓e_lrem, ↓e_zeq, ↓e_zne, ↓e_zlt, ↓e_zge, ↓e_zgt, ↓e_zle, ↓e_ceq, ↓e_cne, ↓e_clt, ↓e_cge, ↓e_cgt, ↓e_cle, ↓e_nn, ↓e_gI, ↓e_gR, ↓e_pI, ↓e_pZ, ↓e_pR, ↓e_ia, ↓e_ba, ↓e_za, ↓e_iS, ↓e_bS, ↓e_zS, ↓e_aa, ↓e_aS, ↓e_len, ↓e_and, ↓e_xor, ↓e_shr, ↓e_ushr, ↓e_lcmp, ↓e_i2b, ↓e_i2l, ↓e_l2i, ↓e_sw, ↓e_min, ↓e_max, ↓e_acp, ↓e_il_0, ↓e_al_0, ↓e_ll_0, ↓e_is_0n, ↓e_as_0n, ↓e_ls_0n, ↓e_inc_0n, ↓e_il_1, ↓e_al_1, ↓e_ll_1, ↓e_is_1i, ↓e_as_1i, ↓e_ls_1i, ↓e_inc_1i, ↓e_is_1o, ↓e_as_1o, ↓e_ls_1o, ↓e_inc_1o, ↓e_is_1n, ↓e_as_1n, ↓e_ls_1n, ↓e_inc_1n, ↓e_il_2, ↓e_al_2, ↓e_ll_2, ↓e_is_2i, ↓e_as_2i, ↓e_ls_2i, ↓e_inc_2i, ↓e_is_2o, ↓e_as_2o, ↓e_ls_2o, ↓e_inc_2o, ↓e_is_2n, ↓e_as_2n, ↓e_ls_2n, ↓e_inc_2n, ↓e_il_3, ↓e_al_3, ↓e_ll_3, ↓e_is_3i, ↓e_as_3i, ↓e_ls_3i, ↓e_inc_3i, ↓e_is_3o, ↓e_as_3o, ↓e_ls_3o, ↓e_inc_3o, ↓e_is_3n, ↓e_as_3n, ↓e_ls_3n, ↓e_inc_3n, ↓e_il_4, ↓e_al_4, ↓e_ll_4, ↓e_is_4i, ↓e_as_4i, ↓e_ls_4i, ↓e_inc_4i, ↓e_is_4o, ↓e_as_4o, ↓e_ls_4o, ↓e_inc_4o, ↓e_is_4n, ↓e_as_4n, ↓e_ls_4n, ↓e_inc_4n, ↓e_il_5, ↓e_al_5, ↓e_ll_5, ↓e_is_5i, ↓e_as_5i, ↓e_ls_5i, ↓e_inc_5i, ↓e_is_5o, ↓e_as_5o, ↓e_ls_5o, ↓e_inc_5o, ↓e_is_5n, ↓e_as_5n, ↓e_ls_5n, ↓e_inc_5n, ↓e_il_6, ↓e_al_6, ↓e_ll_6, ↓e_is_6i, ↓e_as_6i, ↓e_ls_6i, ↓e_inc_6i, ↓e_is_6o, ↓e_as_6o, ↓e_ls_6o, ↓e_inc_6o, ↓e_is_6n, ↓e_as_6n, ↓e_ls_6n, ↓e_inc_6n, ↓e_il_7, ↓e_al_7, ↓e_ll_7, ↓e_is_7i, ↓e_as_7i, ↓e_ls_7i, ↓e_inc_7i, ↓e_is_7o, ↓e_as_7o, ↓e_ls_7o, ↓e_inc_7o, ↓e_is_7n, ↓e_as_7n, ↓e_ls_7n, ↓e_inc_7n, ↓e_il_8, ↓e_al_8, ↓e_ll_8, ↓e_is_8i, ↓e_as_8i, ↓e_ls_8i, ↓e_inc_8i, ↓e_is_8o, ↓e_as_8o, ↓e_ls_8o, ↓e_inc_8o, ↓e_is_8n, ↓e_as_8n, ↓e_ls_8n, ↓e_inc_8n, ↓e_il_9, ↓e_al_9, ↓e_ll_9, ↓e_is_9i, ↓e_as_9i, ↓e_ls_9i, ↓e_inc_9i, ↓e_is_9o, ↓e_as_9o, ↓e_ls_9o, ↓e_inc_9o, ↓e_is_9n, ↓e_as_9n, ↓e_ls_9n, ↓e_inc_9n, ↓e_il_10, ↓e_al_10, ↓e_ll_10, ↓e_is_10i, ↓e_as_10i, ↓e_ls_10i, ↓e_inc_10i, ↓e_is_10o, ↓e_as_10o, ↓e_ls_10o, ↓e_inc_10o, ↓e_is_10n, ↓e_as_10n, ↓e_ls_10n, ↓e_inc_10n, ↓e_il_11, ↓e_al_11, ↓e_ll_11, ↓e_is_11i, ↓e_as_11i, ↓e_ls_11i, ↓e_inc_11i, ↓e_is_11o, ↓e_as_11o, ↓e_ls_11o, ↓e_inc_11o, ↓e_is_11n, ↓e_as_11n, ↓e_ls_11n, ↓e_inc_11n, ↓e_il_12, ↓e_al_12, ↓e_ll_12, ↓e_is_12i, ↓e_as_12i, ↓e_ls_12i, ↓e_inc_12i, ↓e_is_12o, ↓e_as_12o, ↓e_ls_12o, ↓e_inc_12o, ↓e_is_12n, ↓e_as_12n, ↓e_ls_12n, ↓e_inc_12n, ↓e_dup_i, ↓e_pop_i, ↓e_dup2_ii, ↓e_dup2_io, ↓e_dup_o, ↓e_pop_o, ↓e_dup2_oi, ↓e_dup2_oo, ↓e_ir, ↓e_zr, ↓e_br, ↓e_lr, ↓e_ar, ↓e_vr, ↓e_cut, ↓e_cS_0, ↓e_cV_1, ↓e_cS_1, ↓e_cV_2, ↓e_cS_2, ↓e_cV_3, ↓e_cS_3, ↓e_cV_4, ↓e_cS_4, ↓e_cV_5, ↓e_cS_5, ↓e_cV_6, ↓e_cS_6, ↓e_cV_7, ↓e_cS_7, ↓e_swn, ↓e_swc, ↓e_tls, ↓e_tln, E_Ta_merge_0, E_Ta_merge_13, E_Ta_merge_39, E_Ta_merge_68, E_Ta_merge_138, E_Ta_merge_160, E_Ta_merge_170, E_Ta_merge_176, E_Ta_merge_182, ce_Ta_unite, ce_Ta_get, ce_Ta_unlink, ce_Ta_rootOf, ce_Ta_link, ce_Ta_forgetMelted, e_ci, e_cl, e_nul, e_add, e_sub, e_mul, e_ladd, e_lmul, e_div, e_rem, e_ldiv, e_lrem, e_zeq, e_zne, e_zlt, e_zge, e_zgt, e_zle, e_ceq, e_cne, e_clt, e_cge, e_cgt, e_cle, e_nn, e_gI, e_gR, e_pI, e_pZ, e_pR, e_ia, e_ba, e_za, e_iS, e_bS, e_zS, e_aa, e_aS, e_len, e_and, e_xor, e_shr, e_ushr, e_lcmp, e_i2b, e_i2l, e_l2i, e_sw, e_min, e_max, e_acp, e_il_0, e_al_0, e_ll_0, e_is_0n, e_as_0n, e_ls_0n, e_inc_0n, e_il_1, e_al_1, e_ll_1, e_is_1i, e_as_1i, e_ls_1i, e_inc_1i, e_is_1o, e_as_1o, e_ls_1o, e_inc_1o, e_is_1n, e_as_1n, e_ls_1n, e_inc_1n, e_il_2, e_al_2, e_ll_2, e_is_2i, e_as_2i, e_ls_2i, e_inc_2i, e_is_2o, e_as_2o, e_ls_2o, e_inc_2o, e_is_2n, e_as_2n, e_ls_2n, e_inc_2n, e_il_3, e_al_3, e_ll_3, e_is_3i, e_as_3i, e_ls_3i, e_inc_3i, e_is_3o, e_as_3o, e_ls_3o, e_inc_3o, e_is_3n, e_as_3n, e_ls_3n, e_inc_3n, e_il_4, e_al_4, e_ll_4, e_is_4i, e_as_4i, e_ls_4i, e_inc_4i, e_is_4o, e_as_4o, e_ls_4o, e_inc_4o, e_is_4n, e_as_4n, e_ls_4n, e_inc_4n, e_il_5, e_al_5, e_ll_5, e_is_5i, e_as_5i, e_ls_5i, e_inc_5i, e_is_5o, e_as_5o, e_ls_5o, e_inc_5o, e_is_5n, e_as_5n, e_ls_5n, e_inc_5n, e_il_6, e_al_6, e_ll_6, e_is_6i, e_as_6i, e_ls_6i, e_inc_6i, e_is_6o, e_as_6o, e_ls_6o, e_inc_6o, e_is_6n, e_as_6n, e_ls_6n, e_inc_6n, e_il_7, e_al_7, e_ll_7, e_is_7i, e_as_7i, e_ls_7i, e_inc_7i, e_is_7o, e_as_7o, e_ls_7o, e_inc_7o, e_is_7n, e_as_7n, e_ls_7n, e_inc_7n, e_il_8, e_al_8, e_ll_8, e_is_8i, e_as_8i, e_ls_8i, e_inc_8i, e_is_8o, e_as_8o, e_ls_8o, e_inc_8o, e_is_8n, e_as_8n, e_ls_8n, e_inc_8n, e_il_9, e_al_9, e_ll_9, e_is_9i, e_as_9i, e_ls_9i, e_inc_9i, e_is_9o, e_as_9o, e_ls_9o, e_inc_9o, e_is_9n, e_as_9n, e_ls_9n, e_inc_9n, e_il_10, e_al_10, e_ll_10, e_is_10i, e_as_10i, e_ls_10i, e_inc_10i, e_is_10o, e_as_10o, e_ls_10o, e_inc_10o, e_is_10n, e_as_10n, e_ls_10n, e_inc_10n, e_il_11, e_al_11, e_ll_11, e_is_11i, e_as_11i, e_ls_11i, e_inc_11i, e_is_11o, e_as_11o, e_ls_11o, e_inc_11o, e_is_11n, e_as_11n, e_ls_11n, e_inc_11n, e_il_12, e_al_12, e_ll_12, e_is_12i, e_as_12i, e_ls_12i, e_inc_12i, e_is_12o, e_as_12o, e_ls_12o, e_inc_12o, e_is_12n, e_as_12n, e_ls_12n, e_inc_12n, e_dup_i, e_pop_i, e_dup2_ii, e_dup2_io, e_dup_o, e_pop_o, e_dup2_oi, e_dup2_oo, e_ir, e_zr, e_br, e_lr, e_ar, e_vr, e_cut, e_cS_0, e_cV_1, e_cS_1, e_cV_2, e_cS_2, e_cV_3, e_cS_3, e_cV_4, e_cS_4, e_cV_5, e_cS_5, e_cV_6, e_cS_6, e_cV_7, e_cS_7, e_swn, e_swc, e_tls, e_tln, gI_sI, gI_sA, gR_sI, gR_sA, gI_sR, gR_sR, hN_sI, hN_sA, hN_sR, isO_sI, isO_sA, isO_sR, isAr_sI, isAr_sA, isAr_sR, hC_sI, hC_sA, hC_sR, hZ_sI, hZ_sA, hZ_sR, MW_sI, MW_sA, true_and, and_true, true_or, or_true, and_self, forall_const, imp_self, implies_true, if_true, if_false, false_and, and_false, false_or, or_false, not_false_eq_true, not_true_eq_false, sI_sI, entA, fitL, List.length_cons, List.length_nil, List.nil_append, List.cons_append, false_imp_iff, true_imp_iff, pn1, pn2, MW_sI, CW_sI, cr_Ho_0 w1, cr_Ho_3 w1, cr_Ho_4 w1, cr_Ho_5 w1, cr_Ho_6 w1, cr_Ho_7 w1, cr_Ho_8 w1, cr_Ho_9 w1, cr_Ho_13 w1, cr_Ho_15 w1, cr_Ho_16 w1, cr_Ws_0 w1, cr_Ss_0 w1, cr_Re_0 w1, cr_Re_1 w1, cr_Re_2 w1, cr_Re_3 w1, cr_Ta_0 w1, cr_Ta_1 w1, cr_Ta_2 w1, cr_Ta_3 w1, cr_Ta_4 w1, cr_Ta_5 w1, cr_Ta_6 w1, cr_Wa_0 w1, cr_Wa_2 w1, cr_Wa_3 w1, cr_Wa_4 w1, cr_Wa_5 w1, cr_Wa_6 w1, cr_Lo_0 w1, cr_Lo_1 w1, cr_Lo_2 w1, cr_Lo_3 w1, cr_Lo_4 w1, cr_Sh_0 w1, cr_Sh_1 w1, cr_Sh_2 w1, co_Ho w1, ca_Ho_tape w1, cl_Ho_tape, co_Ws w1, co_Ss w1, co_Ask w1, co_Re w1, co_Ta w1, co_Fi w1, co_Wa w1, ca_Ho_told w1, cl_Ho_told, co_Lo w1, co_Sh w1, ca_Ws_e w1, cl_Ws_e, ca_Ss_e w1, cl_Ss_e, ca_Re_sums w1, cl_Re_sums, ca_Re_firsts w1, cl_Re_firsts, co_Atom w1, co_Raised w1, ca_Ta_cells w1, cl_Ta_cells, ca_Ta_numbers w1, cl_Ta_numbers, ca_Ta_done w1, cl_Ta_done, ca_Ta_order w1, cl_Ta_order, ca_Ta_spare w1, cl_Ta_spare, ca_Ta_parents w1, cl_Ta_parents, ca_Ta_melting w1, cl_Ta_melting, ca_Wa_queue w1, cl_Wa_queue, ca_Wa_origins w1, cl_Wa_origins, ca_Wa_vias w1, cl_Wa_vias, ca_Wa_lengths w1, cl_Wa_lengths, ca_Wa_seen w1, cl_Wa_seen, co_Single w1, ca_Lo_cells w1, cl_Lo_cells, ca_Lo_kept w1, cl_Lo_kept, ca_Lo_keptRows w1, cl_Lo_keptRows, ca_Lo_names w1, cl_Lo_names, ca_Lo_met w1, cl_Lo_met, ca_Sh_cells w1, cl_Sh_cells, ca_Sh_seen w1, cl_Sh_seen, ca_Sh_queue w1, cl_Sh_queue, CW_sI, CW_sA, e11, hmu, muMg_13, muMg_39, locI, nth]
      refine ⟨fun z => ⟨⟨by omega, by omega⟩, ⟨k + 1, _, _, _, _, _, _, _, R, m, rfl, hS, by omega, by omega, fun i i0 i1 => ?_⟩, by omega⟩, fun z => by omega⟩
      by_cases e : i = k
      · rw [e]
        intro d d0 d1 d2
        exact eR d d0 (by omega) d2
      · exact eK i i0 (by omega)
  · obtain ⟨s1, s2⟩ := MI_start (x0 := x0) (y0 := y0) (gI h pTa_melting) L2 hT hW
    simp (decide := true) only [↓E_Ta_merge_0, ↓E_Ta_merge_13, ↓E_Ta_merge_39, ↓E_Ta_merge_68, ↓E_Ta_merge_138, ↓E_Ta_merge_160, ↓E_Ta_merge_170, ↓E_Ta_merge_176, ↓E_Ta_merge_182, ↓ce_Ta_unite, ↓ce_Ta_get, ↓ce_Ta_unlink, ↓ce_Ta_rootOf, ↓ce_Ta_link, ↓ce_Ta_forgetMelted, ↓e_ci, ↓e_cl, ↓e_nul, ↓e_add, ↓e_sub, ↓e_mul, ↓e_ladd, ↓e_lmul, ↓e_div, ↓e_rem, ↓e_ldiv, ↓e_lrem, ↓e_zeq, ↓e_zne, ↓e_zlt, ↓e_zge, ↓e_zgt, ↓e_zle, ↓e_ceq, ↓e_cne, ↓e_clt, ↓e_cge, ↓e_cgt, ↓e_cle, ↓e_nn, ↓e_gI, ↓e_gR, ↓e_pI, ↓e_pZ, ↓e_pR, ↓e_ia, ↓e_ba, ↓e_za, ↓e_iS, ↓e_bS, ↓e_zS, ↓e_aa, ↓e_aS, ↓e_len, ↓e_and, ↓e_xor, ↓e_shr, ↓e_ushr, ↓e_lcmp, ↓e_i2b, ↓e_i2l, ↓e_l2i, ↓e_sw, ↓e_min, ↓e_max, ↓e_acp, ↓e_il_0, ↓e_al_0, ↓e_ll_0, ↓e_is_0n, ↓e_as_0n, ↓e_ls_0n, ↓e_inc_0n, ↓e_il_1, ↓e_al_1, ↓e_ll_1, ↓e_is_1i, ↓e_as_1i, ↓e_ls_1i, ↓e_inc_1i, ↓e_is_1o, ↓e_as_1o, ↓e_ls_1o, ↓e_inc_1o, ↓e_is_1n, ↓e_as_1n, ↓e_ls_1n, ↓e_inc_1n, ↓e_il_2, ↓e_al_2, ↓e_ll_2, ↓e_is_2i, ↓e_as_2i, ↓e_ls_2i, ↓e_inc_2i, ↓e_is_2o, ↓e_as_2o, ↓e_ls_2o, ↓e_inc_2o, ↓e_is_2n, ↓e_as_2n, ↓e_ls_2n, ↓e_inc_2n, ↓e_il_3, ↓e_al_3, ↓e_ll_3, ↓e_is_3i, ↓e_as_3i, ↓e_ls_3i, ↓e_inc_3i, ↓e_is_3o, ↓e_as_3o, ↓e_ls_3o, ↓e_inc_3o, ↓e_is_3n, ↓e_as_3n, ↓e_ls_3n, ↓e_inc_3n, ↓e_il_4, ↓e_al_4, ↓e_ll_4, ↓e_is_4i, ↓e_as_4i, ↓e_ls_4i, ↓e_inc_4i, ↓e_is_4o, ↓e_as_4o, ↓e_ls_4o, ↓e_inc_4o, ↓e_is_4n, ↓e_as_4n, ↓e_ls_4n, ↓e_inc_4n, ↓e_il_5, ↓e_al_5, ↓e_ll_5, ↓e_is_5i, ↓e_as_5i, ↓e_ls_5i, ↓e_inc_5i, ↓e_is_5o, ↓e_as_5o, ↓e_ls_5o, ↓e_inc_5o, ↓e_is_5n, ↓e_as_5n, ↓e_ls_5n, ↓e_inc_5n, ↓e_il_6, ↓e_al_6, ↓e_ll_6, ↓e_is_6i, ↓e_as_6i, ↓e_ls_6i, ↓e_inc_6i, ↓e_is_6o, ↓e_as_6o, ↓e_ls_6o, ↓e_inc_6o, ↓e_is_6n, ↓e_as_6n, ↓e_ls_6n, ↓e_inc_6n, ↓e_il_7, ↓e_al_7, ↓e_ll_7, ↓e_is_7i, ↓e_as_7i, ↓e_ls_7i, ↓e_inc_7i, ↓e_is_7o, ↓e_as_7o, ↓e_ls_7o, ↓e_inc_7o, ↓e_is_7n, ↓e_as_7n, ↓e_ls_7n, ↓e_inc_7n, ↓e_il_8, ↓e_al_8, ↓e_ll_8, ↓e_is_8i, ↓e_as_8i, ↓e_ls_8i, ↓e_inc_8i, ↓e_is_8o, ↓e_as_8o, ↓e_ls_8o, ↓e_inc_8o, ↓e_is_8n, ↓e_as_8n, ↓e_ls_8n, ↓e_inc_8n, ↓e_il_9, ↓e_al_9, ↓e_ll_9, ↓e_is_9i, ↓e_as_9i, ↓e_ls_9i, ↓e_inc_9i, ↓e_is_9o, ↓e_as_9o, ↓e_ls_9o, ↓e_inc_9o, ↓e_is_9n, ↓e_as_9n, ↓e_ls_9n, ↓e_inc_9n, ↓e_il_10, ↓e_al_10, ↓e_ll_10, ↓e_is_10i, ↓e_as_10i, ↓e_ls_10i, ↓e_inc_10i, ↓e_is_10o, ↓e_as_10o, ↓e_ls_10o, ↓e_inc_10o, ↓e_is_10n, ↓e_as_10n, ↓e_ls_10n, ↓e_inc_10n, ↓e_il_11, ↓e_al_11, ↓e_ll_11, ↓e_is_11i, ↓e_as_11i, ↓e_ls_11i, ↓e_inc_11i, ↓e_is_11o, ↓e_as_11o, ↓e_ls_11o, ↓e_inc_11o, ↓e_is_11n, ↓e_as_11n, ↓e_ls_11n, ↓e_inc_11n, ↓e_il_12, ↓e_al_12, ↓e_ll_12, ↓e_is_12i, ↓e_as_12i, ↓e_ls_12i, ↓e_inc_12i, ↓e_is_12o, ↓e_as_12o, ↓e_ls_12o, ↓e_inc_12o, ↓e_is_12n, ↓e_as_12n, ↓e_ls_12n, ↓e_inc_12n, ↓e_dup_i, ↓e_pop_i, ↓e_dup2_ii, ↓e_dup2_io, ↓e_dup_o, ↓e_pop_o, ↓e_dup2_oi, ↓e_dup2_oo, ↓e_ir, ↓e_zr, ↓e_br, ↓e_lr, ↓e_ar, ↓e_vr, ↓e_cut, ↓e_cS_0, ↓e_cV_1, ↓e_cS_1, ↓e_cV_2, ↓e_cS_2, ↓e_cV_3, ↓e_cS_3, ↓e_cV_4, ↓e_cS_4, ↓e_cV_5, ↓e_cS_5, ↓e_cV_6, ↓e_cS_6, ↓e_cV_7, ↓e_cS_7, ↓e_swn, ↓e_swc, ↓e_tls, ↓e_tln, E_Ta_merge_0, E_Ta_merge_13, E_Ta_merge_39, E_Ta_merge_68, E_Ta_merge_138, E_Ta_merge_160, E_Ta_merge_170, E_Ta_merge_176, E_Ta_merge_182, ce_Ta_unite, ce_Ta_get, ce_Ta_unlink, ce_Ta_rootOf, ce_Ta_link, ce_Ta_forgetMelted, e_ci, e_cl, e_nul, e_add, e_sub, e_mul, e_ladd, e_lmul, e_div, e_rem, e_ldiv, e_lrem, e_zeq, e_zne, e_zlt, e_zge, e_zgt, e_zle, e_ceq, e_cne, e_clt, e_cge, e_cgt, e_cle, e_nn, e_gI, e_gR, e_pI, e_pZ, e_pR, e_ia, e_ba, e_za, e_iS, e_bS, e_zS, e_aa, e_aS, e_len, e_and, e_xor, e_shr, e_ushr, e_lcmp, e_i2b, e_i2l, e_l2i, e_sw, e_min, e_max, e_acp, e_il_0, e_al_0, e_ll_0, e_is_0n, e_as_0n, e_ls_0n, e_inc_0n, e_il_1, e_al_1, e_ll_1, e_is_1i, e_as_1i, e_ls_1i, e_inc_1i, e_is_1o, e_as_1o, e_ls_1o, e_inc_1o, e_is_1n, e_as_1n, e_ls_1n, e_inc_1n, e_il_2, e_al_2, e_ll_2, e_is_2i, e_as_2i, e_ls_2i, e_inc_2i, e_is_2o, e_as_2o, e_ls_2o, e_inc_2o, e_is_2n, e_as_2n, e_ls_2n, e_inc_2n, e_il_3, e_al_3, e_ll_3, e_is_3i, e_as_3i, e_ls_3i, e_inc_3i, e_is_3o, e_as_3o, e_ls_3o, e_inc_3o, e_is_3n, e_as_3n, e_ls_3n, e_inc_3n, e_il_4, e_al_4, e_ll_4, e_is_4i, e_as_4i, e_ls_4i, e_inc_4i, e_is_4o, e_as_4o, e_ls_4o, e_inc_4o, e_is_4n, e_as_4n, e_ls_4n, e_inc_4n, e_il_5, e_al_5, e_ll_5, e_is_5i, e_as_5i, e_ls_5i, e_inc_5i, e_is_5o, e_as_5o, e_ls_5o, e_inc_5o, e_is_5n, e_as_5n, e_ls_5n, e_inc_5n, e_il_6, e_al_6, e_ll_6, e_is_6i, e_as_6i, e_ls_6i, e_inc_6i, e_is_6o, e_as_6o, e_ls_6o, e_inc_6o, e_is_6n, e_as_6n, e_ls_6n, e_inc_6n, e_il_7, e_al_7, e_ll_7, e_is_7i, e_as_7i, e_ls_7i, e_inc_7i, e_is_7o, e_as_7o, e_ls_7o, e_inc_7o, e_is_7n, e_as_7n, e_ls_7n, e_inc_7n, e_il_8, e_al_8, e_ll_8, e_is_8i, e_as_8i, e_ls_8i, e_inc_8i, e_is_8o, e_as_8o, e_ls_8o, e_inc_8o, e_is_8n, e_as_8n, e_ls_8n, e_inc_8n, e_il_9, e_al_9, e_ll_9, e_is_9i, e_as_9i, e_ls_9i, e_inc_9i, e_is_9o, e_as_9o, e_ls_9o, e_inc_9o, e_is_9n, e_as_9n, e_ls_9n, e_inc_9n, e_il_10, e_al_10, e_ll_10, e_is_10i, e_as_10i, e_ls_10i, e_inc_10i, e_is_10o, e_as_10o, e_ls_10o, e_inc_10o, e_is_10n, e_as_10n, e_ls_10n, e_inc_10n, e_il_11, e_al_11, e_ll_11, e_is_11i, e_as_11i, e_ls_11i, e_inc_11i, e_is_11o, e_as_11o, e_ls_11o, e_inc_11o, e_is_11n, e_as_11n, e_ls_11n, e_inc_11n, e_il_12, e_al_12, e_ll_12, e_is_12i, e_as_12i, e_ls_12i, e_inc_12i, e_is_12o, e_as_12o, e_ls_12o, e_inc_12o, e_is_12n, e_as_12n, e_ls_12n, e_inc_12n, e_dup_i, e_pop_i, e_dup2_ii, e_dup2_io, e_dup_o, e_pop_o, e_dup2_oi, e_dup2_oo, e_ir, e_zr, e_br, e_lr, e_ar, e_vr, e_cut, e_cS_0, e_cV_1, e_cS_1, e_cV_2, e_cS_2, e_cV_3, e_cS_3, e_cV_4, e_cS_4, e_cV_5, e_cS_5, e_cV_6, e_cS_6, e_cV_7, e_cS_7, e_swn, e_swc, e_tls, e_tln, gI_sI, gI_sA, gR_sI, gR_sA, gI_sR, gR_sR, hN_sI, hN_sA, hN_sR, isO_sI, isO_sA, isO_sR, isAr_sI, isAr_sA, isAr_sR, hC_sI, hC_sA, hC_sR, hZ_sI, hZ_sA, hZ_sR, MW_sI, MW_sA, true_and, and_true, true_or, or_true, and_self, forall_const, imp_self, implies_true, if_true, if_false, false_and, and_false, false_or, or_false, not_false_eq_true, not_true_eq_false, sI_sI, entA, fitL, List.length_cons, List.length_nil, List.nil_append, List.cons_append, false_imp_iff, true_imp_iff, pn1, pn2, MW_sI, CW_sI, cr_Ho_0 w, cr_Ho_3 w, cr_Ho_4 w, cr_Ho_5 w, cr_Ho_6 w, cr_Ho_7 w, cr_Ho_8 w, cr_Ho_9 w, cr_Ho_13 w, cr_Ho_15 w, cr_Ho_16 w, cr_Ws_0 w, cr_Ss_0 w, cr_Re_0 w, cr_Re_1 w, cr_Re_2 w, cr_Re_3 w, cr_Ta_0 w, cr_Ta_1 w, cr_Ta_2 w, cr_Ta_3 w, cr_Ta_4 w, cr_Ta_5 w, cr_Ta_6 w, cr_Wa_0 w, cr_Wa_2 w, cr_Wa_3 w, cr_Wa_4 w, cr_Wa_5 w, cr_Wa_6 w, cr_Lo_0 w, cr_Lo_1 w, cr_Lo_2 w, cr_Lo_3 w, cr_Lo_4 w, cr_Sh_0 w, cr_Sh_1 w, cr_Sh_2 w, co_Ho w, ca_Ho_tape w, cl_Ho_tape, co_Ws w, co_Ss w, co_Ask w, co_Re w, co_Ta w, co_Fi w, co_Wa w, ca_Ho_told w, cl_Ho_told, co_Lo w, co_Sh w, ca_Ws_e w, cl_Ws_e, ca_Ss_e w, cl_Ss_e, ca_Re_sums w, cl_Re_sums, ca_Re_firsts w, cl_Re_firsts, co_Atom w, co_Raised w, ca_Ta_cells w, cl_Ta_cells, ca_Ta_numbers w, cl_Ta_numbers, ca_Ta_done w, cl_Ta_done, ca_Ta_order w, cl_Ta_order, ca_Ta_spare w, cl_Ta_spare, ca_Ta_parents w, cl_Ta_parents, ca_Ta_melting w, cl_Ta_melting, ca_Wa_queue w, cl_Wa_queue, ca_Wa_origins w, cl_Wa_origins, ca_Wa_vias w, cl_Wa_vias, ca_Wa_lengths w, cl_Wa_lengths, ca_Wa_seen w, cl_Wa_seen, co_Single w, ca_Lo_cells w, cl_Lo_cells, ca_Lo_kept w, cl_Lo_kept, ca_Lo_keptRows w, cl_Lo_keptRows, ca_Lo_names w, cl_Lo_names, ca_Lo_met w, cl_Lo_met, ca_Sh_cells w, cl_Sh_cells, ca_Sh_seen w, cl_Sh_seen, ca_Sh_queue w, cl_Sh_queue, CW_sI, CW_sA]
    have px := hP.1 x0 hx.1 hx.2.1
    have py := hP.1 y0 hy.1 hy.2.1
    have mk : ∀ x y, lfS (gI h pTa_numbers) x → lfS (gI h pTa_numbers) y → gI h pTa_parents x = x → gI h pTa_parents y = y → gI h pTa_numbers y < gI h pTa_numbers x → ((x = x0 ∧ y = y0) ∨ (x = y0 ∧ y = x0)) → MS h (unH (sI h pTa 7 0) x y) (upR (fun s => s) x y) L x0 y0 1 := by
      intro x y hx' hy' px' py' hlt hxy
      have hf : fcd (gI h pTa_numbers) (gI h pTa_cells) L x0 y0 x y := by
        intro X φ F hD hH he
        rcases hxy with ⟨rfl, rfl⟩ | ⟨rfl, rfl⟩
        · exact he
        · exact he.symm
      refine ⟨FrP_sI (by unfold Pmg; simp (decide := true)) (FrP_sI (by unfold Pmg; simp (decide := true)) (FrP_sI (by unfold Pmg; simp (decide := true)) (FrP_sI (by unfold Pmg; simp (decide := true)) (FrP_refl _ h)))), rfl, ?_, MIc_uni s2 hf, by omega, by omega, ?_⟩
      · have e1 : gI (unH (sI h pTa 7 0) x y) pTa_parents = upI (gI h pTa_parents) x y := by
          funext j
          unfold unH upI
          simp (decide := true) only [gI_sI, if_false, false_and, true_and]
        have e2 : gI (unH (sI h pTa 7 0) x y) pTa_melting = upI (gI h pTa_melting) 0 x := by
          funext j
          unfold unH upI
          simp (decide := true) only [gI_sI, if_false, if_true, false_and, true_and]
        rw [e1, e2]
        exact MIp_uni s1 hx' hy' px' py' hlt
      · unfold upR
        rcases hxy with ⟨rfl, rfl⟩ | ⟨rfl, rfl⟩
        · show (if x = x then y else x) = if y = x then y else y
          rw [if_pos rfl]; split <;> rfl
        · show (if y = x then y else y) = if x = x then y else x
          rw [if_pos rfl]; split <;> rfl
    refine ⟨w, hx.1, hx.2.1, hy.1, hy.2.1, fun z => absurd z hne, fun _ z => ⟨0, _, _, _, _, _, _, _, _, 1, rfl, mk y0 x0 hy hx py px z (Or.inr ⟨rfl, rfl⟩), by omega, by omega, fun i i0 i1 => by omega⟩, fun _ z => ⟨0, _, _, _, _, _, _, _, _, 1, rfl, mk x0 y0 hx hy px py ?_ (Or.inl ⟨rfl, rfl⟩), by omega, by omega, fun i i0 i1 => by omega⟩⟩
    have : gI h pTa_numbers x0 ≠ gI h pTa_numbers y0 := fun y => hne (TgO_inj ho hx hy y)
    omega
