/-! THE MODEL'S rename -/
def PR (b : Nat) (j : Int) : Prop := Tb b j ∨ Po b j ∨ b = pMo_newOf ∨ b = pMo_oldOf ∨ b = pMo_spare ∨ b = pMo_spareDone ∨ (b = pMo ∧ j = 42)
def PS (b : Nat) (j : Int) : Prop := b = pMo_newOf ∨ b = pMo_oldOf ∨ b = pMo_spare ∨ b = pMo_spareDone ∨ (b = pMo ∧ (j = 42 ∨ j = 4))
theorem PS_PR {b : Nat} {j : Int} (h : PS b j) : PR b j := by
  unfold PS at h
  unfold PR Po
  rcases h with h | h | h | h | h
  · exact Or.inr (Or.inr (Or.inl h))
  · exact Or.inr (Or.inr (Or.inr (Or.inl h)))
  · exact Or.inr (Or.inr (Or.inr (Or.inr (Or.inl h))))
  · exact Or.inr (Or.inr (Or.inr (Or.inr (Or.inr (Or.inl h)))))
  · rcases h.2 with z | z
    · exact Or.inr (Or.inr (Or.inr (Or.inr (Or.inr (Or.inr ⟨h.1, z⟩)))))
    · exact Or.inr (Or.inl ⟨h.1, by omega, by omega⟩)
def Ct_Mo_rename : CtT := fun av h post => match av with
  | [.inr (.inl (some t))] => t = pMo ∧ MW h ∧ (¬ (gI h pMo 32 ≠ 0 ∧ gI h pMo_state 6 = 1) → post (some (.inl 0)) (noH h 6)) ∧ (gI h pMo 32 ≠ 0 ∧ gI h pMo_state 6 = 1 → ∃ (L Q : Int), TX L Q h ∧ FU L (atM h) ∧ gI h pMo 39 ≤ 0 ∧ ∀ h', FrP PR h h' → gdH h' → atM h' = rnA L (atM h) → BB h' → post (some (.inl 1)) h')
  | _ => False
def B_Mo_rename_223 : TT := (tt_al 0 (tt_gR 9 30 (tt_ci 0 (tt_il 1 (tt_iS (tt_al 0 (tt_gR 9 30 (tt_ci 10 (tt_ci 0 (tt_iS (tt_al 0 (tt_cV 9 1 Ct_Mo_good (tt_ci 1 tt_zr)))))))))))))
theorem S_Mo_rename_223 (lc lz : Nat) : Snd md_Mo_rename lc lz 223 (B_Mo_rename_223) := (snd_al_n (n := 0) (dget dd_Mo_rename 133 rfl) rfl (snd_gR (kn := 30) fd_Mo_76 rfl (dget dd_Mo_rename 134 rfl) (snd_iconst (n := 0) (dget dd_Mo_rename 135 rfl) (inR_d rfl) rfl (snd_il_n (n := 1) (dget dd_Mo_rename 136 rfl) rfl (snd_iS (dget dd_Mo_rename 137 rfl) (snd_al_n (n := 0) (dget dd_Mo_rename 138 rfl) rfl (snd_gR (kn := 30) fd_Mo_76 rfl (dget dd_Mo_rename 139 rfl) (snd_bipush (n := 10) (dget dd_Mo_rename 140 rfl) (inR_d rfl) (by decide) (snd_iconst (n := 0) (dget dd_Mo_rename 141 rfl) (inR_d rfl) rfl (snd_iS (dget dd_Mo_rename 142 rfl) (snd_al_n (n := 0) (dget dd_Mo_rename 143 rfl) rfl (snd_cV (n := 0) met_Mo_good mi_Mo_good ki_Mo_good kv_Mo_good ml_Mo_159 rfl (by decide) (dget dd_Mo_rename 144 rfl) (snd_iconst (n := 1) (dget dd_Mo_rename 145 rfl) (inR_d rfl) rfl (snd_zr (dget dd_Mo_rename 146 rfl) rfl))))))))))))))
def B_Mo_rename_200 : TT := (tt_il 2 (tt_il 1 (tt_cge (B_Mo_rename_223) (tt_al 0 (tt_gR 9 27 (tt_il 2 (tt_al 0 (tt_gR 9 44 (tt_il 2 (tt_za (tt_zS (tt_inc 2 1 (tt_cut 200)))))))))))))
theorem S_Mo_rename_200 (lc lz : Nat) : Snd md_Mo_rename lc lz 200 (B_Mo_rename_200) := (snd_il_n (n := 2) (dget dd_Mo_rename 120 rfl) rfl (snd_il_n (n := 1) (dget dd_Mo_rename 121 rfl) rfl (snd_cge (tg := 223) (dget dd_Mo_rename 122 rfl) rfl (S_Mo_rename_223 lc lz) (snd_al_n (n := 0) (dget dd_Mo_rename 123 rfl) rfl (snd_gR (kn := 27) fd_Mo_67 rfl (dget dd_Mo_rename 124 rfl) (snd_il_n (n := 2) (dget dd_Mo_rename 125 rfl) rfl (snd_al_n (n := 0) (dget dd_Mo_rename 126 rfl) rfl (snd_gR (kn := 44) fd_Mo_91 rfl (dget dd_Mo_rename 127 rfl) (snd_il_n (n := 2) (dget dd_Mo_rename 128 rfl) rfl (snd_za (dget dd_Mo_rename 129 rfl) (snd_zS (dget dd_Mo_rename 130 rfl) (snd_inc (dget dd_Mo_rename 131 rfl) (snd_goto (tg := 200) (dget dd_Mo_rename 132 rfl) rfl snd_cut)))))))))))))
def B_Mo_rename_198 : TT := (tt_ci 0 (tt_is 2 (tt_cut 200)))
theorem S_Mo_rename_198 (lc lz : Nat) : Snd md_Mo_rename lc lz 198 (B_Mo_rename_198) := (snd_iconst (n := 0) (dget dd_Mo_rename 118 rfl) (inR_d rfl) rfl (snd_is_n (n := 2) (dget dd_Mo_rename 119 rfl) rfl snd_cut))
def B_Mo_rename_172 : TT := (tt_il 2 (tt_ci 10 (tt_il 1 (tt_mul (tt_cge (B_Mo_rename_198) (tt_al 0 (tt_gR 9 23 (tt_il 2 (tt_al 0 (tt_gR 9 43 (tt_il 2 (tt_ia (tt_iS (tt_inc 2 1 (tt_cut 172)))))))))))))))
theorem S_Mo_rename_172 (lc lz : Nat) : Snd md_Mo_rename lc lz 172 (B_Mo_rename_172) := (snd_il_n (n := 2) (dget dd_Mo_rename 103 rfl) rfl (snd_bipush (n := 10) (dget dd_Mo_rename 104 rfl) (inR_d rfl) (by decide) (snd_il_n (n := 1) (dget dd_Mo_rename 105 rfl) rfl (snd_mul (dget dd_Mo_rename 106 rfl) (snd_cge (tg := 198) (dget dd_Mo_rename 107 rfl) rfl (S_Mo_rename_198 lc lz) (snd_al_n (n := 0) (dget dd_Mo_rename 108 rfl) rfl (snd_gR (kn := 23) fd_Mo_54 rfl (dget dd_Mo_rename 109 rfl) (snd_il_n (n := 2) (dget dd_Mo_rename 110 rfl) rfl (snd_al_n (n := 0) (dget dd_Mo_rename 111 rfl) rfl (snd_gR (kn := 43) fd_Mo_88 rfl (dget dd_Mo_rename 112 rfl) (snd_il_n (n := 2) (dget dd_Mo_rename 113 rfl) rfl (snd_ia (dget dd_Mo_rename 114 rfl) (snd_iS (dget dd_Mo_rename 115 rfl) (snd_inc (dget dd_Mo_rename 116 rfl) (snd_goto (tg := 172) (dget dd_Mo_rename 117 rfl) rfl snd_cut)))))))))))))))
def B_Mo_rename_170 : TT := (tt_ci 0 (tt_is 2 (tt_cut 172)))
theorem S_Mo_rename_170 (lc lz : Nat) : Snd md_Mo_rename lc lz 170 (B_Mo_rename_170) := (snd_iconst (n := 0) (dget dd_Mo_rename 101 rfl) (inR_d rfl) rfl (snd_is_n (n := 2) (dget dd_Mo_rename 102 rfl) rfl snd_cut))
def B_Mo_rename_163 : TT := (tt_zS (tt_inc 2 1 (tt_cut 138)))
theorem S_Mo_rename_163 (lc lz : Nat) : Snd md_Mo_rename lc lz 163 (B_Mo_rename_163) := (snd_zS (dget dd_Mo_rename 98 rfl) (snd_inc (dget dd_Mo_rename 99 rfl) (snd_goto (tg := 138) (dget dd_Mo_rename 100 rfl) rfl snd_cut)))
def B_Mo_rename_162 : TT := (tt_ci 0 (B_Mo_rename_163))
theorem S_Mo_rename_162 (lc lz : Nat) : Snd md_Mo_rename lc lz 162 (B_Mo_rename_162) := (snd_iconst (n := 0) (dget dd_Mo_rename 97 rfl) (inR_d rfl) rfl (S_Mo_rename_163 lc lz))
def B_Mo_rename_138 : TT := (tt_il 2 (tt_al 0 (tt_gR 9 30 (tt_ci 0 (tt_ia (tt_cge (B_Mo_rename_170) (tt_al 0 (tt_gR 9 26 (tt_il 2 (tt_il 2 (tt_il 1 (tt_cge (B_Mo_rename_162) (tt_ci 1 (B_Mo_rename_163))))))))))))))
theorem S_Mo_rename_138 (lc lz : Nat) : Snd md_Mo_rename lc lz 138 (B_Mo_rename_138) := (snd_il_n (n := 2) (dget dd_Mo_rename 83 rfl) rfl (snd_al_n (n := 0) (dget dd_Mo_rename 84 rfl) rfl (snd_gR (kn := 30) fd_Mo_76 rfl (dget dd_Mo_rename 85 rfl) (snd_iconst (n := 0) (dget dd_Mo_rename 86 rfl) (inR_d rfl) rfl (snd_ia (dget dd_Mo_rename 87 rfl) (snd_cge (tg := 170) (dget dd_Mo_rename 88 rfl) rfl (S_Mo_rename_170 lc lz) (snd_al_n (n := 0) (dget dd_Mo_rename 89 rfl) rfl (snd_gR (kn := 26) fd_Mo_63 rfl (dget dd_Mo_rename 90 rfl) (snd_il_n (n := 2) (dget dd_Mo_rename 91 rfl) rfl (snd_il_n (n := 2) (dget dd_Mo_rename 92 rfl) rfl (snd_il_n (n := 1) (dget dd_Mo_rename 93 rfl) rfl (snd_cge (tg := 162) (dget dd_Mo_rename 94 rfl) rfl (S_Mo_rename_162 lc lz) (snd_iconst (n := 1) (dget dd_Mo_rename 95 rfl) (inR_d rfl) rfl (snd_goto (tg := 163) (dget dd_Mo_rename 96 rfl) rfl (S_Mo_rename_163 lc lz)))))))))))))))
def B_Mo_rename_136 : TT := (tt_ci 0 (tt_is 2 (tt_cut 138)))
theorem S_Mo_rename_136 (lc lz : Nat) : Snd md_Mo_rename lc lz 136 (B_Mo_rename_136) := (snd_iconst (n := 0) (dget dd_Mo_rename 81 rfl) (inR_d rfl) rfl (snd_is_n (n := 2) (dget dd_Mo_rename 82 rfl) rfl snd_cut))
def B_Mo_rename_113 : TT := (tt_al 0 (tt_gR 9 44 (tt_il 2 (tt_al 0 (tt_gR 9 27 (tt_al 0 (tt_gR 9 41 (tt_il 2 (tt_ia (tt_za (tt_zS (tt_inc 2 1 (tt_cut 47)))))))))))))
theorem S_Mo_rename_113 (lc lz : Nat) : Snd md_Mo_rename lc lz 113 (B_Mo_rename_113) := (snd_al_n (n := 0) (dget dd_Mo_rename 68 rfl) rfl (snd_gR (kn := 44) fd_Mo_91 rfl (dget dd_Mo_rename 69 rfl) (snd_il_n (n := 2) (dget dd_Mo_rename 70 rfl) rfl (snd_al_n (n := 0) (dget dd_Mo_rename 71 rfl) rfl (snd_gR (kn := 27) fd_Mo_67 rfl (dget dd_Mo_rename 72 rfl) (snd_al_n (n := 0) (dget dd_Mo_rename 73 rfl) rfl (snd_gR (kn := 41) fd_Mo_85 rfl (dget dd_Mo_rename 74 rfl) (snd_il_n (n := 2) (dget dd_Mo_rename 75 rfl) rfl (snd_ia (dget dd_Mo_rename 76 rfl) (snd_za (dget dd_Mo_rename 77 rfl) (snd_zS (dget dd_Mo_rename 78 rfl) (snd_inc (dget dd_Mo_rename 79 rfl) (snd_goto (tg := 47) (dget dd_Mo_rename 80 rfl) rfl snd_cut)))))))))))))
def B_Mo_rename_106 : TT := (tt_iS (tt_inc 3 1 (tt_cut 54)))
theorem S_Mo_rename_106 (lc lz : Nat) : Snd md_Mo_rename lc lz 106 (B_Mo_rename_106) := (snd_iS (dget dd_Mo_rename 65 rfl) (snd_inc (dget dd_Mo_rename 66 rfl) (snd_goto (tg := 54) (dget dd_Mo_rename 67 rfl) rfl snd_cut)))
def B_Mo_rename_104 : TT := (tt_ci (-2) (B_Mo_rename_106))
theorem S_Mo_rename_104 (lc lz : Nat) : Snd md_Mo_rename lc lz 104 (B_Mo_rename_104) := (snd_bipush (n := -2) (dget dd_Mo_rename 64 rfl) (inR_d rfl) (by decide) (S_Mo_rename_106 lc lz))
def B_Mo_rename_54 : TT := (tt_il 3 (tt_ci 10 (tt_cge (B_Mo_rename_113) (tt_al 0 (tt_gR 9 43 (tt_ci 10 (tt_il 2 (tt_mul (tt_il 3 (tt_add (tt_il 3 (tt_ci 2 (tt_al 0 (tt_gI 9 0 (tt_mul (tt_cge (B_Mo_rename_104) (tt_al 0 (tt_gR 9 40 (tt_al 0 (tt_gR 9 23 (tt_ci 10 (tt_al 0 (tt_gR 9 41 (tt_il 2 (tt_ia (tt_mul (tt_il 3 (tt_add (tt_ia (tt_ia (B_Mo_rename_106)))))))))))))))))))))))))))))))
theorem S_Mo_rename_54 (lc lz : Nat) : Snd md_Mo_rename lc lz 54 (B_Mo_rename_54) := (snd_il_n (n := 3) (dget dd_Mo_rename 33 rfl) rfl (snd_bipush (n := 10) (dget dd_Mo_rename 34 rfl) (inR_d rfl) (by decide) (snd_cge (tg := 113) (dget dd_Mo_rename 35 rfl) rfl (S_Mo_rename_113 lc lz) (snd_al_n (n := 0) (dget dd_Mo_rename 36 rfl) rfl (snd_gR (kn := 43) fd_Mo_88 rfl (dget dd_Mo_rename 37 rfl) (snd_bipush (n := 10) (dget dd_Mo_rename 38 rfl) (inR_d rfl) (by decide) (snd_il_n (n := 2) (dget dd_Mo_rename 39 rfl) rfl (snd_mul (dget dd_Mo_rename 40 rfl) (snd_il_n (n := 3) (dget dd_Mo_rename 41 rfl) rfl (snd_add (dget dd_Mo_rename 42 rfl) (snd_il_n (n := 3) (dget dd_Mo_rename 43 rfl) rfl (snd_iconst (n := 2) (dget dd_Mo_rename 44 rfl) (inR_d rfl) rfl (snd_al_n (n := 0) (dget dd_Mo_rename 45 rfl) rfl (snd_gI (kn := 0) fd_Mo_7 rfl (dget dd_Mo_rename 46 rfl) (snd_mul (dget dd_Mo_rename 47 rfl) (snd_cge (tg := 104) (dget dd_Mo_rename 48 rfl) rfl (S_Mo_rename_104 lc lz) (snd_al_n (n := 0) (dget dd_Mo_rename 49 rfl) rfl (snd_gR (kn := 40) fd_Mo_82 rfl (dget dd_Mo_rename 50 rfl) (snd_al_n (n := 0) (dget dd_Mo_rename 51 rfl) rfl (snd_gR (kn := 23) fd_Mo_54 rfl (dget dd_Mo_rename 52 rfl) (snd_bipush (n := 10) (dget dd_Mo_rename 53 rfl) (inR_d rfl) (by decide) (snd_al_n (n := 0) (dget dd_Mo_rename 54 rfl) rfl (snd_gR (kn := 41) fd_Mo_85 rfl (dget dd_Mo_rename 55 rfl) (snd_il_n (n := 2) (dget dd_Mo_rename 56 rfl) rfl (snd_ia (dget dd_Mo_rename 57 rfl) (snd_mul (dget dd_Mo_rename 58 rfl) (snd_il_n (n := 3) (dget dd_Mo_rename 59 rfl) rfl (snd_add (dget dd_Mo_rename 60 rfl) (snd_ia (dget dd_Mo_rename 61 rfl) (snd_ia (dget dd_Mo_rename 62 rfl) (snd_goto (tg := 106) (dget dd_Mo_rename 63 rfl) rfl (S_Mo_rename_106 lc lz))))))))))))))))))))))))))))))))
def B_Mo_rename_47 : TT := (tt_il 2 (tt_il 1 (tt_cge (B_Mo_rename_136) (tt_ci 0 (tt_is 3 (tt_cut 54))))))
theorem S_Mo_rename_47 (lc lz : Nat) : Snd md_Mo_rename lc lz 47 (B_Mo_rename_47) := (snd_il_n (n := 2) (dget dd_Mo_rename 28 rfl) rfl (snd_il_n (n := 1) (dget dd_Mo_rename 29 rfl) rfl (snd_cge (tg := 136) (dget dd_Mo_rename 30 rfl) rfl (S_Mo_rename_136 lc lz) (snd_iconst (n := 0) (dget dd_Mo_rename 31 rfl) (inR_d rfl) rfl (snd_is_n (n := 3) (dget dd_Mo_rename 32 rfl) rfl snd_cut)))))
def B_Mo_rename_19 : TT := (tt_al 0 (tt_ci 2 (tt_al 0 (tt_gI 9 0 (tt_mul (tt_pI 9 42 (tt_al 0 (tt_al 0 (tt_gR 9 23 (tt_al 0 (tt_gR 9 30 (tt_ci 0 (tt_ia (tt_ci 0 (tt_cV 9 4 Ct_Mo_meet (tt_is 1 (tt_ci 0 (tt_is 2 (tt_cut 47)))))))))))))))))))
theorem S_Mo_rename_19 (lc lz : Nat) : Snd md_Mo_rename lc lz 19 (B_Mo_rename_19) := (snd_al_n (n := 0) (dget dd_Mo_rename 10 rfl) rfl (snd_iconst (n := 2) (dget dd_Mo_rename 11 rfl) (inR_d rfl) rfl (snd_al_n (n := 0) (dget dd_Mo_rename 12 rfl) rfl (snd_gI (kn := 0) fd_Mo_7 rfl (dget dd_Mo_rename 13 rfl) (snd_mul (dget dd_Mo_rename 14 rfl) (snd_pI (kn := 42) fd_Mo_313 rfl (dget dd_Mo_rename 15 rfl) (snd_al_n (n := 0) (dget dd_Mo_rename 16 rfl) rfl (snd_al_n (n := 0) (dget dd_Mo_rename 17 rfl) rfl (snd_gR (kn := 23) fd_Mo_54 rfl (dget dd_Mo_rename 18 rfl) (snd_al_n (n := 0) (dget dd_Mo_rename 19 rfl) rfl (snd_gR (kn := 30) fd_Mo_76 rfl (dget dd_Mo_rename 20 rfl) (snd_iconst (n := 0) (dget dd_Mo_rename 21 rfl) (inR_d rfl) rfl (snd_ia (dget dd_Mo_rename 22 rfl) (snd_iconst (n := 0) (dget dd_Mo_rename 23 rfl) (inR_d rfl) rfl (snd_cV (n := 3) met_Mo_meet mi_Mo_meet ki_Mo_meet kv_Mo_meet ml_Mo_316 rfl (by decide) (dget dd_Mo_rename 24 rfl) (snd_is_n (n := 1) (dget dd_Mo_rename 25 rfl) rfl (snd_iconst (n := 0) (dget dd_Mo_rename 26 rfl) (inR_d rfl) rfl (snd_is_n (n := 2) (dget dd_Mo_rename 27 rfl) rfl snd_cut))))))))))))))))))
def B_Mo_rename_0 : TT := (tt_al 0 (tt_ci 0 (tt_pI 9 4 (tt_al 0 (tt_cV 9 1 Ct_Mo_isWhole (tt_zne (B_Mo_rename_19) (tt_al 0 (tt_ci 6 (tt_cV 9 2 Ct_Mo_not tt_zr)))))))))
theorem S_Mo_rename_0 (lc lz : Nat) : Snd md_Mo_rename lc lz 0 (B_Mo_rename_0) := (snd_al_n (n := 0) (dget dd_Mo_rename 0 rfl) rfl (snd_iconst (n := 0) (dget dd_Mo_rename 1 rfl) (inR_d rfl) rfl (snd_pI (kn := 4) fd_Mo_130 rfl (dget dd_Mo_rename 2 rfl) (snd_al_n (n := 0) (dget dd_Mo_rename 3 rfl) rfl (snd_cV (n := 0) met_Mo_isWhole mi_Mo_isWhole ki_Mo_isWhole kv_Mo_isWhole ml_Mo_310 rfl (by decide) (dget dd_Mo_rename 4 rfl) (snd_zne (tg := 19) (dget dd_Mo_rename 5 rfl) rfl (S_Mo_rename_19 lc lz) (snd_al_n (n := 0) (dget dd_Mo_rename 6 rfl) rfl (snd_bipush (n := 6) (dget dd_Mo_rename 7 rfl) (inR_d rfl) (by decide) (snd_cV (n := 1) met_Mo_not mi_Mo_not ki_Mo_not kv_Mo_not ml_Mo_139 rfl (by decide) (dget dd_Mo_rename 8 rfl) (snd_zr (dget dd_Mo_rename 9 rfl) rfl))))))))))
def muN (pc : Nat) (ls : LSt) (_ : PH) : Nat := if pc = 47 then 50000 + (6015 - 20 * locI ls 2).toNat else if pc = 54 then 50000 + (6012 - 20 * locI ls 2 - locI ls 3).toNat else if pc = 138 then 40000 + (2000 - locI ls 2).toNat else if pc = 172 then 30000 + (3000 - locI ls 2).toNat else (300 - locI ls 2).toNat
theorem muN_47 {ls : LSt} {h' : PH} : muN 47 ls h' = 50000 + (6015 - 20 * locI ls 2).toNat := by unfold muN; rw [if_pos rfl]
theorem muN_54 {ls : LSt} {h' : PH} : muN 54 ls h' = 50000 + (6012 - 20 * locI ls 2 - locI ls 3).toNat := by unfold muN; rw [if_neg (by decide), if_pos rfl]
theorem muN_138 {ls : LSt} {h' : PH} : muN 138 ls h' = 40000 + (2000 - locI ls 2).toNat := by unfold muN; rw [if_neg (by decide), if_neg (by decide), if_pos rfl]
theorem muN_172 {ls : LSt} {h' : PH} : muN 172 ls h' = 30000 + (3000 - locI ls 2).toNat := by unfold muN; rw [if_neg (by decide), if_neg (by decide), if_neg (by decide), if_pos rfl]
theorem muN_200 {ls : LSt} {h' : PH} : muN 200 ls h' = (300 - locI ls 2).toNat := by unfold muN; rw [if_neg (by decide), if_neg (by decide), if_neg (by decide), if_neg (by decide)]
/-- what is spared of a row -/
noncomputable def spv (L : Int) (a : AT) (x c : Int) : Int := if c < L then (ixF (msA L a) (aE a (wf (msA L a) x) c) : Int) else -2
theorem met_Mo_rename : MetP y_Mo_rename md_Mo_rename (fun _ => 0) (fun _ => 0) Ct_Mo_rename := by
  refine metL5 (body := B_Mo_rename_0) (B1 := B_Mo_rename_47) (B2 := B_Mo_rename_54) (B3 := B_Mo_rename_138) (B4 := B_Mo_rename_172) (B5 := B_Mo_rename_200) (by decide) rfl rfl (fun lc lz => S_Mo_rename_0 lc lz) (fun lc lz => S_Mo_rename_47 lc lz) (fun lc lz => S_Mo_rename_54 lc lz) (fun lc lz => S_Mo_rename_138 lc lz) (fun lc lz => S_Mo_rename_172 lc lz) (fun lc lz => S_Mo_rename_200 lc lz) (by decide) ?_
  intro av h post hc hH hav
  unfold Ct_Mo_rename at hc
  split at hc
  rotate_left
  · exact hc.elim
  rename_i t
  obtain ⟨rfl, w, hp0, hp⟩ := hc
  refine ⟨Nat.le_of_ble_eq_true rfl, ?_⟩
  obtain ⟨mu, hmu⟩ : ∃ mu, mu = muN := ⟨_, rfl⟩
  by_cases hwh : gI h pMo 32 ≠ 0 ∧ gI h pMo_state 6 = 1
  rotate_left
  · refine ⟨fun _ _ => False, fun _ _ => False, fun _ _ => False, fun _ _ => False, fun _ _ => False, mu, fun _ _ z => z.elim, fun _ _ z => z.elim, fun _ _ z => z.elim, fun _ _ z => z.elim, fun _ _ z => z.elim, ?_⟩
    simp (decide := true) only [B_Mo_rename_0, B_Mo_rename_47, B_Mo_rename_54, B_Mo_rename_104, B_Mo_rename_106, B_Mo_rename_113, B_Mo_rename_136, B_Mo_rename_138, B_Mo_rename_162, B_Mo_rename_163, B_Mo_rename_170, B_Mo_rename_172, B_Mo_rename_198, B_Mo_rename_200, B_Mo_rename_223, Ct_Mo_isWhole, Ct_Mo_not, Ct_Mo_meet, Ct_Mo_good, tt_ci, tt_cl, tt_nul, tt_il, tt_al, tt_ll, tt_is, tt_as, tt_ls, tt_inc, tt_add, tt_sub, tt_mul, tt_div, tt_rem, tt_ladd, tt_lmul, tt_ldiv, tt_lrem, tt_zeq, tt_zne, tt_zlt, tt_zge, tt_zgt, tt_zle, tt_ceq, tt_cne, tt_clt, tt_cge, tt_cgt, tt_cle, tt_nn, tt_cut, tt_pop, tt_dup, tt_dup2, tt_gI, tt_gR, tt_pI, tt_pZ, tt_pR, tt_ia, tt_ba, tt_za, tt_iS, tt_bS, tt_zS, tt_aa, tt_aS, tt_len, tt_and, tt_xor, tt_shr, tt_ushr, tt_lcmp, tt_i2b, tt_i2l, tt_l2i, tt_sw, swG, tt_ir, tt_zr, tt_br, tt_lr, tt_ar, tt_vr, tt_cV, tt_cS, tt_min, tt_max, tt_acp, pI, pII, pO, pA, pIA, pIIA, pOA, pOIA, pL, pLL, pLIA, pV, pCP, lI, lO, lL, nth, stL, clL, entA, fitL, rcv, List.take_succ_cons, List.take_zero, List.drop_succ_cons, List.drop_zero, List.reverse_cons, List.reverse_nil, List.nil_append, List.cons_append, List.length_cons, List.length_nil, Option.toList_some, Option.toList_none, gI_sI, gI_sA, gR_sI, gR_sA, gI_sR, gR_sR, hN_sI, hN_sA, hN_sR, isO_sI, isO_sA, isO_sR, isAr_sI, isAr_sA, isAr_sR, hC_sI, hC_sA, hC_sR, hZ_sI, hZ_sA, hZ_sR, MW_sI, MW_sA, true_and, and_true, true_or, or_true, and_self, forall_const, imp_self, implies_true, if_true, if_false, false_and, and_false, false_or, or_false, not_false_eq_true, not_true_eq_false, sI_sI, mr_tape w, mr_text w, mr_words w, mr_wordSize w, mr_subs w, mr_subSize w, mr_asked w, mr_pile w, mr_pileSize w, mr_opened w, mr_openedAt w, mr_begun w, mr_cells w, mr_keptCells w, mr_name w, mr_isLeft w, mr_isDone w, mr_keptLeft w, mr_keptDone w, mr_state w, mr_keptState w, mr_newOf w, mr_oldOf w, mr_spare w, mr_spareDone w, mr_out w, mr_metFrom w, mr_metBy w, mr_far w, mr_low w, mr_lows w, mr_lowSize w, mr_triedRow w, mr_triedColumn w, mr_triedValue w, mr_triedRows w, mr_sheet w, ma_tape w, ma_text w, ma_words w, ma_wordSize w, ma_subs w, ma_subSize w, ma_asked w, ma_pile w, ma_pileSize w, ma_opened w, ma_openedAt w, ma_begun w, ma_cells w, ma_keptCells w, ma_name w, ma_isLeft w, ma_isDone w, ma_keptLeft w, ma_keptDone w, ma_state w, ma_keptState w, ma_newOf w, ma_oldOf w, ma_spare w, ma_spareDone w, ma_out w, ma_metFrom w, ma_metBy w, ma_far w, ma_low w, ma_lows w, ma_lowSize w, ma_triedRow w, ma_triedColumn w, ma_triedValue w, ma_triedRows w, ma_sheet w, ml_tape, ml_text, ml_words, ml_wordSize, ml_subs, ml_subSize, ml_asked, ml_pile, ml_pileSize, ml_opened, ml_openedAt, ml_begun, ml_cells, ml_keptCells, ml_name, ml_isLeft, ml_isDone, ml_keptLeft, ml_keptDone, ml_state, ml_keptState, ml_newOf, ml_oldOf, ml_spare, ml_spareDone, ml_out, ml_metFrom, ml_metBy, ml_far, ml_low, ml_lows, ml_lowSize, ml_triedRow, ml_triedColumn, ml_triedValue, ml_triedRows, ml_sheet, mo_O w]
    rw [if_neg hwh]
    exact ⟨w, fun z => absurd rfl z, fun _ => ⟨w, hp0 hwh⟩⟩
  obtain ⟨L, Q, hX, hFU, hM, hp⟩ := hp hwh
  obtain ⟨x1, x2, x3, x4, x5, x6⟩ := id hX
  have sr := st_raw x3
  have hf := hFU (by rw [aS_atM (by decide) (by decide)]; exact hwh.2)
  obtain ⟨m1, m2, m3, m4⟩ := ms_all x3 hf
  obtain ⟨ms, hms⟩ : ∃ ms, ms = msA L (atM h) := ⟨_, rfl⟩
  rw [← hms] at m1 m2 m3 m4
  rw [aS_atM (by decide) (by decide)] at m3
  refine ⟨fun ls h' => ∃ (k : Int) (x3 : Option PV), ls = [some (.inr (.inl (some pMo))), some (.inl ms.length), some (.inl k), x3] ∧ 0 ≤ k ∧ k ≤ ms.length ∧ FrP PS h h' ∧ gI h' pMo 4 = 0 ∧ repB h' (gI h pMo_state 0) ms ∧ (∀ x c, 0 ≤ x → x < k → 0 ≤ c → c < 10 → gI h' pMo_spare (10 * x + c) = spv L (atM h) x c) ∧ (∀ x, 0 ≤ x → x < k → gI h' pMo_spareDone x = gI h pMo_isDone (wf ms x)),
    fun ls h' => ∃ (k c : Int), ls = [some (.inr (.inl (some pMo))), some (.inl ms.length), some (.inl k), some (.inl c)] ∧ 0 ≤ k ∧ k < ms.length ∧ 0 ≤ c ∧ c ≤ 10 ∧ FrP PS h h' ∧ gI h' pMo 4 = 0 ∧ repB h' (gI h pMo_state 0) ms ∧ (∀ x c, 0 ≤ x → x < k → 0 ≤ c → c < 10 → gI h' pMo_spare (10 * x + c) = spv L (atM h) x c) ∧ (∀ x, 0 ≤ x → x < k → gI h' pMo_spareDone x = gI h pMo_isDone (wf ms x)) ∧ (∀ d, 0 ≤ d → d < c → gI h' pMo_spare (10 * k + d) = spv L (atM h) k d),
    fun ls h' => ∃ (r : Int) (x3 : Option PV), ls = [some (.inr (.inl (some pMo))), some (.inl ms.length), some (.inl r), x3] ∧ 0 ≤ r ∧ r ≤ gI h pMo_state 0 ∧ FrP (fun b j => PS b j ∨ b = pMo_isLeft) h h' ∧ gI h' pMo 4 = 0 ∧ (∀ x c, 0 ≤ x → x < (ms.length : Int) → 0 ≤ c → c < 10 → gI h' pMo_spare (10 * x + c) = spv L (atM h) x c) ∧ (∀ x, 0 ≤ x → x < (ms.length : Int) → gI h' pMo_spareDone x = gI h pMo_isDone (wf ms x)) ∧ (∀ j, 0 ≤ j → j < r → gI h' pMo_isLeft j = if j < (ms.length : Int) then 1 else 0) ∧ (∀ j, ¬ (0 ≤ j ∧ j < r) → gI h' pMo_isLeft j = gI h pMo_isLeft j),
    fun ls h' => ∃ (k : Int) (x3 : Option PV), ls = [some (.inr (.inl (some pMo))), some (.inl ms.length), some (.inl k), x3] ∧ 0 ≤ k ∧ k ≤ 10 * ms.length ∧ FrP (fun b j => PS b j ∨ b = pMo_isLeft ∨ b = pMo_cells) h h' ∧ gI h' pMo 4 = 0 ∧ (∀ x c, 0 ≤ x → x < (ms.length : Int) → 0 ≤ c → c < 10 → gI h' pMo_spare (10 * x + c) = spv L (atM h) x c) ∧ (∀ x, 0 ≤ x → x < (ms.length : Int) → gI h' pMo_spareDone x = gI h pMo_isDone (wf ms x)) ∧ (∀ j, 0 ≤ j → j < (ms.length : Int) → gI h' pMo_isLeft j = 1) ∧ (∀ j, gI h' pMo_isLeft j = 0 ∨ gI h' pMo_isLeft j = 1) ∧ (∀ j, 0 ≤ j → j < k → gI h' pMo_cells j = gI h' pMo_spare j),
    fun ls h' => ∃ (k : Int) (x3 : Option PV), ls = [some (.inr (.inl (some pMo))), some (.inl ms.length), some (.inl k), x3] ∧ 0 ≤ k ∧ k ≤ ms.length ∧ FrP (fun b j => PS b j ∨ b = pMo_isLeft ∨ b = pMo_cells ∨ b = pMo_isDone) h h' ∧ gI h' pMo 4 = 0 ∧ (∀ x c, 0 ≤ x → x < (ms.length : Int) → 0 ≤ c → c < 10 → gI h' pMo_cells (10 * x + c) = spv L (atM h) x c) ∧ (∀ x, 0 ≤ x → x < (ms.length : Int) → gI h' pMo_spareDone x = gI h pMo_isDone (wf ms x)) ∧ (∀ j, 0 ≤ j → j < (ms.length : Int) → gI h' pMo_isLeft j = 1) ∧ (∀ j, gI h' pMo_isLeft j = 0 ∨ gI h' pMo_isLeft j = 1) ∧ (∀ j, 0 ≤ j → j < k → gI h' pMo_isDone j = gI h pMo_isDone (wf ms j)) ∧ (∀ j, gI h' pMo_isDone j = 0 ∨ gI h' pMo_isDone j = 1), mu, ?_, ?_, ?_, ?_, ?_, ?_⟩
  · rintro ls h' ⟨k, y3, rfl, k0, k1, hF, h4, hR, hs, hd⟩
    have w1 := FrP_MW hF w
    simp (decide := true) only [B_Mo_rename_0, B_Mo_rename_19, B_Mo_rename_47, B_Mo_rename_54, B_Mo_rename_104, B_Mo_rename_106, B_Mo_rename_113, B_Mo_rename_136, B_Mo_rename_138, B_Mo_rename_162, B_Mo_rename_163, B_Mo_rename_170, B_Mo_rename_172, B_Mo_rename_198, B_Mo_rename_200, B_Mo_rename_223, Ct_Mo_isWhole, Ct_Mo_not, Ct_Mo_meet, Ct_Mo_good, tt_ci, tt_cl, tt_nul, tt_il, tt_al, tt_ll, tt_is, tt_as, tt_ls, tt_inc, tt_add, tt_sub, tt_mul, tt_div, tt_rem, tt_ladd, tt_lmul, tt_ldiv, tt_lrem, tt_zeq, tt_zne, tt_zlt, tt_zge, tt_zgt, tt_zle, tt_ceq, tt_cne, tt_clt, tt_cge, tt_cgt, tt_cle, tt_nn, tt_cut, tt_pop, tt_dup, tt_dup2, tt_gI, tt_gR, tt_pI, tt_pZ, tt_pR, tt_ia, tt_ba, tt_za, tt_iS, tt_bS, tt_zS, tt_aa, tt_aS, tt_len, tt_and, tt_xor, tt_shr, tt_ushr, tt_lcmp, tt_i2b, tt_i2l, tt_l2i, tt_sw, swG, tt_ir, tt_zr, tt_br, tt_lr, tt_ar, tt_vr, tt_cV, tt_cS, tt_min, tt_max, tt_acp, pI, pII, pO, pA, pIA, pIIA, pOA, pOIA, pL, pLL, pLIA, pV, pCP, lI, lO, lL, nth, stL, clL, entA, fitL, rcv, List.take_succ_cons, List.take_zero, List.drop_succ_cons, List.drop_zero, List.reverse_cons, List.reverse_nil, List.nil_append, List.cons_append, List.length_cons, List.length_nil, Option.toList_some, Option.toList_none, gI_sI, gI_sA, gR_sI, gR_sA, gI_sR, gR_sR, hN_sI, hN_sA, hN_sR, isO_sI, isO_sA, isO_sR, isAr_sI, isAr_sA, isAr_sR, hC_sI, hC_sA, hC_sR, hZ_sI, hZ_sA, hZ_sR, MW_sI, MW_sA, true_and, and_true, true_or, or_true, and_self, forall_const, imp_self, implies_true, if_true, if_false, false_and, and_false, false_or, or_false, not_false_eq_true, not_true_eq_false, sI_sI, mr_tape w1, mr_text w1, mr_words w1, mr_wordSize w1, mr_subs w1, mr_subSize w1, mr_asked w1, mr_pile w1, mr_pileSize w1, mr_opened w1, mr_openedAt w1, mr_begun w1, mr_cells w1, mr_keptCells w1, mr_name w1, mr_isLeft w1, mr_isDone w1, mr_keptLeft w1, mr_keptDone w1, mr_state w1, mr_keptState w1, mr_newOf w1, mr_oldOf w1, mr_spare w1, mr_spareDone w1, mr_out w1, mr_metFrom w1, mr_metBy w1, mr_far w1, mr_low w1, mr_lows w1, mr_lowSize w1, mr_triedRow w1, mr_triedColumn w1, mr_triedValue w1, mr_triedRows w1, mr_sheet w1, ma_tape w1, ma_text w1, ma_words w1, ma_wordSize w1, ma_subs w1, ma_subSize w1, ma_asked w1, ma_pile w1, ma_pileSize w1, ma_opened w1, ma_openedAt w1, ma_begun w1, ma_cells w1, ma_keptCells w1, ma_name w1, ma_isLeft w1, ma_isDone w1, ma_keptLeft w1, ma_keptDone w1, ma_state w1, ma_keptState w1, ma_newOf w1, ma_oldOf w1, ma_spare w1, ma_spareDone w1, ma_out w1, ma_metFrom w1, ma_metBy w1, ma_far w1, ma_low w1, ma_lows w1, ma_lowSize w1, ma_triedRow w1, ma_triedColumn w1, ma_triedValue w1, ma_triedRows w1, ma_sheet w1, ml_tape, ml_text, ml_words, ml_wordSize, ml_subs, ml_subSize, ml_asked, ml_pile, ml_pileSize, ml_opened, ml_openedAt, ml_begun, ml_cells, ml_keptCells, ml_name, ml_isLeft, ml_isDone, ml_keptLeft, ml_keptDone, ml_state, ml_keptState, ml_newOf, ml_oldOf, ml_spare, ml_spareDone, ml_out, ml_metFrom, ml_metBy, ml_far, ml_low, ml_lows, ml_lowSize, ml_triedRow, ml_triedColumn, ml_triedValue, ml_triedRows, ml_sheet, mo_O w1]
    refine ⟨fun q => ?_, fun q => ⟨⟨k, 0, rfl, k0, by omega, by omega, by omega, hF, h4, hR, hs, hd, fun d d0 d1 => by omega⟩, ?_⟩⟩
    · have e : k = (ms.length : Int) := by omega
      subst e
      have el : gI h' pMo_isLeft = gI h pMo_isLeft := FrP_arr hF (fun j z => by unfold PS at z; simp (decide := true) at z)
      refine ⟨⟨0, y3, rfl, by omega, by omega, FrP_mono (fun b j z => Or.inl z) hF, h4, hs, hd, fun j j0 j1 => by omega, fun j _ => by rw [el]⟩, ?_⟩
      rw [hmu, muN_138, muN_47]
      simp only [locI, nth]
      omega
    · rw [hmu, muN_54, muN_47]
      simp only [locI, nth]
      omega
  · rintro ls h' ⟨k, c, rfl, k0, k1, c0, c1, hF, h4, hR, hs, hd, hc⟩
    have w1 := FrP_MW hF w
    have e0 : gI h' pMo 0 = gI h pMo 0 := hF.1 _ _ (by unfold PS; simp (decide := true))
    have ec : gI h' pMo_cells = gI h pMo_cells := FrP_arr hF (fun j z => by unfold PS at z; simp (decide := true) at z)
    have ed : gI h' pMo_isDone = gI h pMo_isDone := FrP_arr hF (fun j z => by unfold PS at z; simp (decide := true) at z)
    have hold : gI h' pMo_oldOf k = wf ms k := by
      have := hR.1 k.toNat (by omega)
      rw [show ((k.toNat : Nat) : Int) = k by omega] at this
      exact this
    have hkm : wf ms k ∈ ms := by
      have := wf_mem (u := ms) (i := k.toNat) (by omega)
      rw [show ((k.toNat : Nat) : Int) = k by omega] at this
      exact this
    have hkv := (m1 _).mp hkm
    have hkv' := VV_atM.mp hkv
    simp (decide := true) only [B_Mo_rename_0, B_Mo_rename_19, B_Mo_rename_47, B_Mo_rename_54, B_Mo_rename_104, B_Mo_rename_106, B_Mo_rename_113, B_Mo_rename_136, B_Mo_rename_138, B_Mo_rename_162, B_Mo_rename_163, B_Mo_rename_170, B_Mo_rename_172, B_Mo_rename_198, B_Mo_rename_200, B_Mo_rename_223, Ct_Mo_isWhole, Ct_Mo_not, Ct_Mo_meet, Ct_Mo_good, tt_ci, tt_cl, tt_nul, tt_il, tt_al, tt_ll, tt_is, tt_as, tt_ls, tt_inc, tt_add, tt_sub, tt_mul, tt_div, tt_rem, tt_ladd, tt_lmul, tt_ldiv, tt_lrem, tt_zeq, tt_zne, tt_zlt, tt_zge, tt_zgt, tt_zle, tt_ceq, tt_cne, tt_clt, tt_cge, tt_cgt, tt_cle, tt_nn, tt_cut, tt_pop, tt_dup, tt_dup2, tt_gI, tt_gR, tt_pI, tt_pZ, tt_pR, tt_ia, tt_ba, tt_za, tt_iS, tt_bS, tt_zS, tt_aa, tt_aS, tt_len, tt_and, tt_xor, tt_shr, tt_ushr, tt_lcmp, tt_i2b, tt_i2l, tt_l2i, tt_sw, swG, tt_ir, tt_zr, tt_br, tt_lr, tt_ar, tt_vr, tt_cV, tt_cS, tt_min, tt_max, tt_acp, pI, pII, pO, pA, pIA, pIIA, pOA, pOIA, pL, pLL, pLIA, pV, pCP, lI, lO, lL, nth, stL, clL, entA, fitL, rcv, List.take_succ_cons, List.take_zero, List.drop_succ_cons, List.drop_zero, List.reverse_cons, List.reverse_nil, List.nil_append, List.cons_append, List.length_cons, List.length_nil, Option.toList_some, Option.toList_none, gI_sI, gI_sA, gR_sI, gR_sA, gI_sR, gR_sR, hN_sI, hN_sA, hN_sR, isO_sI, isO_sA, isO_sR, isAr_sI, isAr_sA, isAr_sR, hC_sI, hC_sA, hC_sR, hZ_sI, hZ_sA, hZ_sR, MW_sI, MW_sA, true_and, and_true, true_or, or_true, and_self, forall_const, imp_self, implies_true, if_true, if_false, false_and, and_false, false_or, or_false, not_false_eq_true, not_true_eq_false, sI_sI, mr_tape w1, mr_text w1, mr_words w1, mr_wordSize w1, mr_subs w1, mr_subSize w1, mr_asked w1, mr_pile w1, mr_pileSize w1, mr_opened w1, mr_openedAt w1, mr_begun w1, mr_cells w1, mr_keptCells w1, mr_name w1, mr_isLeft w1, mr_isDone w1, mr_keptLeft w1, mr_keptDone w1, mr_state w1, mr_keptState w1, mr_newOf w1, mr_oldOf w1, mr_spare w1, mr_spareDone w1, mr_out w1, mr_metFrom w1, mr_metBy w1, mr_far w1, mr_low w1, mr_lows w1, mr_lowSize w1, mr_triedRow w1, mr_triedColumn w1, mr_triedValue w1, mr_triedRows w1, mr_sheet w1, ma_tape w1, ma_text w1, ma_words w1, ma_wordSize w1, ma_subs w1, ma_subSize w1, ma_asked w1, ma_pile w1, ma_pileSize w1, ma_opened w1, ma_openedAt w1, ma_begun w1, ma_cells w1, ma_keptCells w1, ma_name w1, ma_isLeft w1, ma_isDone w1, ma_keptLeft w1, ma_keptDone w1, ma_state w1, ma_keptState w1, ma_newOf w1, ma_oldOf w1, ma_spare w1, ma_spareDone w1, ma_out w1, ma_metFrom w1, ma_metBy w1, ma_far w1, ma_low w1, ma_lows w1, ma_lowSize w1, ma_triedRow w1, ma_triedColumn w1, ma_triedValue w1, ma_triedRows w1, ma_sheet w1, ml_tape, ml_text, ml_words, ml_wordSize, ml_subs, ml_subSize, ml_asked, ml_pile, ml_pileSize, ml_opened, ml_openedAt, ml_begun, ml_cells, ml_keptCells, ml_name, ml_isLeft, ml_isDone, ml_keptLeft, ml_keptDone, ml_state, ml_keptState, ml_newOf, ml_oldOf, ml_spare, ml_spareDone, ml_out, ml_metFrom, ml_metBy, ml_far, ml_low, ml_lows, ml_lowSize, ml_triedRow, ml_triedColumn, ml_triedValue, ml_triedRows, ml_sheet, mo_O w1, e0, ec, ed, hold]
    have repS : ∀ b j v, (b = pMo_spare ∨ b = pMo_spareDone) → repB (sI h' b j v) (gI h pMo_state 0) ms := by
      intro b j v hb
      have n1 : b ≠ pMo_oldOf := by rcases hb with rfl | rfl <;> decide
      have n2 : b ≠ pMo_newOf := by rcases hb with rfl | rfl <;> decide
      refine ⟨fun i hi => ?_, fun x x0 x1 => ?_⟩
      · rw [gI_sI, if_neg (fun z => n1 z.1.symm)]; exact hR.1 i hi
      · rw [gI_sI, if_neg (fun z => n2 z.1.symm)]; exact hR.2 x x0 x1
    have step : ∀ v, c < 10 → v = spv L (atM h) k c → (∃ (k_1 c_1 : Int), ([some (.inr (.inl (some pMo))), some (.inl ms.length), some (.inl k), some (.inl (c + 1))] : LSt) = [some (.inr (.inl (some pMo))), some (.inl ms.length), some (.inl k_1), some (.inl c_1)] ∧ 0 ≤ k_1 ∧ k_1 < ms.length ∧ 0 ≤ c_1 ∧ c_1 ≤ 10 ∧ FrP PS h (sI h' pMo_spare (10 * k + c) v) ∧ gI h' pMo 4 = 0 ∧ repB (sI h' pMo_spare (10 * k + c) v) (gI h pMo_state 0) ms ∧ (∀ x c_2, 0 ≤ x → x < k_1 → 0 ≤ c_2 → c_2 < 10 → (if 10 * x + c_2 = 10 * k + c then v else gI h' pMo_spare (10 * x + c_2)) = spv L (atM h) x c_2) ∧ (∀ x, 0 ≤ x → x < k_1 → gI h' pMo_spareDone x = gI h pMo_isDone (wf ms x)) ∧ ∀ d, 0 ≤ d → d < c_1 → (if 10 * k_1 + d = 10 * k + c then v else gI h' pMo_spare (10 * k_1 + d)) = spv L (atM h) k_1 d) ∧ mu 54 [some (.inr (.inl (some pMo))), some (.inl ms.length), some (.inl k), some (.inl (c + 1))] (sI h' pMo_spare (10 * k + c) v) < mu 54 [some (.inr (.inl (some pMo))), some (.inl ms.length), some (.inl k), some (.inl c)] h' := by
      intro v c9 hv
      refine ⟨⟨k, c + 1, rfl, k0, k1, by omega, by omega, FrP_sI (Or.inr (Or.inr (Or.inl rfl))) hF, h4, repS _ _ _ (Or.inl rfl), fun x d x0 x1 d0 d1 => ?_, hd, fun d d0 d1 => ?_⟩, ?_⟩
      · rw [if_neg (by omega)]; exact hs x d x0 x1 d0 d1
      · by_cases e : d = c
        · rw [e, if_pos rfl]; exact hv
        · rw [if_neg (by omega)]; exact hc d d0 (by omega)
      · rw [hmu, muN_54, muN_54]
        simp only [locI, nth]
        omega
    refine ⟨fun q => ⟨k0, by omega, hkv'.1, by omega, k0, by omega, (x6 _).2, ⟨by omega, by omega⟩, ⟨k + 1, _, rfl, by omega, by omega, FrP_sI (Or.inr (Or.inr (Or.inr (Or.inl rfl)))) hF, h4, repS _ _ _ (Or.inr rfl), fun x d x0 x1 d0 d1 => ?_, fun x x0 x1 => ?_⟩, ?_⟩, fun q => ⟨⟨by omega, by omega⟩, ⟨by omega, by omega⟩, ⟨by omega, by omega⟩, fun q2 => ⟨by omega, by omega, ⟨by omega, by omega⟩, step _ (by omega) (by unfold spv; rw [if_neg (by omega)])⟩, fun q2 => ?_⟩⟩
    · by_cases e : x = k
      · rw [e]; exact hc d d0 (by omega)
      · exact hs x d x0 (by omega) d0 d1
    · by_cases e : x = k
      · rw [e, if_pos rfl]
      · rw [if_neg e]; exact hd x x0 (by omega)
    · rw [hmu, muN_47, muN_54]
      simp only [locI, nth]
      omega
    · have hc' : c < L := by omega
      have eE := aE_atM hkv c0 (by omega : c < 10)
      have g := ((x3.1.2.2 _ c hkv c0 hc').resolve_left (hf _ c hkv c0 hc')).1
      rw [← eE]
      have g' := VV_atM.mp g
      refine ⟨k0, by omega, ⟨by omega, by omega⟩, ⟨by omega, by omega⟩, by omega, by omega, g'.1, by omega, by omega, by omega, ⟨by omega, by omega⟩, step _ (by omega) ?_⟩
      have := hR.2 _ g'.1 g'.2.1
      rw [if_pos ((m1 _).mpr g)] at this
      rw [this]
      unfold spv
      rw [if_pos hc', ← hms]
  · rintro ls h' ⟨r, y3, rfl, r0, r1, hF, h4, hs, hd, hl, hl2⟩
    have w1 := FrP_MW hF w
    have es : gI h' pMo_state = gI h pMo_state := FrP_arr hF (fun j z => by unfold PS at z; simp (decide := true) at z)
    simp (decide := true) only [B_Mo_rename_0, B_Mo_rename_19, B_Mo_rename_47, B_Mo_rename_54, B_Mo_rename_104, B_Mo_rename_106, B_Mo_rename_113, B_Mo_rename_136, B_Mo_rename_138, B_Mo_rename_162, B_Mo_rename_163, B_Mo_rename_170, B_Mo_rename_172, B_Mo_rename_198, B_Mo_rename_200, B_Mo_rename_223, Ct_Mo_isWhole, Ct_Mo_not, Ct_Mo_meet, Ct_Mo_good, tt_ci, tt_cl, tt_nul, tt_il, tt_al, tt_ll, tt_is, tt_as, tt_ls, tt_inc, tt_add, tt_sub, tt_mul, tt_div, tt_rem, tt_ladd, tt_lmul, tt_ldiv, tt_lrem, tt_zeq, tt_zne, tt_zlt, tt_zge, tt_zgt, tt_zle, tt_ceq, tt_cne, tt_clt, tt_cge, tt_cgt, tt_cle, tt_nn, tt_cut, tt_pop, tt_dup, tt_dup2, tt_gI, tt_gR, tt_pI, tt_pZ, tt_pR, tt_ia, tt_ba, tt_za, tt_iS, tt_bS, tt_zS, tt_aa, tt_aS, tt_len, tt_and, tt_xor, tt_shr, tt_ushr, tt_lcmp, tt_i2b, tt_i2l, tt_l2i, tt_sw, swG, tt_ir, tt_zr, tt_br, tt_lr, tt_ar, tt_vr, tt_cV, tt_cS, tt_min, tt_max, tt_acp, pI, pII, pO, pA, pIA, pIIA, pOA, pOIA, pL, pLL, pLIA, pV, pCP, lI, lO, lL, nth, stL, clL, entA, fitL, rcv, List.take_succ_cons, List.take_zero, List.drop_succ_cons, List.drop_zero, List.reverse_cons, List.reverse_nil, List.nil_append, List.cons_append, List.length_cons, List.length_nil, Option.toList_some, Option.toList_none, gI_sI, gI_sA, gR_sI, gR_sA, gI_sR, gR_sR, hN_sI, hN_sA, hN_sR, isO_sI, isO_sA, isO_sR, isAr_sI, isAr_sA, isAr_sR, hC_sI, hC_sA, hC_sR, hZ_sI, hZ_sA, hZ_sR, MW_sI, MW_sA, true_and, and_true, true_or, or_true, and_self, forall_const, imp_self, implies_true, if_true, if_false, false_and, and_false, false_or, or_false, not_false_eq_true, not_true_eq_false, sI_sI, mr_tape w1, mr_text w1, mr_words w1, mr_wordSize w1, mr_subs w1, mr_subSize w1, mr_asked w1, mr_pile w1, mr_pileSize w1, mr_opened w1, mr_openedAt w1, mr_begun w1, mr_cells w1, mr_keptCells w1, mr_name w1, mr_isLeft w1, mr_isDone w1, mr_keptLeft w1, mr_keptDone w1, mr_state w1, mr_keptState w1, mr_newOf w1, mr_oldOf w1, mr_spare w1, mr_spareDone w1, mr_out w1, mr_metFrom w1, mr_metBy w1, mr_far w1, mr_low w1, mr_lows w1, mr_lowSize w1, mr_triedRow w1, mr_triedColumn w1, mr_triedValue w1, mr_triedRows w1, mr_sheet w1, ma_tape w1, ma_text w1, ma_words w1, ma_wordSize w1, ma_subs w1, ma_subSize w1, ma_asked w1, ma_pile w1, ma_pileSize w1, ma_opened w1, ma_openedAt w1, ma_begun w1, ma_cells w1, ma_keptCells w1, ma_name w1, ma_isLeft w1, ma_isDone w1, ma_keptLeft w1, ma_keptDone w1, ma_state w1, ma_keptState w1, ma_newOf w1, ma_oldOf w1, ma_spare w1, ma_spareDone w1, ma_out w1, ma_metFrom w1, ma_metBy w1, ma_far w1, ma_low w1, ma_lows w1, ma_lowSize w1, ma_triedRow w1, ma_triedColumn w1, ma_triedValue w1, ma_triedRows w1, ma_sheet w1, ml_tape, ml_text, ml_words, ml_wordSize, ml_subs, ml_subSize, ml_asked, ml_pile, ml_pileSize, ml_opened, ml_openedAt, ml_begun, ml_cells, ml_keptCells, ml_name, ml_isLeft, ml_isDone, ml_keptLeft, ml_keptDone, ml_state, ml_keptState, ml_newOf, ml_oldOf, ml_spare, ml_spareDone, ml_out, ml_metFrom, ml_metBy, ml_far, ml_low, ml_lows, ml_lowSize, ml_triedRow, ml_triedColumn, ml_triedValue, ml_triedRows, ml_sheet, mo_O w1, es]
    refine ⟨fun q => ⟨⟨0, y3, rfl, by omega, by omega, FrP_mono (fun b j z => z.imp id Or.inl) hF, h4, hs, hd, fun j j0 j1 => ?_, fun j => ?_, fun j j0 j1 => by omega⟩, ?_⟩, fun q => ⟨fun q2 => ⟨by omega, by omega, ⟨by omega, by omega⟩, ⟨r + 1, y3, rfl, by omega, by omega, FrP_sI (Or.inr rfl) hF, h4, hs, hd, fun j j0 j1 => ?_, fun j hj => ?_⟩, ?_⟩, fun q2 => ⟨by omega, by omega, ⟨by omega, by omega⟩, ⟨r + 1, y3, rfl, by omega, by omega, FrP_sI (Or.inr rfl) hF, h4, hs, hd, fun j j0 j1 => ?_, fun j hj => ?_⟩, ?_⟩⟩⟩
    · rw [hl j j0 (by omega), if_pos j1]
    · by_cases z : 0 ≤ j ∧ j < r
      · rw [hl j z.1 z.2]
        split
        · exact Or.inr rfl
        · exact Or.inl rfl
      · rw [hl2 j z]; exact (x6 j).1
    · rw [hmu, muN_172, muN_138]
      simp only [locI, nth]
      omega
    · split
      · rename_i e; rw [if_neg (by omega)]
      · exact hl j j0 (by omega)
    · rw [if_neg (by omega)]; exact hl2 j (by omega)
    · rw [hmu, muN_138, muN_138]
      simp only [locI, nth]
      omega
    · split
      · rename_i e; rw [if_pos (by omega)]
      · exact hl j j0 (by omega)
    · rw [if_neg (by omega)]; exact hl2 j (by omega)
    · rw [hmu, muN_138, muN_138]
      simp only [locI, nth]
      omega
  · rintro ls h' ⟨k, y3, rfl, k0, k1, hF, h4, hs, hd, hl, hl2, hc⟩
    have w1 := FrP_MW hF w
    simp (decide := true) only [B_Mo_rename_0, B_Mo_rename_19, B_Mo_rename_47, B_Mo_rename_54, B_Mo_rename_104, B_Mo_rename_106, B_Mo_rename_113, B_Mo_rename_136, B_Mo_rename_138, B_Mo_rename_162, B_Mo_rename_163, B_Mo_rename_170, B_Mo_rename_172, B_Mo_rename_198, B_Mo_rename_200, B_Mo_rename_223, Ct_Mo_isWhole, Ct_Mo_not, Ct_Mo_meet, Ct_Mo_good, tt_ci, tt_cl, tt_nul, tt_il, tt_al, tt_ll, tt_is, tt_as, tt_ls, tt_inc, tt_add, tt_sub, tt_mul, tt_div, tt_rem, tt_ladd, tt_lmul, tt_ldiv, tt_lrem, tt_zeq, tt_zne, tt_zlt, tt_zge, tt_zgt, tt_zle, tt_ceq, tt_cne, tt_clt, tt_cge, tt_cgt, tt_cle, tt_nn, tt_cut, tt_pop, tt_dup, tt_dup2, tt_gI, tt_gR, tt_pI, tt_pZ, tt_pR, tt_ia, tt_ba, tt_za, tt_iS, tt_bS, tt_zS, tt_aa, tt_aS, tt_len, tt_and, tt_xor, tt_shr, tt_ushr, tt_lcmp, tt_i2b, tt_i2l, tt_l2i, tt_sw, swG, tt_ir, tt_zr, tt_br, tt_lr, tt_ar, tt_vr, tt_cV, tt_cS, tt_min, tt_max, tt_acp, pI, pII, pO, pA, pIA, pIIA, pOA, pOIA, pL, pLL, pLIA, pV, pCP, lI, lO, lL, nth, stL, clL, entA, fitL, rcv, List.take_succ_cons, List.take_zero, List.drop_succ_cons, List.drop_zero, List.reverse_cons, List.reverse_nil, List.nil_append, List.cons_append, List.length_cons, List.length_nil, Option.toList_some, Option.toList_none, gI_sI, gI_sA, gR_sI, gR_sA, gI_sR, gR_sR, hN_sI, hN_sA, hN_sR, isO_sI, isO_sA, isO_sR, isAr_sI, isAr_sA, isAr_sR, hC_sI, hC_sA, hC_sR, hZ_sI, hZ_sA, hZ_sR, MW_sI, MW_sA, true_and, and_true, true_or, or_true, and_self, forall_const, imp_self, implies_true, if_true, if_false, false_and, and_false, false_or, or_false, not_false_eq_true, not_true_eq_false, sI_sI, mr_tape w1, mr_text w1, mr_words w1, mr_wordSize w1, mr_subs w1, mr_subSize w1, mr_asked w1, mr_pile w1, mr_pileSize w1, mr_opened w1, mr_openedAt w1, mr_begun w1, mr_cells w1, mr_keptCells w1, mr_name w1, mr_isLeft w1, mr_isDone w1, mr_keptLeft w1, mr_keptDone w1, mr_state w1, mr_keptState w1, mr_newOf w1, mr_oldOf w1, mr_spare w1, mr_spareDone w1, mr_out w1, mr_metFrom w1, mr_metBy w1, mr_far w1, mr_low w1, mr_lows w1, mr_lowSize w1, mr_triedRow w1, mr_triedColumn w1, mr_triedValue w1, mr_triedRows w1, mr_sheet w1, ma_tape w1, ma_text w1, ma_words w1, ma_wordSize w1, ma_subs w1, ma_subSize w1, ma_asked w1, ma_pile w1, ma_pileSize w1, ma_opened w1, ma_openedAt w1, ma_begun w1, ma_cells w1, ma_keptCells w1, ma_name w1, ma_isLeft w1, ma_isDone w1, ma_keptLeft w1, ma_keptDone w1, ma_state w1, ma_keptState w1, ma_newOf w1, ma_oldOf w1, ma_spare w1, ma_spareDone w1, ma_out w1, ma_metFrom w1, ma_metBy w1, ma_far w1, ma_low w1, ma_lows w1, ma_lowSize w1, ma_triedRow w1, ma_triedColumn w1, ma_triedValue w1, ma_triedRows w1, ma_sheet w1, ml_tape, ml_text, ml_words, ml_wordSize, ml_subs, ml_subSize, ml_asked, ml_pile, ml_pileSize, ml_opened, ml_openedAt, ml_begun, ml_cells, ml_keptCells, ml_name, ml_isLeft, ml_isDone, ml_keptLeft, ml_keptDone, ml_state, ml_keptState, ml_newOf, ml_oldOf, ml_spare, ml_spareDone, ml_out, ml_metFrom, ml_metBy, ml_far, ml_low, ml_lows, ml_lowSize, ml_triedRow, ml_triedColumn, ml_triedValue, ml_triedRows, ml_sheet, mo_O w1]
    refine ⟨⟨by omega, by omega⟩, fun q => ⟨⟨0, y3, rfl, by omega, by omega, FrP_mono (fun b j z => z.imp id (fun z => z.imp id Or.inl)) hF, h4, fun x c x0 x1 c0 c1 => ?_, hd, hl, hl2, fun j j0 j1 => by omega, fun j => ?_⟩, ?_⟩, fun q => ⟨by omega, by omega, by omega, by omega, ⟨by omega, by omega⟩, ⟨k + 1, y3, rfl, by omega, by omega, FrP_sI (Or.inr (Or.inr rfl)) hF, h4, hs, hd, hl, hl2, fun j j0 j1 => ?_⟩, ?_⟩⟩
    · rw [hc _ (by omega) (by omega)]; exact hs x c x0 x1 c0 c1
    · have ed : gI h' pMo_isDone = gI h pMo_isDone := FrP_arr hF (fun j z => by unfold PS at z; simp (decide := true) at z)
      rw [ed]; exact (x6 j).2
    · rw [hmu, muN_200, muN_172]
      simp only [locI, nth]
      omega
    · split
      · rename_i e; rw [e]
      · exact hc j j0 (by omega)
    · rw [hmu, muN_172, muN_172]
      simp only [locI, nth]
      omega
  · rintro ls h' ⟨k, y3, rfl, k0, k1, hF, h4, hc, hd, hl, hl2, hd2, hd3⟩
    have w1 := FrP_MW hF w
    simp (decide := true) only [B_Mo_rename_0, B_Mo_rename_19, B_Mo_rename_47, B_Mo_rename_54, B_Mo_rename_104, B_Mo_rename_106, B_Mo_rename_113, B_Mo_rename_136, B_Mo_rename_138, B_Mo_rename_162, B_Mo_rename_163, B_Mo_rename_170, B_Mo_rename_172, B_Mo_rename_198, B_Mo_rename_200, B_Mo_rename_223, Ct_Mo_isWhole, Ct_Mo_not, Ct_Mo_meet, Ct_Mo_good, tt_ci, tt_cl, tt_nul, tt_il, tt_al, tt_ll, tt_is, tt_as, tt_ls, tt_inc, tt_add, tt_sub, tt_mul, tt_div, tt_rem, tt_ladd, tt_lmul, tt_ldiv, tt_lrem, tt_zeq, tt_zne, tt_zlt, tt_zge, tt_zgt, tt_zle, tt_ceq, tt_cne, tt_clt, tt_cge, tt_cgt, tt_cle, tt_nn, tt_cut, tt_pop, tt_dup, tt_dup2, tt_gI, tt_gR, tt_pI, tt_pZ, tt_pR, tt_ia, tt_ba, tt_za, tt_iS, tt_bS, tt_zS, tt_aa, tt_aS, tt_len, tt_and, tt_xor, tt_shr, tt_ushr, tt_lcmp, tt_i2b, tt_i2l, tt_l2i, tt_sw, swG, tt_ir, tt_zr, tt_br, tt_lr, tt_ar, tt_vr, tt_cV, tt_cS, tt_min, tt_max, tt_acp, pI, pII, pO, pA, pIA, pIIA, pOA, pOIA, pL, pLL, pLIA, pV, pCP, lI, lO, lL, nth, stL, clL, entA, fitL, rcv, List.take_succ_cons, List.take_zero, List.drop_succ_cons, List.drop_zero, List.reverse_cons, List.reverse_nil, List.nil_append, List.cons_append, List.length_cons, List.length_nil, Option.toList_some, Option.toList_none, gI_sI, gI_sA, gR_sI, gR_sA, gI_sR, gR_sR, hN_sI, hN_sA, hN_sR, isO_sI, isO_sA, isO_sR, isAr_sI, isAr_sA, isAr_sR, hC_sI, hC_sA, hC_sR, hZ_sI, hZ_sA, hZ_sR, MW_sI, MW_sA, true_and, and_true, true_or, or_true, and_self, forall_const, imp_self, implies_true, if_true, if_false, false_and, and_false, false_or, or_false, not_false_eq_true, not_true_eq_false, sI_sI, mr_tape w1, mr_text w1, mr_words w1, mr_wordSize w1, mr_subs w1, mr_subSize w1, mr_asked w1, mr_pile w1, mr_pileSize w1, mr_opened w1, mr_openedAt w1, mr_begun w1, mr_cells w1, mr_keptCells w1, mr_name w1, mr_isLeft w1, mr_isDone w1, mr_keptLeft w1, mr_keptDone w1, mr_state w1, mr_keptState w1, mr_newOf w1, mr_oldOf w1, mr_spare w1, mr_spareDone w1, mr_out w1, mr_metFrom w1, mr_metBy w1, mr_far w1, mr_low w1, mr_lows w1, mr_lowSize w1, mr_triedRow w1, mr_triedColumn w1, mr_triedValue w1, mr_triedRows w1, mr_sheet w1, ma_tape w1, ma_text w1, ma_words w1, ma_wordSize w1, ma_subs w1, ma_subSize w1, ma_asked w1, ma_pile w1, ma_pileSize w1, ma_opened w1, ma_openedAt w1, ma_begun w1, ma_cells w1, ma_keptCells w1, ma_name w1, ma_isLeft w1, ma_isDone w1, ma_keptLeft w1, ma_keptDone w1, ma_state w1, ma_keptState w1, ma_newOf w1, ma_oldOf w1, ma_spare w1, ma_spareDone w1, ma_out w1, ma_metFrom w1, ma_metBy w1, ma_far w1, ma_low w1, ma_lows w1, ma_lowSize w1, ma_triedRow w1, ma_triedColumn w1, ma_triedValue w1, ma_triedRows w1, ma_sheet w1, ml_tape, ml_text, ml_words, ml_wordSize, ml_subs, ml_subSize, ml_asked, ml_pile, ml_pileSize, ml_opened, ml_openedAt, ml_begun, ml_cells, ml_keptCells, ml_name, ml_isLeft, ml_isDone, ml_keptLeft, ml_keptDone, ml_state, ml_keptState, ml_newOf, ml_oldOf, ml_spare, ml_spareDone, ml_out, ml_metFrom, ml_metBy, ml_far, ml_low, ml_lows, ml_lowSize, ml_triedRow, ml_triedColumn, ml_triedValue, ml_triedRows, ml_sheet, mo_O w1]
    have hkd : k < ms.length → gI h' pMo_spareDone k = 0 ∨ gI h' pMo_spareDone k = 1 := fun z => by rw [hd k k0 z]; exact (x6 _).2
    refine ⟨fun q => ⟨w1, hp _ ?_ ?_ ?_ ?_, hF.2.2.2.1, hF.2.2.2.2⟩, fun q => ⟨k0, by omega, k0, by omega, hkd (by omega), ⟨by omega, by omega⟩, ⟨k + 1, y3, rfl, by omega, by omega, FrP_sI (Or.inr (Or.inr (Or.inr rfl))) hF, h4, hc, hd, hl, hl2, fun j j0 j1 => ?_, fun j => ?_⟩, ?_⟩⟩
    · refine FrP_sI (Or.inr (Or.inl ⟨rfl, by omega, by omega⟩)) (FrP_sI (Or.inr (Or.inl ⟨rfl, by omega, by omega⟩)) (FrP_sI (Or.inl (Or.inr (Or.inr (Or.inr (Or.inl rfl))))) (FrP_sI (Or.inl (Or.inr (Or.inr (Or.inr (Or.inl rfl))))) (FrP_mono (fun b j z => ?_) hF))))
      rcases z with z | z | z | z
      · exact PS_PR z
      · exact Or.inl (Or.inr (Or.inl z))
      · exact Or.inl (Or.inl z)
      · exact Or.inl (Or.inr (Or.inr (Or.inl z)))
    · unfold gdH
      simp (decide := true) only [gI_sI, if_true, if_false, h4, and_self]
    · have ek : k = (ms.length : Int) := by omega
      subst ek
      rw [atM_sI (by decide), atM_sI (by decide)]
      have em : gI h' pMo 39 = gI h pMo 39 := hF.1 _ _ (by unfold PS; simp (decide := true))
      have es : gI h' pMo_state = gI h pMo_state := FrP_arr hF (fun j z => by unfold PS at z; simp (decide := true) at z)
      have s0 : gI (sI (sI h' pMo_state 0 ms.length) pMo_state 10 0) pMo_state 0 = ms.length := by simp (decide := true) only [gI_sI, if_false, if_true, and_false]
      have sb : ∀ b, b ≠ pMo_state → gI (sI (sI h' pMo_state 0 ms.length) pMo_state 10 0) b = gI h' b := by
        intro b hb
        funext j
        rw [gI_sI, if_neg (fun z => hb z.1), gI_sI, if_neg (fun z => hb z.1)]
      have t1 : cV ms.length (gI h' pMo_isLeft) = aV (rnA L (atM h)) := by
        funext x
        show (if 0 ≤ x ∧ x < (ms.length : Int) ∧ gI h' pMo_isLeft x ≠ 0 then (1 : Int) else 0) = if 0 ≤ x ∧ x < ((msA L (atM h)).length : Int) then 1 else 0
        rw [← hms]
        by_cases z : 0 ≤ x ∧ x < (ms.length : Int)
        · rw [if_pos z, if_pos ⟨z.1, z.2, by rw [hl x z.1 z.2]; decide⟩]
        · rw [if_neg z, if_neg (fun y => z ⟨y.1, y.2.1⟩)]
      have v1 : ∀ x, aV (rnA L (atM h)) x ≠ 0 ↔ 0 ≤ x ∧ x < (ms.length : Int) := fun x => by rw [show (aV (rnA L (atM h)) x ≠ 0) = VV (rnA L (atM h)) x from rfl, VV_rn, ← hms]
      have t2 : kE 10 (aV (rnA L (atM h))) (c2 (gI h' pMo_cells)) = aE (rnA L (atM h)) := by
        funext x c
        show (if aV (rnA L (atM h)) x ≠ 0 ∧ 0 ≤ c ∧ c < 10 then gI h' pMo_cells (10 * x + c) else -2) = if (0 ≤ x ∧ x < ((msA L (atM h)).length : Int)) ∧ 0 ≤ c ∧ c < L then (ixF (msA L (atM h)) (aE (atM h) (wf (msA L (atM h)) x) c) : Int) else -2
        rw [← hms]
        by_cases z : (0 ≤ x ∧ x < (ms.length : Int)) ∧ 0 ≤ c ∧ c < 10
        · rw [if_pos ⟨(v1 x).mpr z.1, z.2⟩, hc x c z.1.1 z.1.2 z.2.1 z.2.2]
          unfold spv
          rw [← hms]
          by_cases y : c < L
          · rw [if_pos y, if_pos ⟨z.1, z.2.1, y⟩]
          · rw [if_neg y, if_neg (fun t => y t.2.2)]
        · rw [if_neg (fun t => z ⟨(v1 x).mp t.1, t.2⟩), if_neg (fun t => z ⟨t.1, t.2.1, by omega⟩)]
      have t3 : cD (aV (rnA L (atM h))) (gI h' pMo_isDone) = aD (rnA L (atM h)) := by
        funext x
        show (if aV (rnA L (atM h)) x ≠ 0 ∧ gI h' pMo_isDone x ≠ 0 then (1 : Int) else 0) = if (0 ≤ x ∧ x < ((msA L (atM h)).length : Int)) ∧ aD (atM h) (wf (msA L (atM h)) x) ≠ 0 then 1 else 0
        rw [← hms]
        by_cases z : 0 ≤ x ∧ x < (ms.length : Int)
        · have hv : VV (atM h) (wf ms x) := by
            have := wf_mem (u := ms) (i := x.toNat) (by omega)
            rw [show ((x.toNat : Nat) : Int) = x by omega] at this
            exact (m1 _).mp this
          have e1 := aD_atM hv
          rw [hd2 x z.1 z.2]
          by_cases y : gI h pMo_isDone (wf ms x) ≠ 0
          · rw [if_pos ⟨(v1 x).mpr z, y⟩, if_pos ⟨z, e1.mpr y⟩]
          · rw [if_neg (fun t => y t.2), if_neg (fun t => y (e1.mp t.2))]
        · rw [if_neg (fun y => z ((v1 x).mp y.1)), if_neg (fun y => z y.1)]
      have t4 : cS (gI (sI (sI h' pMo_state 0 ms.length) pMo_state 10 0) pMo_state) = aS (rnA L (atM h)) := by
        funext j
        show _ = if j = 0 then ((msA L (atM h)).length : Int) else if j = 10 then 0 else aS (atM h) j
        rw [← hms]
        unfold cS
        by_cases z : 0 ≤ j ∧ j < 11
        · rw [if_pos z, aS_atM z.1 z.2]
          simp (decide := true) only [gI_sI, if_false, false_and, true_and]
          rw [es]
          by_cases j0 : j = 0
          · subst j0; simp (decide := true) only [if_true, if_false]
          · by_cases j10 : j = 10
            · subst j10; simp (decide := true) only [if_true, if_false]
            · simp only [j0, j10, if_false]
        · rw [if_neg z, if_neg (by omega), if_neg (by omega)]
          exact (if_neg z : cS _ j = 0).symm
      unfold atM mkA
      rw [s0, sb pMo_isLeft (by decide), sb pMo_cells (by decide), sb pMo_isDone (by decide), sb pMo (by decide), t4, em]
      rw [t1]
      rw [t2, t3]
      rfl
    · intro j
      simp (decide := true) only [gI_sI, if_false, false_and]
      exact ⟨hl2 j, hd3 j⟩
    · split
      · rename_i e; rw [e]; exact hd k k0 (by omega)
      · exact hd2 j j0 (by omega)
    · split
      · exact hkd (by omega)
      · exact hd3 j
    · rw [hmu, muN_200, muN_200]
      simp only [locI, nth]
      omega
  · simp (decide := true) only [B_Mo_rename_0, B_Mo_rename_19, B_Mo_rename_47, B_Mo_rename_54, B_Mo_rename_104, B_Mo_rename_106, B_Mo_rename_113, B_Mo_rename_136, B_Mo_rename_138, B_Mo_rename_162, B_Mo_rename_163, B_Mo_rename_170, B_Mo_rename_172, B_Mo_rename_198, B_Mo_rename_200, B_Mo_rename_223, Ct_Mo_isWhole, Ct_Mo_not, Ct_Mo_meet, Ct_Mo_good, tt_ci, tt_cl, tt_nul, tt_il, tt_al, tt_ll, tt_is, tt_as, tt_ls, tt_inc, tt_add, tt_sub, tt_mul, tt_div, tt_rem, tt_ladd, tt_lmul, tt_ldiv, tt_lrem, tt_zeq, tt_zne, tt_zlt, tt_zge, tt_zgt, tt_zle, tt_ceq, tt_cne, tt_clt, tt_cge, tt_cgt, tt_cle, tt_nn, tt_cut, tt_pop, tt_dup, tt_dup2, tt_gI, tt_gR, tt_pI, tt_pZ, tt_pR, tt_ia, tt_ba, tt_za, tt_iS, tt_bS, tt_zS, tt_aa, tt_aS, tt_len, tt_and, tt_xor, tt_shr, tt_ushr, tt_lcmp, tt_i2b, tt_i2l, tt_l2i, tt_sw, swG, tt_ir, tt_zr, tt_br, tt_lr, tt_ar, tt_vr, tt_cV, tt_cS, tt_min, tt_max, tt_acp, pI, pII, pO, pA, pIA, pIIA, pOA, pOIA, pL, pLL, pLIA, pV, pCP, lI, lO, lL, nth, stL, clL, entA, fitL, rcv, List.take_succ_cons, List.take_zero, List.drop_succ_cons, List.drop_zero, List.reverse_cons, List.reverse_nil, List.nil_append, List.cons_append, List.length_cons, List.length_nil, Option.toList_some, Option.toList_none, gI_sI, gI_sA, gR_sI, gR_sA, gI_sR, gR_sR, hN_sI, hN_sA, hN_sR, isO_sI, isO_sA, isO_sR, isAr_sI, isAr_sA, isAr_sR, hC_sI, hC_sA, hC_sR, hZ_sI, hZ_sA, hZ_sR, MW_sI, MW_sA, true_and, and_true, true_or, or_true, and_self, forall_const, imp_self, implies_true, if_true, if_false, false_and, and_false, false_or, or_false, not_false_eq_true, not_true_eq_false, sI_sI, mr_tape w, mr_text w, mr_words w, mr_wordSize w, mr_subs w, mr_subSize w, mr_asked w, mr_pile w, mr_pileSize w, mr_opened w, mr_openedAt w, mr_begun w, mr_cells w, mr_keptCells w, mr_name w, mr_isLeft w, mr_isDone w, mr_keptLeft w, mr_keptDone w, mr_state w, mr_keptState w, mr_newOf w, mr_oldOf w, mr_spare w, mr_spareDone w, mr_out w, mr_metFrom w, mr_metBy w, mr_far w, mr_low w, mr_lows w, mr_lowSize w, mr_triedRow w, mr_triedColumn w, mr_triedValue w, mr_triedRows w, mr_sheet w, ma_tape w, ma_text w, ma_words w, ma_wordSize w, ma_subs w, ma_subSize w, ma_asked w, ma_pile w, ma_pileSize w, ma_opened w, ma_openedAt w, ma_begun w, ma_cells w, ma_keptCells w, ma_name w, ma_isLeft w, ma_isDone w, ma_keptLeft w, ma_keptDone w, ma_state w, ma_keptState w, ma_newOf w, ma_oldOf w, ma_spare w, ma_spareDone w, ma_out w, ma_metFrom w, ma_metBy w, ma_far w, ma_low w, ma_lows w, ma_lowSize w, ma_triedRow w, ma_triedColumn w, ma_triedValue w, ma_triedRows w, ma_sheet w, ml_tape, ml_text, ml_words, ml_wordSize, ml_subs, ml_subSize, ml_asked, ml_pile, ml_pileSize, ml_opened, ml_openedAt, ml_begun, ml_cells, ml_keptCells, ml_name, ml_isLeft, ml_isDone, ml_keptLeft, ml_keptDone, ml_state, ml_keptState, ml_newOf, ml_oldOf, ml_spare, ml_spareDone, ml_out, ml_metFrom, ml_metBy, ml_far, ml_low, ml_lows, ml_lowSize, ml_triedRow, ml_triedColumn, ml_triedValue, ml_triedRows, ml_sheet, mo_O w]
    rw [if_pos hwh]
    refine ⟨w, fun _ => ⟨⟨by omega, by omega⟩, w, L.toNat, VV (atM h), aE (atM h), by omega, by omega, by omega, by omega, x3.1.1, fun r hr => ?_, fun k => all_len x3 hf k x3.1.1, fun h1 f1 f2 => ?_⟩, fun z => absurd z (by decide)⟩
    · have hr' := VV_atM.mp hr
      exact ⟨hr'.1, hr'.2.1, by omega, fun c hc => ⟨aE_atM hr (by omega) (by omega), full_P x3 hf r hr c hc⟩⟩
    · have e : (bfA (aE (atM h)) L.toNat 0).1 = ms := hms.symm
      rw [e] at f2 ⊢
      refine ⟨0, none, rfl, by omega, by omega, ?_, ?_, f2, fun x c x0 x1 => by omega, fun x x0 x1 => by omega⟩
      · refine FrP_trans (FrP_sI (Or.inr (Or.inr (Or.inr (Or.inr ⟨rfl, Or.inl rfl⟩)))) (FrP_sI (Or.inr (Or.inr (Or.inr (Or.inr ⟨rfl, Or.inr rfl⟩)))) (FrP_refl _ h))) (FrP_mono (fun b j z => ?_) f1)
        rcases z with z | z
        · exact Or.inl z
        · exact Or.inr (Or.inl z)
      · rw [f1.1 pMo 4 (by unfold Pm; simp (decide := true))]
        simp (decide := true) only [gI_sI, if_true, if_false]
