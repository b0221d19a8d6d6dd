/-! THE MODEL'S fillRow -/
def Ct_Mo_fillRow : CtT := fun av h post => match av with
  | [.inr (.inl (some t))] => t = pMo ∧ MW h ∧ ∃ (L Q : Int), TX L Q h ∧ ∀ h', Fr h h' → atM h' = (frA L (wM h) (uM h) (atM h)).1 → TX L Q h' → post (some (.inl (frA L (wM h) (uM h) (atM h)).2)) h'
  | _ => False
def B_Mo_fillRow_219 : TT := (tt_ci 1 tt_zr)
theorem S_Mo_fillRow_219 (lc lz : Nat) : Snd md_Mo_fillRow lc lz 219 (B_Mo_fillRow_219) := (snd_iconst (n := 1) (dget dd_Mo_fillRow 120 rfl) (inR_d rfl) rfl (snd_zr (dget dd_Mo_fillRow 121 rfl) rfl))
def B_Mo_fillRow_202 : TT := (tt_al 0 (tt_cV 9 1 Ct_Mo_isWorking (tt_zeq (B_Mo_fillRow_219) (tt_al 0 (tt_gR 9 27 (tt_al 0 (tt_gI 9 39 (tt_ci 1 (tt_zS (B_Mo_fillRow_219))))))))))
theorem S_Mo_fillRow_202 (lc lz : Nat) : Snd md_Mo_fillRow lc lz 202 (B_Mo_fillRow_202) := (snd_al_n (n := 0) (dget dd_Mo_fillRow 111 rfl) rfl (snd_cV (n := 0) met_Mo_isWorking mi_Mo_isWorking ki_Mo_isWorking kv_Mo_isWorking ml_Mo_275 rfl (by decide) (dget dd_Mo_fillRow 112 rfl) (snd_zeq (tg := 219) (dget dd_Mo_fillRow 113 rfl) rfl (S_Mo_fillRow_219 lc lz) (snd_al_n (n := 0) (dget dd_Mo_fillRow 114 rfl) rfl (snd_gR (kn := 27) fd_Mo_67 rfl (dget dd_Mo_fillRow 115 rfl) (snd_al_n (n := 0) (dget dd_Mo_fillRow 116 rfl) rfl (snd_gI (kn := 39) fd_Mo_272 rfl (dget dd_Mo_fillRow 117 rfl) (snd_iconst (n := 1) (dget dd_Mo_fillRow 118 rfl) (inR_d rfl) rfl (snd_zS (dget dd_Mo_fillRow 119 rfl) (S_Mo_fillRow_219 lc lz))))))))))
def B_Mo_fillRow_196 : TT := (tt_inc 2 1 (tt_cut 94))
theorem S_Mo_fillRow_196 (lc lz : Nat) : Snd md_Mo_fillRow lc lz 196 (B_Mo_fillRow_196) := (snd_inc (dget dd_Mo_fillRow 109 rfl) (snd_goto (tg := 94) (dget dd_Mo_fillRow 110 rfl) rfl snd_cut))
def B_Mo_fillRow_187 : TT := (tt_al 0 (tt_al 0 (tt_gI 9 39 (tt_il 2 (tt_cV 9 3 Ct_Mo_newAt (B_Mo_fillRow_196))))))
theorem S_Mo_fillRow_187 (lc lz : Nat) : Snd md_Mo_fillRow lc lz 187 (B_Mo_fillRow_187) := (snd_al_n (n := 0) (dget dd_Mo_fillRow 104 rfl) rfl (snd_al_n (n := 0) (dget dd_Mo_fillRow 105 rfl) rfl (snd_gI (kn := 39) fd_Mo_272 rfl (dget dd_Mo_fillRow 106 rfl) (snd_il_n (n := 2) (dget dd_Mo_fillRow 107 rfl) rfl (snd_cV (n := 2) met_Mo_newAt mi_Mo_newAt ki_Mo_newAt kv_Mo_newAt ml_Mo_284 rfl (by decide) (dget dd_Mo_fillRow 108 rfl) (S_Mo_fillRow_196 lc lz))))))
def B_Mo_fillRow_178 : TT := (tt_al 0 (tt_cV 9 1 Ct_Mo_hasPlace (tt_zne (B_Mo_fillRow_187) (tt_ci 0 tt_zr))))
theorem S_Mo_fillRow_178 (lc lz : Nat) : Snd md_Mo_fillRow lc lz 178 (B_Mo_fillRow_178) := (snd_al_n (n := 0) (dget dd_Mo_fillRow 99 rfl) rfl (snd_cV (n := 0) met_Mo_hasPlace mi_Mo_hasPlace ki_Mo_hasPlace kv_Mo_hasPlace ml_Mo_278 rfl (by decide) (dget dd_Mo_fillRow 100 rfl) (snd_zne (tg := 187) (dget dd_Mo_fillRow 101 rfl) rfl (S_Mo_fillRow_187 lc lz) (snd_iconst (n := 0) (dget dd_Mo_fillRow 102 rfl) (inR_d rfl) rfl (snd_zr (dget dd_Mo_fillRow 103 rfl) rfl)))))
def B_Mo_fillRow_149 : TT := (tt_al 0 (tt_cV 9 1 Ct_Mo_isWorking (tt_zeq (B_Mo_fillRow_196) (tt_al 0 (tt_gR 9 23 (tt_ci 10 (tt_al 0 (tt_gI 9 39 (tt_mul (tt_il 2 (tt_add (tt_ia (tt_ci (-2) (tt_ceq (B_Mo_fillRow_178) (B_Mo_fillRow_196)))))))))))))))
theorem S_Mo_fillRow_149 (lc lz : Nat) : Snd md_Mo_fillRow lc lz 149 (B_Mo_fillRow_149) := (snd_al_n (n := 0) (dget dd_Mo_fillRow 84 rfl) rfl (snd_cV (n := 0) met_Mo_isWorking mi_Mo_isWorking ki_Mo_isWorking kv_Mo_isWorking ml_Mo_275 rfl (by decide) (dget dd_Mo_fillRow 85 rfl) (snd_zeq (tg := 196) (dget dd_Mo_fillRow 86 rfl) rfl (S_Mo_fillRow_196 lc lz) (snd_al_n (n := 0) (dget dd_Mo_fillRow 87 rfl) rfl (snd_gR (kn := 23) fd_Mo_54 rfl (dget dd_Mo_fillRow 88 rfl) (snd_bipush (n := 10) (dget dd_Mo_fillRow 89 rfl) (inR_d rfl) (by decide) (snd_al_n (n := 0) (dget dd_Mo_fillRow 90 rfl) rfl (snd_gI (kn := 39) fd_Mo_272 rfl (dget dd_Mo_fillRow 91 rfl) (snd_mul (dget dd_Mo_fillRow 92 rfl) (snd_il_n (n := 2) (dget dd_Mo_fillRow 93 rfl) rfl (snd_add (dget dd_Mo_fillRow 94 rfl) (snd_ia (dget dd_Mo_fillRow 95 rfl) (snd_bipush (n := -2) (dget dd_Mo_fillRow 96 rfl) (inR_d rfl) (by decide) (snd_ceq (tg := 178) (dget dd_Mo_fillRow 97 rfl) rfl (S_Mo_fillRow_178 lc lz) (snd_goto (tg := 196) (dget dd_Mo_fillRow 98 rfl) rfl (S_Mo_fillRow_196 lc lz))))))))))))))))
def B_Mo_fillRow_133 : TT := (tt_al 0 (tt_cV 9 1 Ct_Mo_hasPlace (tt_zne (B_Mo_fillRow_187) (tt_al 0 (tt_cV 9 1 Ct_Mo_seeksPlace (tt_zne (B_Mo_fillRow_149) (tt_ci 0 tt_zr)))))))
theorem S_Mo_fillRow_133 (lc lz : Nat) : Snd md_Mo_fillRow lc lz 133 (B_Mo_fillRow_133) := (snd_al_n (n := 0) (dget dd_Mo_fillRow 76 rfl) rfl (snd_cV (n := 0) met_Mo_hasPlace mi_Mo_hasPlace ki_Mo_hasPlace kv_Mo_hasPlace ml_Mo_278 rfl (by decide) (dget dd_Mo_fillRow 77 rfl) (snd_zne (tg := 187) (dget dd_Mo_fillRow 78 rfl) rfl (S_Mo_fillRow_187 lc lz) (snd_al_n (n := 0) (dget dd_Mo_fillRow 79 rfl) rfl (snd_cV (n := 0) met_Mo_seeksPlace mi_Mo_seeksPlace ki_Mo_seeksPlace kv_Mo_seeksPlace ml_Mo_281 rfl (by decide) (dget dd_Mo_fillRow 80 rfl) (snd_zne (tg := 149) (dget dd_Mo_fillRow 81 rfl) rfl (S_Mo_fillRow_149 lc lz) (snd_iconst (n := 0) (dget dd_Mo_fillRow 82 rfl) (inR_d rfl) rfl (snd_zr (dget dd_Mo_fillRow 83 rfl) rfl))))))))
def B_Mo_fillRow_94 : TT := (tt_il 2 (tt_ci 2 (tt_al 0 (tt_gI 9 0 (tt_mul (tt_cge (B_Mo_fillRow_202) (tt_al 0 (tt_cV 9 1 Ct_Mo_isWorking (tt_zeq (B_Mo_fillRow_196) (tt_al 0 (tt_gR 9 23 (tt_ci 10 (tt_al 0 (tt_gI 9 39 (tt_mul (tt_il 2 (tt_add (tt_ia (tt_ci (-2) (tt_ceq (B_Mo_fillRow_133) (B_Mo_fillRow_196)))))))))))))))))))))
theorem S_Mo_fillRow_94 (lc lz : Nat) : Snd md_Mo_fillRow lc lz 94 (B_Mo_fillRow_94) := (snd_il_n (n := 2) (dget dd_Mo_fillRow 55 rfl) rfl (snd_iconst (n := 2) (dget dd_Mo_fillRow 56 rfl) (inR_d rfl) rfl (snd_al_n (n := 0) (dget dd_Mo_fillRow 57 rfl) rfl (snd_gI (kn := 0) fd_Mo_7 rfl (dget dd_Mo_fillRow 58 rfl) (snd_mul (dget dd_Mo_fillRow 59 rfl) (snd_cge (tg := 202) (dget dd_Mo_fillRow 60 rfl) rfl (S_Mo_fillRow_202 lc lz) (snd_al_n (n := 0) (dget dd_Mo_fillRow 61 rfl) rfl (snd_cV (n := 0) met_Mo_isWorking mi_Mo_isWorking ki_Mo_isWorking kv_Mo_isWorking ml_Mo_275 rfl (by decide) (dget dd_Mo_fillRow 62 rfl) (snd_zeq (tg := 196) (dget dd_Mo_fillRow 63 rfl) rfl (S_Mo_fillRow_196 lc lz) (snd_al_n (n := 0) (dget dd_Mo_fillRow 64 rfl) rfl (snd_gR (kn := 23) fd_Mo_54 rfl (dget dd_Mo_fillRow 65 rfl) (snd_bipush (n := 10) (dget dd_Mo_fillRow 66 rfl) (inR_d rfl) (by decide) (snd_al_n (n := 0) (dget dd_Mo_fillRow 67 rfl) rfl (snd_gI (kn := 39) fd_Mo_272 rfl (dget dd_Mo_fillRow 68 rfl) (snd_mul (dget dd_Mo_fillRow 69 rfl) (snd_il_n (n := 2) (dget dd_Mo_fillRow 70 rfl) rfl (snd_add (dget dd_Mo_fillRow 71 rfl) (snd_ia (dget dd_Mo_fillRow 72 rfl) (snd_bipush (n := -2) (dget dd_Mo_fillRow 73 rfl) (inR_d rfl) (by decide) (snd_ceq (tg := 133) (dget dd_Mo_fillRow 74 rfl) rfl (S_Mo_fillRow_133 lc lz) (snd_goto (tg := 196) (dget dd_Mo_fillRow 75 rfl) rfl (S_Mo_fillRow_196 lc lz))))))))))))))))))))))
def B_Mo_fillRow_92 : TT := (tt_ci 0 (tt_is 2 (tt_cut 94)))
theorem S_Mo_fillRow_92 (lc lz : Nat) : Snd md_Mo_fillRow lc lz 92 (B_Mo_fillRow_92) := (snd_iconst (n := 0) (dget dd_Mo_fillRow 53 rfl) (inR_d rfl) rfl (snd_is_n (n := 2) (dget dd_Mo_fillRow 54 rfl) rfl snd_cut))
def B_Mo_fillRow_86 : TT := (tt_inc 2 1 (tt_cut 55))
theorem S_Mo_fillRow_86 (lc lz : Nat) : Snd md_Mo_fillRow lc lz 86 (B_Mo_fillRow_86) := (snd_inc (dget dd_Mo_fillRow 51 rfl) (snd_goto (tg := 55) (dget dd_Mo_fillRow 52 rfl) rfl snd_cut))
def B_Mo_fillRow_55 : TT := (tt_il 2 (tt_al 0 (tt_gI 9 14 (tt_cge (B_Mo_fillRow_92) (tt_al 0 (tt_al 0 (tt_gR 9 9 (tt_ci 40 (tt_il 2 (tt_mul (tt_al 0 (tt_gR 9 10 (tt_il 2 (tt_ia (tt_cV 9 4 Ct_Mo_fill (tt_zne (B_Mo_fillRow_86) (tt_ci 0 tt_zr)))))))))))))))))
theorem S_Mo_fillRow_55 (lc lz : Nat) : Snd md_Mo_fillRow lc lz 55 (B_Mo_fillRow_55) := (snd_il_n (n := 2) (dget dd_Mo_fillRow 33 rfl) rfl (snd_al_n (n := 0) (dget dd_Mo_fillRow 34 rfl) rfl (snd_gI (kn := 14) fd_Mo_143 rfl (dget dd_Mo_fillRow 35 rfl) (snd_cge (tg := 92) (dget dd_Mo_fillRow 36 rfl) rfl (S_Mo_fillRow_92 lc lz) (snd_al_n (n := 0) (dget dd_Mo_fillRow 37 rfl) rfl (snd_al_n (n := 0) (dget dd_Mo_fillRow 38 rfl) rfl (snd_gR (kn := 9) fd_Mo_23 rfl (dget dd_Mo_fillRow 39 rfl) (snd_bipush (n := 40) (dget dd_Mo_fillRow 40 rfl) (inR_d rfl) (by decide) (snd_il_n (n := 2) (dget dd_Mo_fillRow 41 rfl) rfl (snd_mul (dget dd_Mo_fillRow 42 rfl) (snd_al_n (n := 0) (dget dd_Mo_fillRow 43 rfl) rfl (snd_gR (kn := 10) fd_Mo_27 rfl (dget dd_Mo_fillRow 44 rfl) (snd_il_n (n := 2) (dget dd_Mo_fillRow 45 rfl) rfl (snd_ia (dget dd_Mo_fillRow 46 rfl) (snd_cV (n := 3) met_Mo_fill mi_Mo_fill ki_Mo_fill kv_Mo_fill ml_Mo_287 rfl (by decide) (dget dd_Mo_fillRow 47 rfl) (snd_zne (tg := 86) (dget dd_Mo_fillRow 48 rfl) rfl (S_Mo_fillRow_86 lc lz) (snd_iconst (n := 0) (dget dd_Mo_fillRow 49 rfl) (inR_d rfl) rfl (snd_zr (dget dd_Mo_fillRow 50 rfl) rfl))))))))))))))))))
def B_Mo_fillRow_48 : TT := (tt_al 0 (tt_il 1 (tt_pI 9 39 (tt_ci 0 (tt_is 2 (tt_cut 55))))))
theorem S_Mo_fillRow_48 (lc lz : Nat) : Snd md_Mo_fillRow lc lz 48 (B_Mo_fillRow_48) := (snd_al_n (n := 0) (dget dd_Mo_fillRow 28 rfl) rfl (snd_il_n (n := 1) (dget dd_Mo_fillRow 29 rfl) rfl (snd_pI (kn := 39) fd_Mo_272 rfl (dget dd_Mo_fillRow 30 rfl) (snd_iconst (n := 0) (dget dd_Mo_fillRow 31 rfl) (inR_d rfl) rfl (snd_is_n (n := 2) (dget dd_Mo_fillRow 32 rfl) rfl snd_cut)))))
def B_Mo_fillRow_36 : TT := (tt_il 1 (tt_al 0 (tt_gR 9 30 (tt_ci 0 (tt_ia (tt_cne (B_Mo_fillRow_48) (tt_ci 1 tt_zr)))))))
theorem S_Mo_fillRow_36 (lc lz : Nat) : Snd md_Mo_fillRow lc lz 36 (B_Mo_fillRow_36) := (snd_il_n (n := 1) (dget dd_Mo_fillRow 20 rfl) rfl (snd_al_n (n := 0) (dget dd_Mo_fillRow 21 rfl) rfl (snd_gR (kn := 30) fd_Mo_76 rfl (dget dd_Mo_fillRow 22 rfl) (snd_iconst (n := 0) (dget dd_Mo_fillRow 23 rfl) (inR_d rfl) rfl (snd_ia (dget dd_Mo_fillRow 24 rfl) (snd_cne (tg := 48) (dget dd_Mo_fillRow 25 rfl) rfl (S_Mo_fillRow_48 lc lz) (snd_iconst (n := 1) (dget dd_Mo_fillRow 26 rfl) (inR_d rfl) rfl (snd_zr (dget dd_Mo_fillRow 27 rfl) rfl))))))))
def B_Mo_fillRow_30 : TT := (tt_inc 1 1 (tt_cut 2))
theorem S_Mo_fillRow_30 (lc lz : Nat) : Snd md_Mo_fillRow lc lz 30 (B_Mo_fillRow_30) := (snd_inc (dget dd_Mo_fillRow 18 rfl) (snd_goto (tg := 2) (dget dd_Mo_fillRow 19 rfl) rfl snd_cut))
def B_Mo_fillRow_2 : TT := (tt_il 1 (tt_al 0 (tt_gR 9 30 (tt_ci 0 (tt_ia (tt_cge (B_Mo_fillRow_36) (tt_al 0 (tt_gR 9 26 (tt_il 1 (tt_za (tt_zeq (B_Mo_fillRow_30) (tt_al 0 (tt_gR 9 27 (tt_il 1 (tt_za (tt_zeq (B_Mo_fillRow_36) (B_Mo_fillRow_30)))))))))))))))))
theorem S_Mo_fillRow_2 (lc lz : Nat) : Snd md_Mo_fillRow lc lz 2 (B_Mo_fillRow_2) := (snd_il_n (n := 1) (dget dd_Mo_fillRow 2 rfl) rfl (snd_al_n (n := 0) (dget dd_Mo_fillRow 3 rfl) rfl (snd_gR (kn := 30) fd_Mo_76 rfl (dget dd_Mo_fillRow 4 rfl) (snd_iconst (n := 0) (dget dd_Mo_fillRow 5 rfl) (inR_d rfl) rfl (snd_ia (dget dd_Mo_fillRow 6 rfl) (snd_cge (tg := 36) (dget dd_Mo_fillRow 7 rfl) rfl (S_Mo_fillRow_36 lc lz) (snd_al_n (n := 0) (dget dd_Mo_fillRow 8 rfl) rfl (snd_gR (kn := 26) fd_Mo_63 rfl (dget dd_Mo_fillRow 9 rfl) (snd_il_n (n := 1) (dget dd_Mo_fillRow 10 rfl) rfl (snd_za (dget dd_Mo_fillRow 11 rfl) (snd_zeq (tg := 30) (dget dd_Mo_fillRow 12 rfl) rfl (S_Mo_fillRow_30 lc lz) (snd_al_n (n := 0) (dget dd_Mo_fillRow 13 rfl) rfl (snd_gR (kn := 27) fd_Mo_67 rfl (dget dd_Mo_fillRow 14 rfl) (snd_il_n (n := 1) (dget dd_Mo_fillRow 15 rfl) rfl (snd_za (dget dd_Mo_fillRow 16 rfl) (snd_zeq (tg := 36) (dget dd_Mo_fillRow 17 rfl) rfl (S_Mo_fillRow_36 lc lz) (S_Mo_fillRow_30 lc lz)))))))))))))))))
def B_Mo_fillRow_0 : TT := (tt_ci 0 (tt_is 1 (tt_cut 2)))
theorem S_Mo_fillRow_0 (lc lz : Nat) : Snd md_Mo_fillRow lc lz 0 (B_Mo_fillRow_0) := (snd_iconst (n := 0) (dget dd_Mo_fillRow 0 rfl) (inR_d rfl) rfl (snd_is_n (n := 1) (dget dd_Mo_fillRow 1 rfl) rfl snd_cut))
def muR (pc : Nat) (ls : LSt) (_ : PH) : Nat := if pc = 2 then 100 + (2000 - locI ls 1).toNat else if pc = 55 then 50 + (12 - locI ls 2).toNat else (10 - locI ls 2).toNat
theorem muR_2 {ls : LSt} {h' : PH} : muR 2 ls h' = 100 + (2000 - locI ls 1).toNat := by unfold muR; rw [if_pos rfl]
theorem muR_55 {ls : LSt} {h' : PH} : muR 55 ls h' = 50 + (12 - locI ls 2).toNat := by unfold muR; rw [if_neg (by decide), if_pos rfl]
theorem muR_94 {ls : LSt} {h' : PH} : muR 94 ls h' = (10 - locI ls 2).toNat := by unfold muR; rw [if_neg (by decide), if_neg (by decide)]
def ndI (a : AT) (x : Int) : Int := if aV a x ≠ 0 ∧ aD a x = 0 then 1 else 0
theorem atM_done {L Q : Int} {h : PH} (hW : WT L Q (atM h)) (hk : wkg (atM h)) : atM (sI h pMo_isDone (gI h pMo 39) 1) = mkD (atM h) := by
  have e : ∀ b, b ≠ pMo_isDone → gI (sI h pMo_isDone (gI h pMo 39) 1) b = gI h b := by
    intro b hb
    funext k
    rw [gI_sI, if_neg (fun z => hb z.1)]
  have ed : cD (cV (gI h pMo_state 0) (gI h pMo_isLeft)) (gI (sI h pMo_isDone (gI h pMo 39) 1) pMo_isDone) = fun x => if x = aM (atM h) then 1 else aD (atM h) x := by
    funext x
    show (if aV (atM h) x ≠ 0 ∧ gI (sI h pMo_isDone (gI h pMo 39) 1) pMo_isDone x ≠ 0 then (1 : Int) else 0) = if x = gI h pMo 39 then 1 else (if aV (atM h) x ≠ 0 ∧ gI h pMo_isDone x ≠ 0 then 1 else 0)
    by_cases z : x = gI h pMo 39
    · have e1 : gI (sI h pMo_isDone (gI h pMo 39) 1) pMo_isDone x = 1 := by rw [gI_sI, if_pos ⟨rfl, z⟩]
      rw [e1, if_pos z, if_pos ⟨by rw [z]; exact hk.2, by decide⟩]
    · have e1 : gI (sI h pMo_isDone (gI h pMo 39) 1) pMo_isDone x = gI h pMo_isDone x := by rw [gI_sI, if_neg (fun t => z t.2)]
      rw [e1, if_neg z]
  unfold mkD
  rw [if_pos hk]
  unfold atM
  rw [e pMo_state (by decide), e pMo_isLeft (by decide), e pMo_cells (by decide), e pMo (by decide)]
  unfold mkA
  rw [ed]
  rfl
theorem WT_mkD {L Q : Int} {a : AT} (h : WT L Q a) : WT L Q (mkD a) := by
  unfold mkD
  split
  · rename_i q
    obtain ⟨g1, g2, g3, g4, g5⟩ := h
    refine ⟨g1, g2, g3, fun r hr => ?_, g5⟩
    show (if r = aM a then (1 : Int) else aD a r) = 1 ∧ aV a r ≠ 0
    have hr' : (if r = aM a then (1 : Int) else aD a r) ≠ 0 := hr
    by_cases z : r = aM a
    · rw [if_pos z]; exact ⟨rfl, by rw [z]; exact q.2⟩
    · rw [if_neg z] at hr' ⊢; exact g4 r hr'
  · exact h
def frS (R c : Int) : LSt := [some (.inr (.inl (some pMo))), some (.inl R), some (.inl c)]
theorem row_187 {I : Nat → LSt → PH → Prop} {P : TR} {h h1 : PH} {R c L Q : Int} (w : MW h) (hF : Fr h h1) (hX : TX L Q h1) (hk : wkg (atM h1)) (c0 : 0 ≤ c) (c1 : c < L) (he : aE (atM h1) (aM (atM h1)) c = -2) (hp : hasP (atM h1))
    (hI : ∀ h2, Fr h h2 → TX L Q h2 → atM h2 = newA (atM h1) (aM (atM h1)) c → I 94 (frS R (c + 1)) h2) : B_Mo_fillRow_187 I P (frS R c) [] h1 := by
  have w1 := FrP_MW hF w
  obtain ⟨x1, x2, x3, x4, x5, x6⟩ := id hX
  have sr := st_raw x3
  have v1 := VV_atM.mp hk.2
  have hp' := hp_raw.mp hp
  rw [aM_atM] at v1
  unfold frS
  simp (decide := true) only [B_Mo_fillRow_0, B_Mo_fillRow_2, B_Mo_fillRow_30, B_Mo_fillRow_36, B_Mo_fillRow_48, B_Mo_fillRow_55, B_Mo_fillRow_86, B_Mo_fillRow_92, B_Mo_fillRow_94, B_Mo_fillRow_133, B_Mo_fillRow_149, B_Mo_fillRow_178, B_Mo_fillRow_187, B_Mo_fillRow_196, B_Mo_fillRow_202, B_Mo_fillRow_219, Ct_Mo_fill, Ct_Mo_isWorking, Ct_Mo_hasPlace, Ct_Mo_seeksPlace, Ct_Mo_newAt, tt_ci, tt_cl, tt_nul, tt_il, tt_al, tt_ll, tt_is, tt_as, tt_ls, tt_inc, tt_add, tt_sub, tt_mul, tt_div, tt_rem, tt_ladd, tt_lmul, tt_ldiv, tt_lrem, tt_zeq, tt_zne, tt_zlt, tt_zge, tt_zgt, tt_zle, tt_ceq, tt_cne, tt_clt, tt_cge, tt_cgt, tt_cle, tt_nn, tt_cut, tt_pop, tt_dup, tt_dup2, tt_gI, tt_gR, tt_pI, tt_pZ, tt_pR, tt_ia, tt_ba, tt_za, tt_iS, tt_bS, tt_zS, tt_aa, tt_aS, tt_len, tt_and, tt_xor, tt_shr, tt_ushr, tt_lcmp, tt_i2b, tt_i2l, tt_l2i, tt_sw, swG, tt_ir, tt_zr, tt_br, tt_lr, tt_ar, tt_vr, tt_cV, tt_cS, tt_min, tt_max, tt_acp, pI, pII, pO, pA, pIA, pIIA, pOA, pOIA, pL, pLL, pLIA, pV, pCP, lI, lO, lL, nth, stL, clL, entA, fitL, rcv, List.take_succ_cons, List.take_zero, List.drop_succ_cons, List.drop_zero, List.reverse_cons, List.reverse_nil, List.nil_append, List.cons_append, List.length_cons, List.length_nil, Option.toList_some, Option.toList_none, gI_sI, gI_sA, gR_sI, gR_sA, gI_sR, gR_sR, hN_sI, hN_sA, hN_sR, isO_sI, isO_sA, isO_sR, isAr_sI, isAr_sA, isAr_sR, hC_sI, hC_sA, hC_sR, hZ_sI, hZ_sA, hZ_sR, MW_sI, MW_sA, true_and, and_true, true_or, or_true, and_self, forall_const, imp_self, implies_true, if_true, if_false, false_and, and_false, false_or, or_false, not_false_eq_true, not_true_eq_false, sI_sI, mr_tape w1, mr_text w1, mr_words w1, mr_wordSize w1, mr_subs w1, mr_subSize w1, mr_asked w1, mr_pile w1, mr_pileSize w1, mr_opened w1, mr_openedAt w1, mr_begun w1, mr_cells w1, mr_keptCells w1, mr_name w1, mr_isLeft w1, mr_isDone w1, mr_keptLeft w1, mr_keptDone w1, mr_state w1, mr_keptState w1, mr_newOf w1, mr_oldOf w1, mr_spare w1, mr_spareDone w1, mr_out w1, mr_metFrom w1, mr_metBy w1, mr_far w1, mr_low w1, mr_lows w1, mr_lowSize w1, mr_triedRow w1, mr_triedColumn w1, mr_triedValue w1, mr_triedRows w1, mr_sheet w1, ma_tape w1, ma_text w1, ma_words w1, ma_wordSize w1, ma_subs w1, ma_subSize w1, ma_asked w1, ma_pile w1, ma_pileSize w1, ma_opened w1, ma_openedAt w1, ma_begun w1, ma_cells w1, ma_keptCells w1, ma_name w1, ma_isLeft w1, ma_isDone w1, ma_keptLeft w1, ma_keptDone w1, ma_state w1, ma_keptState w1, ma_newOf w1, ma_oldOf w1, ma_spare w1, ma_spareDone w1, ma_out w1, ma_metFrom w1, ma_metBy w1, ma_far w1, ma_low w1, ma_lows w1, ma_lowSize w1, ma_triedRow w1, ma_triedColumn w1, ma_triedValue w1, ma_triedRows w1, ma_sheet w1, ml_tape, ml_text, ml_words, ml_wordSize, ml_subs, ml_subSize, ml_asked, ml_pile, ml_pileSize, ml_opened, ml_openedAt, ml_begun, ml_cells, ml_keptCells, ml_name, ml_isLeft, ml_isDone, ml_keptLeft, ml_keptDone, ml_state, ml_keptState, ml_newOf, ml_oldOf, ml_spare, ml_spareDone, ml_out, ml_metFrom, ml_metBy, ml_far, ml_low, ml_lows, ml_lowSize, ml_triedRow, ml_triedColumn, ml_triedValue, ml_triedRows, ml_sheet, mo_O w1]
  refine ⟨w1, by omega, by omega, by omega, by omega, by omega, by omega, v1.1, by omega, c0, by omega, ⟨by omega, by omega⟩, ?_⟩
  exact hI (nwH h1 (gI h1 pMo 39) c) (FrP_trans hF nwH_Fr) (nwH_TX hX hk.2 c0 c1 he hp) (nwH_at x3 hk.2 c0 (by omega))
theorem row_133 {I : Nat → LSt → PH → Prop} {P : TR} {h h1 : PH} {R c L Q : Int} {n : Nat} (w : MW h) (hF : Fr h h1) (hX : TX L Q h1) (hk : wkg (atM h1)) (c0 : 0 ≤ c) (c1 : c < L) (he : aE (atM h1) (aM (atM h1)) c = -2)
    (hI : ∀ h2, Fr h h2 → TX L Q h2 → fcA L (wM h) (uM h) n (c + 1) (atM h2) = fcA L (wM h) (uM h) (n + 1) c (atM h1) → I 94 (frS R (c + 1)) h2)
    (hP : ∀ h2, Fr h h2 → TX L Q h2 → (atM h2, 0) = fcA L (wM h) (uM h) (n + 1) c (atM h1) → P (some (.inl 0)) h2) : B_Mo_fillRow_133 I P (frS R c) [] h1 := by
  have w1 := FrP_MW hF w
  obtain ⟨x1, x2, x3, x4, x5, x6⟩ := id hX
  have sr := st_raw x3
  have hr := hp_raw (h := h1)
  obtain ⟨eW, eU, -⟩ := Fr_words hF
  have fe : fcA L (wM h) (uM h) (n + 1) c (atM h1) = if wkg (atM h1) ∧ aE (atM h1) (aM (atM h1)) c = -2 then
      if hasP (atM h1) then fcA L (wM h) (uM h) n (c + 1) (newA (atM h1) (aM (atM h1)) c)
      else if aS (atM h1) 8 ≠ 4 then (atM h1, 0)
      else if wkg (seekA L (wM h) (uM h) (atM h1)) ∧ aE (seekA L (wM h) (uM h) (atM h1)) (aM (seekA L (wM h) (uM h) (atM h1))) c = -2 then
        if hasP (seekA L (wM h) (uM h) (atM h1)) then fcA L (wM h) (uM h) n (c + 1) (newA (seekA L (wM h) (uM h) (atM h1)) (aM (seekA L (wM h) (uM h) (atM h1))) c) else (seekA L (wM h) (uM h) (atM h1), 0)
      else fcA L (wM h) (uM h) n (c + 1) (seekA L (wM h) (uM h) (atM h1))
    else fcA L (wM h) (uM h) n (c + 1) (atM h1) := rfl
  rw [if_pos ⟨hk, he⟩] at fe
  have n187 : hasP (atM h1) → B_Mo_fillRow_187 I P (frS R c) [] h1 := fun q => row_187 w hF hX hk c0 c1 he q (fun h2 g1 g2 g3 => hI h2 g1 g2 (by rw [g3, fe, if_pos q]))
  unfold frS at n187 ⊢
  simp (decide := true) only [B_Mo_fillRow_0, B_Mo_fillRow_2, B_Mo_fillRow_30, B_Mo_fillRow_36, B_Mo_fillRow_48, B_Mo_fillRow_55, B_Mo_fillRow_86, B_Mo_fillRow_92, B_Mo_fillRow_94, B_Mo_fillRow_133, B_Mo_fillRow_178, B_Mo_fillRow_196, B_Mo_fillRow_202, B_Mo_fillRow_219, Ct_Mo_fill, Ct_Mo_isWorking, Ct_Mo_hasPlace, Ct_Mo_seeksPlace, Ct_Mo_newAt, tt_ci, tt_cl, tt_nul, tt_il, tt_al, tt_ll, tt_is, tt_as, tt_ls, tt_inc, tt_add, tt_sub, tt_mul, tt_div, tt_rem, tt_ladd, tt_lmul, tt_ldiv, tt_lrem, tt_zeq, tt_zne, tt_zlt, tt_zge, tt_zgt, tt_zle, tt_ceq, tt_cne, tt_clt, tt_cge, tt_cgt, tt_cle, tt_nn, tt_cut, tt_pop, tt_dup, tt_dup2, tt_gI, tt_gR, tt_pI, tt_pZ, tt_pR, tt_ia, tt_ba, tt_za, tt_iS, tt_bS, tt_zS, tt_aa, tt_aS, tt_len, tt_and, tt_xor, tt_shr, tt_ushr, tt_lcmp, tt_i2b, tt_i2l, tt_l2i, tt_sw, swG, tt_ir, tt_zr, tt_br, tt_lr, tt_ar, tt_vr, tt_cV, tt_cS, tt_min, tt_max, tt_acp, pI, pII, pO, pA, pIA, pIIA, pOA, pOIA, pL, pLL, pLIA, pV, pCP, lI, lO, lL, nth, stL, clL, entA, fitL, rcv, List.take_succ_cons, List.take_zero, List.drop_succ_cons, List.drop_zero, List.reverse_cons, List.reverse_nil, List.nil_append, List.cons_append, List.length_cons, List.length_nil, Option.toList_some, Option.toList_none, gI_sI, gI_sA, gR_sI, gR_sA, gI_sR, gR_sR, hN_sI, hN_sA, hN_sR, isO_sI, isO_sA, isO_sR, isAr_sI, isAr_sA, isAr_sR, hC_sI, hC_sA, hC_sR, hZ_sI, hZ_sA, hZ_sR, MW_sI, MW_sA, true_and, and_true, true_or, or_true, and_self, forall_const, imp_self, implies_true, if_true, if_false, false_and, and_false, false_or, or_false, not_false_eq_true, not_true_eq_false, sI_sI, mr_tape w1, mr_text w1, mr_words w1, mr_wordSize w1, mr_subs w1, mr_subSize w1, mr_asked w1, mr_pile w1, mr_pileSize w1, mr_opened w1, mr_openedAt w1, mr_begun w1, mr_cells w1, mr_keptCells w1, mr_name w1, mr_isLeft w1, mr_isDone w1, mr_keptLeft w1, mr_keptDone w1, mr_state w1, mr_keptState w1, mr_newOf w1, mr_oldOf w1, mr_spare w1, mr_spareDone w1, mr_out w1, mr_metFrom w1, mr_metBy w1, mr_far w1, mr_low w1, mr_lows w1, mr_lowSize w1, mr_triedRow w1, mr_triedColumn w1, mr_triedValue w1, mr_triedRows w1, mr_sheet w1, ma_tape w1, ma_text w1, ma_words w1, ma_wordSize w1, ma_subs w1, ma_subSize w1, ma_asked w1, ma_pile w1, ma_pileSize w1, ma_opened w1, ma_openedAt w1, ma_begun w1, ma_cells w1, ma_keptCells w1, ma_name w1, ma_isLeft w1, ma_isDone w1, ma_keptLeft w1, ma_keptDone w1, ma_state w1, ma_keptState w1, ma_newOf w1, ma_oldOf w1, ma_spare w1, ma_spareDone w1, ma_out w1, ma_metFrom w1, ma_metBy w1, ma_far w1, ma_low w1, ma_lows w1, ma_lowSize w1, ma_triedRow w1, ma_triedColumn w1, ma_triedValue w1, ma_triedRows w1, ma_sheet w1, ml_tape, ml_text, ml_words, ml_wordSize, ml_subs, ml_subSize, ml_asked, ml_pile, ml_pileSize, ml_opened, ml_openedAt, ml_begun, ml_cells, ml_keptCells, ml_name, ml_isLeft, ml_isDone, ml_keptLeft, ml_keptDone, ml_state, ml_keptState, ml_newOf, ml_oldOf, ml_spare, ml_spareDone, ml_out, ml_metFrom, ml_metBy, ml_far, ml_low, ml_lows, ml_lowSize, ml_triedRow, ml_triedColumn, ml_triedValue, ml_triedRows, ml_sheet, mo_O w1]
  refine ⟨w1, fun q => n187 (hr.mpr ?_), fun q => ?_⟩
  · apply Classical.byContradiction
    intro t
    exact q (if_neg t)
  · have nq : ¬ hasP (atM h1) := fun t => by
      rw [if_pos (hr.mp t)] at q
      exact absurd q (by decide)
    rw [if_neg nq, aS_atM (by decide) (by decide)] at fe
    refine ⟨w1, L, Q, hX, fun q8 => ?_, fun q8 h2 g1 g2 X2 => ?_⟩
    · rw [if_pos q8] at fe
      exact ⟨fun z => z.elim, hP h1 hF hX fe.symm⟩
    · rw [if_neg (fun z => z q8)] at fe
      have w2 := FrP_MW g1 w1
      have o2 : isO h2 pMo 9 := mo_O w2
      have hF2 := FrP_trans hF g1
      obtain ⟨y1, y2, y3, y4, y5, y6⟩ := id X2
      have sr2 := st_raw y3
      have wr2 := wk_raw y3
      have hr2 := hp_raw (h := h2)
      rw [eW, eU] at g2
      rw [← g2] at fe
      have goes : ¬ (wkg (atM h2) ∧ aE (atM h2) (aM (atM h2)) c = -2) → I 94 (frS R (c + 1)) h2 := by
        intro z
        rw [if_neg z] at fe
        exact hI h2 hF2 X2 fe.symm
      have n187' : wkg (atM h2) ∧ aE (atM h2) (aM (atM h2)) c = -2 → hasP (atM h2) → B_Mo_fillRow_187 I P (frS R c) [] h2 := by
        intro z q
        rw [if_pos z, if_pos q] at fe
        exact row_187 w hF2 X2 z.1 c0 c1 z.2 q (fun h3 e1 e2 e3 => hI h3 e1 e2 (by rw [e3, fe]))
      unfold frS at n187' goes
      simp (decide := true) only [B_Mo_fillRow_0, B_Mo_fillRow_2, B_Mo_fillRow_30, B_Mo_fillRow_36, B_Mo_fillRow_48, B_Mo_fillRow_55, B_Mo_fillRow_86, B_Mo_fillRow_92, B_Mo_fillRow_94, B_Mo_fillRow_133, B_Mo_fillRow_149, B_Mo_fillRow_178, B_Mo_fillRow_196, B_Mo_fillRow_202, B_Mo_fillRow_219, Ct_Mo_fill, Ct_Mo_isWorking, Ct_Mo_hasPlace, Ct_Mo_seeksPlace, Ct_Mo_newAt, tt_ci, tt_cl, tt_nul, tt_il, tt_al, tt_ll, tt_is, tt_as, tt_ls, tt_inc, tt_add, tt_sub, tt_mul, tt_div, tt_rem, tt_ladd, tt_lmul, tt_ldiv, tt_lrem, tt_zeq, tt_zne, tt_zlt, tt_zge, tt_zgt, tt_zle, tt_ceq, tt_cne, tt_clt, tt_cge, tt_cgt, tt_cle, tt_nn, tt_cut, tt_pop, tt_dup, tt_dup2, tt_gI, tt_gR, tt_pI, tt_pZ, tt_pR, tt_ia, tt_ba, tt_za, tt_iS, tt_bS, tt_zS, tt_aa, tt_aS, tt_len, tt_and, tt_xor, tt_shr, tt_ushr, tt_lcmp, tt_i2b, tt_i2l, tt_l2i, tt_sw, swG, tt_ir, tt_zr, tt_br, tt_lr, tt_ar, tt_vr, tt_cV, tt_cS, tt_min, tt_max, tt_acp, pI, pII, pO, pA, pIA, pIIA, pOA, pOIA, pL, pLL, pLIA, pV, pCP, lI, lO, lL, nth, stL, clL, entA, fitL, rcv, List.take_succ_cons, List.take_zero, List.drop_succ_cons, List.drop_zero, List.reverse_cons, List.reverse_nil, List.nil_append, List.cons_append, List.length_cons, List.length_nil, Option.toList_some, Option.toList_none, gI_sI, gI_sA, gR_sI, gR_sA, gI_sR, gR_sR, hN_sI, hN_sA, hN_sR, isO_sI, isO_sA, isO_sR, isAr_sI, isAr_sA, isAr_sR, hC_sI, hC_sA, hC_sR, hZ_sI, hZ_sA, hZ_sR, MW_sI, MW_sA, true_and, and_true, true_or, or_true, and_self, forall_const, imp_self, implies_true, if_true, if_false, false_and, and_false, false_or, or_false, not_false_eq_true, not_true_eq_false, sI_sI, mr_tape w2, mr_text w2, mr_words w2, mr_wordSize w2, mr_subs w2, mr_subSize w2, mr_asked w2, mr_pile w2, mr_pileSize w2, mr_opened w2, mr_openedAt w2, mr_begun w2, mr_cells w2, mr_keptCells w2, mr_name w2, mr_isLeft w2, mr_isDone w2, mr_keptLeft w2, mr_keptDone w2, mr_state w2, mr_keptState w2, mr_newOf w2, mr_oldOf w2, mr_spare w2, mr_spareDone w2, mr_out w2, mr_metFrom w2, mr_metBy w2, mr_far w2, mr_low w2, mr_lows w2, mr_lowSize w2, mr_triedRow w2, mr_triedColumn w2, mr_triedValue w2, mr_triedRows w2, mr_sheet w2, ma_tape w2, ma_text w2, ma_words w2, ma_wordSize w2, ma_subs w2, ma_subSize w2, ma_asked w2, ma_pile w2, ma_pileSize w2, ma_opened w2, ma_openedAt w2, ma_begun w2, ma_cells w2, ma_keptCells w2, ma_name w2, ma_isLeft w2, ma_isDone w2, ma_keptLeft w2, ma_keptDone w2, ma_state w2, ma_keptState w2, ma_newOf w2, ma_oldOf w2, ma_spare w2, ma_spareDone w2, ma_out w2, ma_metFrom w2, ma_metBy w2, ma_far w2, ma_low w2, ma_lows w2, ma_lowSize w2, ma_triedRow w2, ma_triedColumn w2, ma_triedValue w2, ma_triedRows w2, ma_sheet w2, ml_tape, ml_text, ml_words, ml_wordSize, ml_subs, ml_subSize, ml_asked, ml_pile, ml_pileSize, ml_opened, ml_openedAt, ml_begun, ml_cells, ml_keptCells, ml_name, ml_isLeft, ml_isDone, ml_keptLeft, ml_keptDone, ml_state, ml_keptState, ml_newOf, ml_oldOf, ml_spare, ml_spareDone, ml_out, ml_metFrom, ml_metBy, ml_far, ml_low, ml_lows, ml_lowSize, ml_triedRow, ml_triedColumn, ml_triedValue, ml_triedRows, ml_sheet, mo_O w2, o2]
      refine ⟨⟨w2, by omega, fun z => ⟨⟨by omega, by omega⟩, goes (fun t => ?_)⟩, fun z => ?_⟩, fun z => z.elim⟩
      · rw [if_pos (wr2.mp t.1)] at z
        exact absurd z (by decide)
      · have hk2 : wkg (atM h2) := wr2.mpr (by
          apply Classical.byContradiction
          intro t
          exact z (if_neg t))
        have v2 := VV_atM.mp hk2.2
        rw [aM_atM] at v2
        have eE : aE (atM h2) (aM (atM h2)) c = gI h2 pMo_cells (10 * gI h2 pMo 39 + c) := aE_atM hk2.2 c0 (by omega)
        rw [← eE]
        refine ⟨⟨by omega, by omega⟩, ⟨by omega, by omega⟩, by omega, by omega, fun q3 => ⟨w2, fun q4 => n187' ⟨hk2, q3⟩ (hr2.mpr ?_), fun q4 => ?_⟩, fun q3 => ⟨⟨by omega, by omega⟩, goes (fun t => q3 t.2)⟩⟩
        · apply Classical.byContradiction
          intro t
          exact q4 (if_neg t)
        · rw [if_pos ⟨hk2, q3⟩, if_neg (fun t => by rw [if_pos (hr2.mp t)] at q4; exact absurd q4 (by decide))] at fe
          exact hP h2 hF2 X2 fe.symm
theorem met_Mo_fillRow : MetP y_Mo_fillRow md_Mo_fillRow (fun _ => 0) (fun _ => 0) Ct_Mo_fillRow := by
  refine metL3 (body := B_Mo_fillRow_0) (B1 := B_Mo_fillRow_2) (B2 := B_Mo_fillRow_55) (B3 := B_Mo_fillRow_94) (by decide) rfl rfl (fun lc lz => S_Mo_fillRow_0 lc lz) (fun lc lz => S_Mo_fillRow_2 lc lz) (fun lc lz => S_Mo_fillRow_55 lc lz) (fun lc lz => S_Mo_fillRow_94 lc lz) (by decide) ?_
  intro av h post hc hH hav
  unfold Ct_Mo_fillRow at hc
  split at hc
  rotate_left
  · exact hc.elim
  rename_i t
  obtain ⟨rfl, w, L, Q, hX, hp⟩ := hc
  refine ⟨Nat.le_of_ble_eq_true rfl, ?_⟩
  obtain ⟨mu, hmu⟩ : ∃ mu, mu = muR := ⟨_, rfl⟩
  obtain ⟨x1, x2, x3, x4, x5, x6⟩ := id hX
  have sr := st_raw x3
  have h14 := x5.2.1
  have eN := aN_eq x3
  rw [aS_atM (by decide) (by decide)] at eN
  obtain ⟨R, hR⟩ : ∃ R, R = ndA (atM h) := ⟨_, rfl⟩
  have nd : ndA (atM h) = lsF (ndI (atM h)) (aN (atM h)) 0 := rfl
  refine ⟨fun ls h' => h' = h ∧ ∃ (r : Int) (x : Option PV), ls = [some (.inr (.inl (some pMo))), some (.inl r), x] ∧ 0 ≤ r ∧ r ≤ gI h pMo_state 0 ∧ (∀ j, 0 ≤ j → j < r → ndI (atM h) j = 0),
    fun ls h' => Fr h h' ∧ TX L Q h' ∧ R < gI h pMo_state 0 ∧ ∃ i : Nat, ls = [some (.inr (.inl (some pMo))), some (.inl R), some (.inl i)] ∧ (i : Int) ≤ gI h pMo 14 ∧ fwA L (wM h) (uM h) ((wM h).drop i) (atM h') = fwA L (wM h) (uM h) (wM h) (setM (atM h) R),
    fun ls h' => Fr h h' ∧ TX L Q h' ∧ R < gI h pMo_state 0 ∧ (fwA L (wM h) (uM h) (wM h) (setM (atM h) R)).2 ≠ 0 ∧ ∃ c : Int, ls = [some (.inr (.inl (some pMo))), some (.inl R), some (.inl c)] ∧ 0 ≤ c ∧ c ≤ L ∧ fcA L (wM h) (uM h) (L - c).toNat c (atM h') = fcA L (wM h) (uM h) L.toNat 0 (fwA L (wM h) (uM h) (wM h) (setM (atM h) R)).1, mu, ?_, ?_, ?_, ?_⟩
  · rintro ls h' ⟨rfl, r, x, rfl, r0, r1, hj⟩
    simp (decide := true) only [B_Mo_fillRow_0, B_Mo_fillRow_2, B_Mo_fillRow_30, B_Mo_fillRow_36, B_Mo_fillRow_48, B_Mo_fillRow_55, B_Mo_fillRow_86, B_Mo_fillRow_92, B_Mo_fillRow_94, B_Mo_fillRow_133, B_Mo_fillRow_149, B_Mo_fillRow_178, B_Mo_fillRow_187, B_Mo_fillRow_196, B_Mo_fillRow_202, B_Mo_fillRow_219, Ct_Mo_fill, Ct_Mo_isWorking, Ct_Mo_hasPlace, Ct_Mo_seeksPlace, Ct_Mo_newAt, tt_ci, tt_cl, tt_nul, tt_il, tt_al, tt_ll, tt_is, tt_as, tt_ls, tt_inc, tt_add, tt_sub, tt_mul, tt_div, tt_rem, tt_ladd, tt_lmul, tt_ldiv, tt_lrem, tt_zeq, tt_zne, tt_zlt, tt_zge, tt_zgt, tt_zle, tt_ceq, tt_cne, tt_clt, tt_cge, tt_cgt, tt_cle, tt_nn, tt_cut, tt_pop, tt_dup, tt_dup2, tt_gI, tt_gR, tt_pI, tt_pZ, tt_pR, tt_ia, tt_ba, tt_za, tt_iS, tt_bS, tt_zS, tt_aa, tt_aS, tt_len, tt_and, tt_xor, tt_shr, tt_ushr, tt_lcmp, tt_i2b, tt_i2l, tt_l2i, tt_sw, swG, tt_ir, tt_zr, tt_br, tt_lr, tt_ar, tt_vr, tt_cV, tt_cS, tt_min, tt_max, tt_acp, pI, pII, pO, pA, pIA, pIIA, pOA, pOIA, pL, pLL, pLIA, pV, pCP, lI, lO, lL, nth, stL, clL, entA, fitL, rcv, List.take_succ_cons, List.take_zero, List.drop_succ_cons, List.drop_zero, List.reverse_cons, List.reverse_nil, List.nil_append, List.cons_append, List.length_cons, List.length_nil, Option.toList_some, Option.toList_none, gI_sI, gI_sA, gR_sI, gR_sA, gI_sR, gR_sR, hN_sI, hN_sA, hN_sR, isO_sI, isO_sA, isO_sR, isAr_sI, isAr_sA, isAr_sR, hC_sI, hC_sA, hC_sR, hZ_sI, hZ_sA, hZ_sR, MW_sI, MW_sA, true_and, and_true, true_or, or_true, and_self, forall_const, imp_self, implies_true, if_true, if_false, false_and, and_false, false_or, or_false, not_false_eq_true, not_true_eq_false, sI_sI, mr_tape w, mr_text w, mr_words w, mr_wordSize w, mr_subs w, mr_subSize w, mr_asked w, mr_pile w, mr_pileSize w, mr_opened w, mr_openedAt w, mr_begun w, mr_cells w, mr_keptCells w, mr_name w, mr_isLeft w, mr_isDone w, mr_keptLeft w, mr_keptDone w, mr_state w, mr_keptState w, mr_newOf w, mr_oldOf w, mr_spare w, mr_spareDone w, mr_out w, mr_metFrom w, mr_metBy w, mr_far w, mr_low w, mr_lows w, mr_lowSize w, mr_triedRow w, mr_triedColumn w, mr_triedValue w, mr_triedRows w, mr_sheet w, ma_tape w, ma_text w, ma_words w, ma_wordSize w, ma_subs w, ma_subSize w, ma_asked w, ma_pile w, ma_pileSize w, ma_opened w, ma_openedAt w, ma_begun w, ma_cells w, ma_keptCells w, ma_name w, ma_isLeft w, ma_isDone w, ma_keptLeft w, ma_keptDone w, ma_state w, ma_keptState w, ma_newOf w, ma_oldOf w, ma_spare w, ma_spareDone w, ma_out w, ma_metFrom w, ma_metBy w, ma_far w, ma_low w, ma_lows w, ma_lowSize w, ma_triedRow w, ma_triedColumn w, ma_triedValue w, ma_triedRows w, ma_sheet w, ml_tape, ml_text, ml_words, ml_wordSize, ml_subs, ml_subSize, ml_asked, ml_pile, ml_pileSize, ml_opened, ml_openedAt, ml_begun, ml_cells, ml_keptCells, ml_name, ml_isLeft, ml_isDone, ml_keptLeft, ml_keptDone, ml_state, ml_keptState, ml_newOf, ml_oldOf, ml_spare, ml_spareDone, ml_out, ml_metFrom, ml_metBy, ml_far, ml_low, ml_lows, ml_lowSize, ml_triedRow, ml_triedColumn, ml_triedValue, ml_triedRows, ml_sheet, mo_O w]
    have next : ndI (atM h') r = 0 → ∀ j, 0 ≤ j → j < r + 1 → ndI (atM h') j = 0 := by
      intro hz j j0 j1
      by_cases e : j = r
      · rw [e]; exact hz
      · exact hj j j0 (by omega)
    have lt : mu 2 [some (.inr (.inl (some pMo))), some (.inl (r + 1)), x] h' < mu 2 [some (.inr (.inl (some pMo))), some (.inl r), x] h' ∨ ¬ r < gI h' pMo_state 0 := by
      by_cases z : r < gI h' pMo_state 0
      · left
        rw [hmu, muR_2, muR_2]
        simp only [locI, nth]
        omega
      · exact Or.inr z
    refine ⟨fun q => ⟨fun q2 => by omega, fun q2 => ?_⟩, fun q => ⟨by omega, by omega, fun q2 => ⟨⟨by omega, by omega⟩, ⟨r + 1, x, rfl, by omega, by omega, next ?_⟩, lt.resolve_right (by omega)⟩, fun q2 => ⟨by omega, by omega, fun q3 => ⟨fun q4 => ?_, fun q4 => by omega⟩, fun q3 => ⟨⟨by omega, by omega⟩, ⟨r + 1, x, rfl, by omega, by omega, next ?_⟩, lt.resolve_right (by omega)⟩⟩⟩⟩
    · have e : ndA (atM h') = aS (atM h') 0 := by
        rw [nd, aS_atM (by decide) (by decide), lsF_eq (y := r) (by omega) (by omega) hj (by omega), q2]
      have el : frA L (wM h') (uM h') (atM h') = (atM h', 1) := if_pos e
      have := hp h' (FrP_refl _ h') (by rw [el]) hX
      rw [el] at this
      exact this
    · exact if_neg (fun z => (VV_atM.mp z.1).2.2 q2)
    · have hv : VV (atM h') r := VV_atM.mpr ⟨r0, by omega, q2⟩
      have hd0 : aD (atM h') r = 0 := by
        apply Classical.byContradiction
        intro z
        exact (aD_atM hv).mp z q3
      have e : R = r := by
        rw [hR, nd]
        refine lsF_eq (by omega) (by omega) hj (fun _ => ?_)
        have : ndI (atM h') r = 1 := if_pos ⟨hv, hd0⟩
        rw [this]
        decide
      subst e
      refine ⟨⟨mine_Fr (FrP_refl _ h'), mine_TX hX (by omega) (by omega), by omega, 0, rfl, x5.1.1, ?_⟩, ?_⟩
      · rw [atM_mine]; rfl
      · rw [hmu, muR_55, muR_2]
        simp only [locI, nth]
        omega
    · refine if_neg (fun z => ?_)
      have hv : VV (atM h') r := z.1
      exact (aD_atM hv).mpr q3 z.2
  · rintro ls h1 ⟨hF, hX1, hR1, i, rfl, hi, he⟩
    have w1 := FrP_MW hF w
    have e14 := Fr_fld hF (j := 14) (by omega)
    obtain ⟨z1, z2, z3, z4⟩ := Fr_size hF
    obtain ⟨eW, eU, -⟩ := Fr_words hF
    have nR : ¬ ndA (atM h) = aS (atM h) 0 := by rw [← hR, aS_atM (by decide) (by decide)]; omega
    simp (decide := true) only [B_Mo_fillRow_0, B_Mo_fillRow_2, B_Mo_fillRow_30, B_Mo_fillRow_36, B_Mo_fillRow_48, B_Mo_fillRow_55, B_Mo_fillRow_86, B_Mo_fillRow_92, B_Mo_fillRow_94, B_Mo_fillRow_133, B_Mo_fillRow_149, B_Mo_fillRow_178, B_Mo_fillRow_187, B_Mo_fillRow_196, B_Mo_fillRow_202, B_Mo_fillRow_219, Ct_Mo_fill, Ct_Mo_isWorking, Ct_Mo_hasPlace, Ct_Mo_seeksPlace, Ct_Mo_newAt, tt_ci, tt_cl, tt_nul, tt_il, tt_al, tt_ll, tt_is, tt_as, tt_ls, tt_inc, tt_add, tt_sub, tt_mul, tt_div, tt_rem, tt_ladd, tt_lmul, tt_ldiv, tt_lrem, tt_zeq, tt_zne, tt_zlt, tt_zge, tt_zgt, tt_zle, tt_ceq, tt_cne, tt_clt, tt_cge, tt_cgt, tt_cle, tt_nn, tt_cut, tt_pop, tt_dup, tt_dup2, tt_gI, tt_gR, tt_pI, tt_pZ, tt_pR, tt_ia, tt_ba, tt_za, tt_iS, tt_bS, tt_zS, tt_aa, tt_aS, tt_len, tt_and, tt_xor, tt_shr, tt_ushr, tt_lcmp, tt_i2b, tt_i2l, tt_l2i, tt_sw, swG, tt_ir, tt_zr, tt_br, tt_lr, tt_ar, tt_vr, tt_cV, tt_cS, tt_min, tt_max, tt_acp, pI, pII, pO, pA, pIA, pIIA, pOA, pOIA, pL, pLL, pLIA, pV, pCP, lI, lO, lL, nth, stL, clL, entA, fitL, rcv, List.take_succ_cons, List.take_zero, List.drop_succ_cons, List.drop_zero, List.reverse_cons, List.reverse_nil, List.nil_append, List.cons_append, List.length_cons, List.length_nil, Option.toList_some, Option.toList_none, gI_sI, gI_sA, gR_sI, gR_sA, gI_sR, gR_sR, hN_sI, hN_sA, hN_sR, isO_sI, isO_sA, isO_sR, isAr_sI, isAr_sA, isAr_sR, hC_sI, hC_sA, hC_sR, hZ_sI, hZ_sA, hZ_sR, MW_sI, MW_sA, true_and, and_true, true_or, or_true, and_self, forall_const, imp_self, implies_true, if_true, if_false, false_and, and_false, false_or, or_false, not_false_eq_true, not_true_eq_false, sI_sI, mr_tape w1, mr_text w1, mr_words w1, mr_wordSize w1, mr_subs w1, mr_subSize w1, mr_asked w1, mr_pile w1, mr_pileSize w1, mr_opened w1, mr_openedAt w1, mr_begun w1, mr_cells w1, mr_keptCells w1, mr_name w1, mr_isLeft w1, mr_isDone w1, mr_keptLeft w1, mr_keptDone w1, mr_state w1, mr_keptState w1, mr_newOf w1, mr_oldOf w1, mr_spare w1, mr_spareDone w1, mr_out w1, mr_metFrom w1, mr_metBy w1, mr_far w1, mr_low w1, mr_lows w1, mr_lowSize w1, mr_triedRow w1, mr_triedColumn w1, mr_triedValue w1, mr_triedRows w1, mr_sheet w1, ma_tape w1, ma_text w1, ma_words w1, ma_wordSize w1, ma_subs w1, ma_subSize w1, ma_asked w1, ma_pile w1, ma_pileSize w1, ma_opened w1, ma_openedAt w1, ma_begun w1, ma_cells w1, ma_keptCells w1, ma_name w1, ma_isLeft w1, ma_isDone w1, ma_keptLeft w1, ma_keptDone w1, ma_state w1, ma_keptState w1, ma_newOf w1, ma_oldOf w1, ma_spare w1, ma_spareDone w1, ma_out w1, ma_metFrom w1, ma_metBy w1, ma_far w1, ma_low w1, ma_lows w1, ma_lowSize w1, ma_triedRow w1, ma_triedColumn w1, ma_triedValue w1, ma_triedRows w1, ma_sheet w1, ml_tape, ml_text, ml_words, ml_wordSize, ml_subs, ml_subSize, ml_asked, ml_pile, ml_pileSize, ml_opened, ml_openedAt, ml_begun, ml_cells, ml_keptCells, ml_name, ml_isLeft, ml_isDone, ml_keptLeft, ml_keptDone, ml_state, ml_keptState, ml_newOf, ml_oldOf, ml_spare, ml_spareDone, ml_out, ml_metFrom, ml_metBy, ml_far, ml_low, ml_lows, ml_lowSize, ml_triedRow, ml_triedColumn, ml_triedValue, ml_triedRows, ml_sheet, mo_O w1, e14, z1]
    refine ⟨fun q => ?_, fun q => ⟨⟨by omega, by omega⟩, by omega, by omega, w1, wrdK h i, L, Q, (FX_wrd hX hF (by omega)).1, hX1, (FX_wrd hX hF (by omega)).2.symm, fun h2 f1 f2 f3 => ?_⟩⟩
    · rw [List.drop_of_length_le (by unfold wM; rw [wdsM_len]; omega)] at he
      have he' : (atM h1, (1 : Int)) = fwA L (wM h) (uM h) (wM h) (setM (atM h) R) := he
      refine ⟨⟨hF, hX1, hR1, by rw [← he']; exact (by decide : (1 : Int) ≠ 0), 0, rfl, by omega, by omega, ?_⟩, ?_⟩
      · rw [← he', show L - 0 = L by omega]
      · rw [hmu, muR_94, muR_55]
        simp only [locI, nth]
        omega
    · have hF2 : Fr h h2 := FrP_trans hF f1
      have hd : (wM h).drop i = wrdK h i :: (wM h).drop (i + 1) := wdsM_drop (by omega)
      rw [hd] at he
      rw [eW, eU] at f2 ⊢
      have ue : fwA L (wM h) (uM h) (wrdK h i :: (wM h).drop (i + 1)) (atM h1) = if (filA L (wM h) (uM h) (wrdK h i) (atM h1)).2 ≠ 0 then fwA L (wM h) (uM h) ((wM h).drop (i + 1)) (filA L (wM h) (uM h) (wrdK h i) (atM h1)).1 else ((filA L (wM h) (uM h) (wrdK h i) (atM h1)).1, 0) := rfl
      rw [he] at ue
      refine ⟨fun q2 => ⟨⟨by omega, by omega⟩, ⟨hF2, f3, hR1, i + 1, by push_cast; rfl, by omega, ?_⟩, ?_⟩, fun q2 => ?_⟩
      · rw [ue, if_pos q2, f2]
      · rw [hmu, muR_55, muR_55]
        simp only [locI, nth]
        omega
      · rw [if_neg (fun z => z q2)] at ue
        have el : frA L (wM h) (uM h) (atM h) = (atM h2, 0) := by
          unfold frA
          rw [if_neg nR, ← hR, ue, if_pos rfl, f2]
        have := hp h2 hF2 (by rw [el]) f3
        rw [el] at this
        exact ⟨this, hF2.2.2.2.1, hF2.2.2.2.2⟩
  · rintro ls h1 ⟨hF, hX1, hR1, hnz, c, rfl, c0, c1, he⟩
    have w1 := FrP_MW hF w
    have e0 := Fr_fld hF (j := 0) (by omega)
    have nR : ¬ ndA (atM h) = aS (atM h) 0 := by rw [← hR, aS_atM (by decide) (by decide)]; omega
    have sr1 := st_raw hX1.2.2.1
    have wr1 := wk_raw hX1.2.2.1
    have lt : c < L → ∀ h2, mu 94 (frS R (c + 1)) h2 < mu 94 (frS R c) h1 := by
      intro cl h2
      rw [hmu, muR_94, muR_94]
      simp only [frS, locI, nth]
      omega
    have hL := x1
    simp (decide := true) only [B_Mo_fillRow_0, B_Mo_fillRow_2, B_Mo_fillRow_30, B_Mo_fillRow_36, B_Mo_fillRow_48, B_Mo_fillRow_55, B_Mo_fillRow_86, B_Mo_fillRow_92, B_Mo_fillRow_94, B_Mo_fillRow_149, B_Mo_fillRow_178, B_Mo_fillRow_187, B_Mo_fillRow_196, B_Mo_fillRow_202, B_Mo_fillRow_219, Ct_Mo_fill, Ct_Mo_isWorking, Ct_Mo_hasPlace, Ct_Mo_seeksPlace, Ct_Mo_newAt, tt_ci, tt_cl, tt_nul, tt_il, tt_al, tt_ll, tt_is, tt_as, tt_ls, tt_inc, tt_add, tt_sub, tt_mul, tt_div, tt_rem, tt_ladd, tt_lmul, tt_ldiv, tt_lrem, tt_zeq, tt_zne, tt_zlt, tt_zge, tt_zgt, tt_zle, tt_ceq, tt_cne, tt_clt, tt_cge, tt_cgt, tt_cle, tt_nn, tt_cut, tt_pop, tt_dup, tt_dup2, tt_gI, tt_gR, tt_pI, tt_pZ, tt_pR, tt_ia, tt_ba, tt_za, tt_iS, tt_bS, tt_zS, tt_aa, tt_aS, tt_len, tt_and, tt_xor, tt_shr, tt_ushr, tt_lcmp, tt_i2b, tt_i2l, tt_l2i, tt_sw, swG, tt_ir, tt_zr, tt_br, tt_lr, tt_ar, tt_vr, tt_cV, tt_cS, tt_min, tt_max, tt_acp, pI, pII, pO, pA, pIA, pIIA, pOA, pOIA, pL, pLL, pLIA, pV, pCP, lI, lO, lL, nth, stL, clL, entA, fitL, rcv, List.take_succ_cons, List.take_zero, List.drop_succ_cons, List.drop_zero, List.reverse_cons, List.reverse_nil, List.nil_append, List.cons_append, List.length_cons, List.length_nil, Option.toList_some, Option.toList_none, gI_sI, gI_sA, gR_sI, gR_sA, gI_sR, gR_sR, hN_sI, hN_sA, hN_sR, isO_sI, isO_sA, isO_sR, isAr_sI, isAr_sA, isAr_sR, hC_sI, hC_sA, hC_sR, hZ_sI, hZ_sA, hZ_sR, MW_sI, MW_sA, true_and, and_true, true_or, or_true, and_self, forall_const, imp_self, implies_true, if_true, if_false, false_and, and_false, false_or, or_false, not_false_eq_true, not_true_eq_false, sI_sI, mr_tape w1, mr_text w1, mr_words w1, mr_wordSize w1, mr_subs w1, mr_subSize w1, mr_asked w1, mr_pile w1, mr_pileSize w1, mr_opened w1, mr_openedAt w1, mr_begun w1, mr_cells w1, mr_keptCells w1, mr_name w1, mr_isLeft w1, mr_isDone w1, mr_keptLeft w1, mr_keptDone w1, mr_state w1, mr_keptState w1, mr_newOf w1, mr_oldOf w1, mr_spare w1, mr_spareDone w1, mr_out w1, mr_metFrom w1, mr_metBy w1, mr_far w1, mr_low w1, mr_lows w1, mr_lowSize w1, mr_triedRow w1, mr_triedColumn w1, mr_triedValue w1, mr_triedRows w1, mr_sheet w1, ma_tape w1, ma_text w1, ma_words w1, ma_wordSize w1, ma_subs w1, ma_subSize w1, ma_asked w1, ma_pile w1, ma_pileSize w1, ma_opened w1, ma_openedAt w1, ma_begun w1, ma_cells w1, ma_keptCells w1, ma_name w1, ma_isLeft w1, ma_isDone w1, ma_keptLeft w1, ma_keptDone w1, ma_state w1, ma_keptState w1, ma_newOf w1, ma_oldOf w1, ma_spare w1, ma_spareDone w1, ma_out w1, ma_metFrom w1, ma_metBy w1, ma_far w1, ma_low w1, ma_lows w1, ma_lowSize w1, ma_triedRow w1, ma_triedColumn w1, ma_triedValue w1, ma_triedRows w1, ma_sheet w1, ml_tape, ml_text, ml_words, ml_wordSize, ml_subs, ml_subSize, ml_asked, ml_pile, ml_pileSize, ml_opened, ml_openedAt, ml_begun, ml_cells, ml_keptCells, ml_name, ml_isLeft, ml_isDone, ml_keptLeft, ml_keptDone, ml_state, ml_keptState, ml_newOf, ml_oldOf, ml_spare, ml_spareDone, ml_out, ml_metFrom, ml_metBy, ml_far, ml_low, ml_lows, ml_lowSize, ml_triedRow, ml_triedColumn, ml_triedValue, ml_triedRows, ml_sheet, mo_O w1, e0]
    refine ⟨⟨by omega, by omega⟩, fun q => ?_, fun q => ?_⟩
    · have cL : c = L := by omega
      rw [cL, show (L - L).toNat = 0 by omega] at he
      have he' : (atM h1, (1 : Int)) = fcA L (wM h) (uM h) L.toNat 0 (fwA L (wM h) (uM h) (wM h) (setM (atM h) R)).1 := he
      have el : frA L (wM h) (uM h) (atM h) = (mkD (atM h1), 1) := by
        unfold frA
        rw [if_neg nR, ← hR, if_neg hnz, ← he', if_neg (by exact (by decide : ¬ (1 : Int) = 0))]
      rw [el] at hp
      refine ⟨w1, by omega, fun z => ?_, fun z => ?_⟩
      · have nk : ¬ wkg (atM h1) := fun t => by rw [if_pos (wr1.mp t)] at z; exact absurd z (by decide)
        refine ⟨hp h1 hF ?_ hX1, hF.2.2.2.1, hF.2.2.2.2⟩
        unfold mkD
        rw [if_neg nk]
      · have hk : wkg (atM h1) := wr1.mpr (by
          apply Classical.byContradiction
          intro t
          exact z (if_neg t))
        have v1 := VV_atM.mp hk.2
        rw [aM_atM] at v1
        have f1 : Fr h1 (sI h1 pMo_isDone (gI h1 pMo 39) 1) := FrP_sI (Or.inr (Or.inr (Or.inl rfl))) (FrP_refl _ h1)
        have ad := atM_done hX1.2.2.1 hk
        refine ⟨v1.1, by omega, hp _ (FrP_trans hF f1) ad (TX_Fr hX1 f1 (by rw [ad]; exact WT_mkD hX1.2.2.1) (fun j => ?_)), hF.2.2.2.1, hF.2.2.2.2⟩
        rw [gI_sI, if_neg (fun t => absurd t.1 (by decide)), gI_sI]
        refine ⟨(hX1.2.2.2.2.2 j).1, ?_⟩
        split
        · exact Or.inr rfl
        · exact (hX1.2.2.2.2.2 j).2
    · have cl : c < L := by omega
      have en : (L - c).toNat = (L - (c + 1)).toNat + 1 := by omega
      rw [en] at he
      have fe : fcA L (wM h) (uM h) ((L - (c + 1)).toNat + 1) c (atM h1) = if wkg (atM h1) ∧ aE (atM h1) (aM (atM h1)) c = -2 then _ else fcA L (wM h) (uM h) (L - (c + 1)).toNat (c + 1) (atM h1) := rfl
      have goes : ¬ (wkg (atM h1) ∧ aE (atM h1) (aM (atM h1)) c = -2) → (Fr h h1 ∧ TX L Q h1 ∧ R < gI h pMo_state 0 ∧ (fwA L (wM h) (uM h) (wM h) (setM (atM h) R)).2 ≠ 0 ∧ ∃ c_1 : Int, ([some (.inr (.inl (some pMo))), some (.inl R), some (.inl (c + 1))] : LSt) = [some (.inr (.inl (some pMo))), some (.inl R), some (.inl c_1)] ∧ 0 ≤ c_1 ∧ c_1 ≤ L ∧ fcA L (wM h) (uM h) (L - c_1).toNat c_1 (atM h1) = fcA L (wM h) (uM h) L.toNat 0 (fwA L (wM h) (uM h) (wM h) (setM (atM h) R)).1) ∧ mu 94 [some (.inr (.inl (some pMo))), some (.inl R), some (.inl (c + 1))] h1 < mu 94 [some (.inr (.inl (some pMo))), some (.inl R), some (.inl c)] h1 := by
        intro z
        rw [if_neg z] at fe
        exact ⟨⟨hF, hX1, hR1, hnz, c + 1, rfl, by omega, by omega, by rw [← fe]; exact he⟩, lt cl h1⟩
      refine ⟨w1, by omega, fun z => ⟨⟨by omega, by omega⟩, goes (fun t => ?_)⟩, fun z => ?_⟩
      · rw [if_pos (wr1.mp t.1)] at z
        exact absurd z (by decide)
      · have hk : wkg (atM h1) := wr1.mpr (by
          apply Classical.byContradiction
          intro t
          exact z (if_neg t))
        have v1 := VV_atM.mp hk.2
        rw [aM_atM] at v1
        have eE : aE (atM h1) (aM (atM h1)) c = gI h1 pMo_cells (10 * gI h1 pMo 39 + c) := aE_atM hk.2 c0 (by omega)
        rw [← eE]
        refine ⟨⟨by omega, by omega⟩, ⟨by omega, by omega⟩, by omega, by omega, fun q3 => ?_, fun q3 => ⟨⟨by omega, by omega⟩, goes (fun t => q3 t.2)⟩⟩
        refine row_133 (R := R) (c := c) (n := (L - (c + 1)).toNat) w hF hX1 hk c0 cl q3 (fun h2 g1 g2 g3 => Or.inr (Or.inr ⟨rfl, ⟨g1, g2, hR1, hnz, c + 1, rfl, by omega, by omega, by rw [g3]; exact he⟩, lt cl h2⟩)) (fun h2 g1 g2 g3 => ?_)
        rw [he] at g3
        have el : frA L (wM h) (uM h) (atM h) = (atM h2, 0) := by
          unfold frA
          rw [if_neg nR, ← hR, if_neg hnz, ← g3, if_pos rfl]
        rw [el] at hp
        exact ⟨hp h2 g1 rfl g2, g1.2.2.2.1, g1.2.2.2.2⟩
  · simp (decide := true) only [B_Mo_fillRow_0, B_Mo_fillRow_2, B_Mo_fillRow_30, B_Mo_fillRow_36, B_Mo_fillRow_48, B_Mo_fillRow_55, B_Mo_fillRow_86, B_Mo_fillRow_92, B_Mo_fillRow_94, B_Mo_fillRow_133, B_Mo_fillRow_149, B_Mo_fillRow_178, B_Mo_fillRow_187, B_Mo_fillRow_196, B_Mo_fillRow_202, B_Mo_fillRow_219, Ct_Mo_fill, Ct_Mo_isWorking, Ct_Mo_hasPlace, Ct_Mo_seeksPlace, Ct_Mo_newAt, tt_ci, tt_cl, tt_nul, tt_il, tt_al, tt_ll, tt_is, tt_as, tt_ls, tt_inc, tt_add, tt_sub, tt_mul, tt_div, tt_rem, tt_ladd, tt_lmul, tt_ldiv, tt_lrem, tt_zeq, tt_zne, tt_zlt, tt_zge, tt_zgt, tt_zle, tt_ceq, tt_cne, tt_clt, tt_cge, tt_cgt, tt_cle, tt_nn, tt_cut, tt_pop, tt_dup, tt_dup2, tt_gI, tt_gR, tt_pI, tt_pZ, tt_pR, tt_ia, tt_ba, tt_za, tt_iS, tt_bS, tt_zS, tt_aa, tt_aS, tt_len, tt_and, tt_xor, tt_shr, tt_ushr, tt_lcmp, tt_i2b, tt_i2l, tt_l2i, tt_sw, swG, tt_ir, tt_zr, tt_br, tt_lr, tt_ar, tt_vr, tt_cV, tt_cS, tt_min, tt_max, tt_acp, pI, pII, pO, pA, pIA, pIIA, pOA, pOIA, pL, pLL, pLIA, pV, pCP, lI, lO, lL, nth, stL, clL, entA, fitL, rcv, List.take_succ_cons, List.take_zero, List.drop_succ_cons, List.drop_zero, List.reverse_cons, List.reverse_nil, List.nil_append, List.cons_append, List.length_cons, List.length_nil, Option.toList_some, Option.toList_none, gI_sI, gI_sA, gR_sI, gR_sA, gI_sR, gR_sR, hN_sI, hN_sA, hN_sR, isO_sI, isO_sA, isO_sR, isAr_sI, isAr_sA, isAr_sR, hC_sI, hC_sA, hC_sR, hZ_sI, hZ_sA, hZ_sR, MW_sI, MW_sA, true_and, and_true, true_or, or_true, and_self, forall_const, imp_self, implies_true, if_true, if_false, false_and, and_false, false_or, or_false, not_false_eq_true, not_true_eq_false, sI_sI, mr_tape w, mr_text w, mr_words w, mr_wordSize w, mr_subs w, mr_subSize w, mr_asked w, mr_pile w, mr_pileSize w, mr_opened w, mr_openedAt w, mr_begun w, mr_cells w, mr_keptCells w, mr_name w, mr_isLeft w, mr_isDone w, mr_keptLeft w, mr_keptDone w, mr_state w, mr_keptState w, mr_newOf w, mr_oldOf w, mr_spare w, mr_spareDone w, mr_out w, mr_metFrom w, mr_metBy w, mr_far w, mr_low w, mr_lows w, mr_lowSize w, mr_triedRow w, mr_triedColumn w, mr_triedValue w, mr_triedRows w, mr_sheet w, ma_tape w, ma_text w, ma_words w, ma_wordSize w, ma_subs w, ma_subSize w, ma_asked w, ma_pile w, ma_pileSize w, ma_opened w, ma_openedAt w, ma_begun w, ma_cells w, ma_keptCells w, ma_name w, ma_isLeft w, ma_isDone w, ma_keptLeft w, ma_keptDone w, ma_state w, ma_keptState w, ma_newOf w, ma_oldOf w, ma_spare w, ma_spareDone w, ma_out w, ma_metFrom w, ma_metBy w, ma_far w, ma_low w, ma_lows w, ma_lowSize w, ma_triedRow w, ma_triedColumn w, ma_triedValue w, ma_triedRows w, ma_sheet w, ml_tape, ml_text, ml_words, ml_wordSize, ml_subs, ml_subSize, ml_asked, ml_pile, ml_pileSize, ml_opened, ml_openedAt, ml_begun, ml_cells, ml_keptCells, ml_name, ml_isLeft, ml_isDone, ml_keptLeft, ml_keptDone, ml_state, ml_keptState, ml_newOf, ml_oldOf, ml_spare, ml_spareDone, ml_out, ml_metFrom, ml_metBy, ml_far, ml_low, ml_lows, ml_lowSize, ml_triedRow, ml_triedColumn, ml_triedValue, ml_triedRows, ml_sheet, mo_O w]
    exact ⟨0, _, rfl, by omega, by omega, fun j j0 j1 => by omega⟩
