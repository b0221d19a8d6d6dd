/-! THE MODEL'S packRows -/
def kk (h : PH) (x : Int) : Int := cnN (gI h pMo_isLeft) x.toNat
def pv (h : PH) (s : Int) : Int := if s = -2 then -2 else kk h s
def P2 (b : Nat) (_ : Int) : Prop := b = pMo_name ∨ b = pMo_cells ∨ b = pMo_isDone
def P3 (b : Nat) (_ : Int) : Prop := b = pMo_name ∨ b = pMo_cells ∨ b = pMo_isDone ∨ b = pMo_isLeft
theorem kk_nn {h : PH} {x : Int} : 0 ≤ kk h x := by unfold kk; omega
theorem kk_le {h : PH} {x : Int} (h0 : 0 ≤ x) : kk h x ≤ x := by
  have := cnN_bound (gI h pMo_isLeft) x.toNat
  unfold kk
  omega
theorem kk_succ {h : PH} {x : Int} (h0 : 0 ≤ x) (hx : gI h pMo_isLeft x ≠ 0) : kk h (x + 1) = kk h x + 1 := by
  unfold kk
  rw [show (x + 1).toNat = x.toNat + 1 by omega, cnN_succ (by rw [show ((x.toNat : Nat) : Int) = x by omega]; exact hx)]
  push_cast
  rfl
theorem kk_skip {h : PH} {x : Int} (h0 : 0 ≤ x) (hx : gI h pMo_isLeft x = 0) : kk h (x + 1) = kk h x := by
  unfold kk
  rw [show (x + 1).toNat = x.toNat + 1 by omega, cnN_skip (by rw [show ((x.toNat : Nat) : Int) = x by omega]; exact hx)]
theorem kk_lt {h : PH} {x y : Int} (h0 : 0 ≤ x) (hx : gI h pMo_isLeft x ≠ 0) (hy : x < y) : kk h x < kk h y := by
  unfold kk
  have := cnN_slt (f := gI h pMo_isLeft) (r := x.toNat) (s := y.toNat) (by rw [show ((x.toNat : Nat) : Int) = x by omega]; exact hx) (by omega)
  omega
/-- the rows below R are packed -/
def pkd (h h' : PH) (R : Int) : Prop := (∀ r, 0 ≤ r → r < R → gI h pMo_isLeft r ≠ 0 → (∀ c, 0 ≤ c → c < 10 → gI h' pMo_cells (10 * kk h r + c) = pv h (gI h pMo_cells (10 * r + c))) ∧ gI h' pMo_isDone (kk h r) = gI h pMo_isDone r)
def Ct_Mo_packRows : CtT := fun av h post => match av with
  | [.inr (.inl (some t))] => t = pMo ∧ MW h ∧ ∃ (L Q : Int), (2 ≤ L ∧ L ≤ 10) ∧ L % 2 = 0 ∧ WT L Q (atM h) ∧ Q ≤ 100000 ∧ BB h ∧
      ∀ h', Fr h h' → atM h' = pkA (atM h) → BB h' → post none h'
  | _ => False
def B_Mo_packRows_219 : TT := (tt_al 0 (tt_gR 9 30 (tt_ci 0 (tt_il 1 (tt_iS (tt_al 0 (tt_gR 9 30 (tt_ci 7 (tt_dup2 (tt_ia (tt_ci 1 (tt_add (tt_iS (tt_al 0 (tt_gR 9 30 (tt_ci 10 (tt_ci 0 (tt_iS (tt_al 0 (tt_il 2 (tt_pI 9 39 tt_vr)))))))))))))))))))))
theorem S_Mo_packRows_219 (lc lz : Nat) : Snd md_Mo_packRows lc lz 219 (B_Mo_packRows_219) := (snd_al_n (n := 0) (dget dd_Mo_packRows 122 rfl) rfl (snd_gR (kn := 30) fd_Mo_76 rfl (dget dd_Mo_packRows 123 rfl) (snd_iconst (n := 0) (dget dd_Mo_packRows 124 rfl) (inR_d rfl) rfl (snd_il_n (n := 1) (dget dd_Mo_packRows 125 rfl) rfl (snd_iS (dget dd_Mo_packRows 126 rfl) (snd_al_n (n := 0) (dget dd_Mo_packRows 127 rfl) rfl (snd_gR (kn := 30) fd_Mo_76 rfl (dget dd_Mo_packRows 128 rfl) (snd_bipush (n := 7) (dget dd_Mo_packRows 129 rfl) (inR_d rfl) (by decide) (snd_dup2 (dget dd_Mo_packRows 130 rfl) (snd_ia (dget dd_Mo_packRows 131 rfl) (snd_iconst (n := 1) (dget dd_Mo_packRows 132 rfl) (inR_d rfl) rfl (snd_add (dget dd_Mo_packRows 133 rfl) (snd_iS (dget dd_Mo_packRows 134 rfl) (snd_al_n (n := 0) (dget dd_Mo_packRows 135 rfl) rfl (snd_gR (kn := 30) fd_Mo_76 rfl (dget dd_Mo_packRows 136 rfl) (snd_bipush (n := 10) (dget dd_Mo_packRows 137 rfl) (inR_d rfl) (by decide) (snd_iconst (n := 0) (dget dd_Mo_packRows 138 rfl) (inR_d rfl) rfl (snd_iS (dget dd_Mo_packRows 139 rfl) (snd_al_n (n := 0) (dget dd_Mo_packRows 140 rfl) rfl (snd_il_n (n := 2) (dget dd_Mo_packRows 141 rfl) rfl (snd_pI (kn := 39) fd_Mo_272 rfl (dget dd_Mo_packRows 142 rfl) (snd_vr (dget dd_Mo_packRows 143 rfl) rfl))))))))))))))))))))))
def B_Mo_packRows_212 : TT := (tt_zS (tt_inc 3 1 (tt_cut 187)))
theorem S_Mo_packRows_212 (lc lz : Nat) : Snd md_Mo_packRows lc lz 212 (B_Mo_packRows_212) := (snd_zS (dget dd_Mo_packRows 119 rfl) (snd_inc (dget dd_Mo_packRows 120 rfl) (snd_goto (tg := 187) (dget dd_Mo_packRows 121 rfl) rfl snd_cut)))
def B_Mo_packRows_211 : TT := (tt_ci 0 (B_Mo_packRows_212))
theorem S_Mo_packRows_211 (lc lz : Nat) : Snd md_Mo_packRows lc lz 211 (B_Mo_packRows_211) := (snd_iconst (n := 0) (dget dd_Mo_packRows 118 rfl) (inR_d rfl) rfl (S_Mo_packRows_212 lc lz))
def B_Mo_packRows_187 : TT := (tt_il 3 (tt_al 0 (tt_gR 9 30 (tt_ci 0 (tt_ia (tt_cge (B_Mo_packRows_219) (tt_al 0 (tt_gR 9 26 (tt_il 3 (tt_il 3 (tt_il 1 (tt_cge (B_Mo_packRows_211) (tt_ci 1 (B_Mo_packRows_212))))))))))))))
theorem S_Mo_packRows_187 (lc lz : Nat) : Snd md_Mo_packRows lc lz 187 (B_Mo_packRows_187) := (snd_il_n (n := 3) (dget dd_Mo_packRows 104 rfl) rfl (snd_al_n (n := 0) (dget dd_Mo_packRows 105 rfl) rfl (snd_gR (kn := 30) fd_Mo_76 rfl (dget dd_Mo_packRows 106 rfl) (snd_iconst (n := 0) (dget dd_Mo_packRows 107 rfl) (inR_d rfl) rfl (snd_ia (dget dd_Mo_packRows 108 rfl) (snd_cge (tg := 219) (dget dd_Mo_packRows 109 rfl) rfl (S_Mo_packRows_219 lc lz) (snd_al_n (n := 0) (dget dd_Mo_packRows 110 rfl) rfl (snd_gR (kn := 26) fd_Mo_63 rfl (dget dd_Mo_packRows 111 rfl) (snd_il_n (n := 3) (dget dd_Mo_packRows 112 rfl) rfl (snd_il_n (n := 3) (dget dd_Mo_packRows 113 rfl) rfl (snd_il_n (n := 1) (dget dd_Mo_packRows 114 rfl) rfl (snd_cge (tg := 211) (dget dd_Mo_packRows 115 rfl) rfl (S_Mo_packRows_211 lc lz) (snd_iconst (n := 1) (dget dd_Mo_packRows 116 rfl) (inR_d rfl) rfl (snd_goto (tg := 212) (dget dd_Mo_packRows 117 rfl) rfl (S_Mo_packRows_212 lc lz)))))))))))))))
def B_Mo_packRows_185 : TT := (tt_ci 0 (tt_is 3 (tt_cut 187)))
theorem S_Mo_packRows_185 (lc lz : Nat) : Snd md_Mo_packRows lc lz 185 (B_Mo_packRows_185) := (snd_iconst (n := 0) (dget dd_Mo_packRows 102 rfl) (inR_d rfl) rfl (snd_is_n (n := 3) (dget dd_Mo_packRows 103 rfl) rfl snd_cut))
def B_Mo_packRows_179 : TT := (tt_inc 3 1 (tt_cut 74))
theorem S_Mo_packRows_179 (lc lz : Nat) : Snd md_Mo_packRows lc lz 179 (B_Mo_packRows_179) := (snd_inc (dget dd_Mo_packRows 100 rfl) (snd_goto (tg := 74) (dget dd_Mo_packRows 101 rfl) rfl snd_cut))
def B_Mo_packRows_166 : TT := (tt_al 0 (tt_gR 9 27 (tt_il 4 (tt_al 0 (tt_gR 9 27 (tt_il 3 (tt_za (tt_zS (B_Mo_packRows_179)))))))))
theorem S_Mo_packRows_166 (lc lz : Nat) : Snd md_Mo_packRows lc lz 166 (B_Mo_packRows_166) := (snd_al_n (n := 0) (dget dd_Mo_packRows 92 rfl) rfl (snd_gR (kn := 27) fd_Mo_67 rfl (dget dd_Mo_packRows 93 rfl) (snd_il (dget dd_Mo_packRows 94 rfl) (snd_al_n (n := 0) (dget dd_Mo_packRows 95 rfl) rfl (snd_gR (kn := 27) fd_Mo_67 rfl (dget dd_Mo_packRows 96 rfl) (snd_il_n (n := 3) (dget dd_Mo_packRows 97 rfl) rfl (snd_za (dget dd_Mo_packRows 98 rfl) (snd_zS (dget dd_Mo_packRows 99 rfl) (S_Mo_packRows_179 lc lz)))))))))
def B_Mo_packRows_159 : TT := (tt_iS (tt_inc 5 1 (tt_cut 107)))
theorem S_Mo_packRows_159 (lc lz : Nat) : Snd md_Mo_packRows lc lz 159 (B_Mo_packRows_159) := (snd_iS (dget dd_Mo_packRows 89 rfl) (snd_inc (dget dd_Mo_packRows 90 rfl) (snd_goto (tg := 107) (dget dd_Mo_packRows 91 rfl) rfl snd_cut)))
def B_Mo_packRows_152 : TT := (tt_al 0 (tt_gR 9 25 (tt_il 6 (tt_ia (B_Mo_packRows_159)))))
theorem S_Mo_packRows_152 (lc lz : Nat) : Snd md_Mo_packRows lc lz 152 (B_Mo_packRows_152) := (snd_al_n (n := 0) (dget dd_Mo_packRows 85 rfl) rfl (snd_gR (kn := 25) fd_Mo_60 rfl (dget dd_Mo_packRows 86 rfl) (snd_il (dget dd_Mo_packRows 87 rfl) (snd_ia (dget dd_Mo_packRows 88 rfl) (S_Mo_packRows_159 lc lz)))))
def B_Mo_packRows_107 : TT := (tt_il 5 (tt_ci 10 (tt_cge (B_Mo_packRows_166) (tt_al 0 (tt_gR 9 23 (tt_ci 10 (tt_il 3 (tt_mul (tt_il 5 (tt_add (tt_ia (tt_is 6 (tt_al 0 (tt_gR 9 23 (tt_ci 10 (tt_il 4 (tt_mul (tt_il 5 (tt_add (tt_il 6 (tt_ci (-2) (tt_cne (B_Mo_packRows_152) (tt_ci (-2) (B_Mo_packRows_159))))))))))))))))))))))))
theorem S_Mo_packRows_107 (lc lz : Nat) : Snd md_Mo_packRows lc lz 107 (B_Mo_packRows_107) := (snd_il (dget dd_Mo_packRows 61 rfl) (snd_bipush (n := 10) (dget dd_Mo_packRows 62 rfl) (inR_d rfl) (by decide) (snd_cge (tg := 166) (dget dd_Mo_packRows 63 rfl) rfl (S_Mo_packRows_166 lc lz) (snd_al_n (n := 0) (dget dd_Mo_packRows 64 rfl) rfl (snd_gR (kn := 23) fd_Mo_54 rfl (dget dd_Mo_packRows 65 rfl) (snd_bipush (n := 10) (dget dd_Mo_packRows 66 rfl) (inR_d rfl) (by decide) (snd_il_n (n := 3) (dget dd_Mo_packRows 67 rfl) rfl (snd_mul (dget dd_Mo_packRows 68 rfl) (snd_il (dget dd_Mo_packRows 69 rfl) (snd_add (dget dd_Mo_packRows 70 rfl) (snd_ia (dget dd_Mo_packRows 71 rfl) (snd_is (dget dd_Mo_packRows 72 rfl) (snd_al_n (n := 0) (dget dd_Mo_packRows 73 rfl) rfl (snd_gR (kn := 23) fd_Mo_54 rfl (dget dd_Mo_packRows 74 rfl) (snd_bipush (n := 10) (dget dd_Mo_packRows 75 rfl) (inR_d rfl) (by decide) (snd_il (dget dd_Mo_packRows 76 rfl) (snd_mul (dget dd_Mo_packRows 77 rfl) (snd_il (dget dd_Mo_packRows 78 rfl) (snd_add (dget dd_Mo_packRows 79 rfl) (snd_il (dget dd_Mo_packRows 80 rfl) (snd_bipush (n := -2) (dget dd_Mo_packRows 81 rfl) (inR_d rfl) (by decide) (snd_cne (tg := 152) (dget dd_Mo_packRows 82 rfl) rfl (S_Mo_packRows_152 lc lz) (snd_bipush (n := -2) (dget dd_Mo_packRows 83 rfl) (inR_d rfl) (by decide) (snd_goto (tg := 159) (dget dd_Mo_packRows 84 rfl) rfl (S_Mo_packRows_159 lc lz)))))))))))))))))))))))))
def B_Mo_packRows_96 : TT := (tt_al 0 (tt_gR 9 25 (tt_il 3 (tt_ia (tt_is 4 (tt_ci 0 (tt_is 5 (tt_cut 107))))))))
theorem S_Mo_packRows_96 (lc lz : Nat) : Snd md_Mo_packRows lc lz 96 (B_Mo_packRows_96) := (snd_al_n (n := 0) (dget dd_Mo_packRows 54 rfl) rfl (snd_gR (kn := 25) fd_Mo_60 rfl (dget dd_Mo_packRows 55 rfl) (snd_il_n (n := 3) (dget dd_Mo_packRows 56 rfl) rfl (snd_ia (dget dd_Mo_packRows 57 rfl) (snd_is (dget dd_Mo_packRows 58 rfl) (snd_iconst (n := 0) (dget dd_Mo_packRows 59 rfl) (inR_d rfl) rfl (snd_is (dget dd_Mo_packRows 60 rfl) snd_cut)))))))
def B_Mo_packRows_74 : TT := (tt_il 3 (tt_al 0 (tt_gR 9 30 (tt_ci 0 (tt_ia (tt_cge (B_Mo_packRows_185) (tt_al 0 (tt_gR 9 26 (tt_il 3 (tt_za (tt_zne (B_Mo_packRows_96) (B_Mo_packRows_179))))))))))))
theorem S_Mo_packRows_74 (lc lz : Nat) : Snd md_Mo_packRows lc lz 74 (B_Mo_packRows_74) := (snd_il_n (n := 3) (dget dd_Mo_packRows 42 rfl) rfl (snd_al_n (n := 0) (dget dd_Mo_packRows 43 rfl) rfl (snd_gR (kn := 30) fd_Mo_76 rfl (dget dd_Mo_packRows 44 rfl) (snd_iconst (n := 0) (dget dd_Mo_packRows 45 rfl) (inR_d rfl) rfl (snd_ia (dget dd_Mo_packRows 46 rfl) (snd_cge (tg := 185) (dget dd_Mo_packRows 47 rfl) rfl (S_Mo_packRows_185 lc lz) (snd_al_n (n := 0) (dget dd_Mo_packRows 48 rfl) rfl (snd_gR (kn := 26) fd_Mo_63 rfl (dget dd_Mo_packRows 49 rfl) (snd_il_n (n := 3) (dget dd_Mo_packRows 50 rfl) rfl (snd_za (dget dd_Mo_packRows 51 rfl) (snd_zne (tg := 96) (dget dd_Mo_packRows 52 rfl) rfl (S_Mo_packRows_96 lc lz) (snd_goto (tg := 179) (dget dd_Mo_packRows 53 rfl) rfl (S_Mo_packRows_179 lc lz)))))))))))))
def B_Mo_packRows_71 : TT := (tt_is 2 (tt_ci 0 (tt_is 3 (tt_cut 74))))
theorem S_Mo_packRows_71 (lc lz : Nat) : Snd md_Mo_packRows lc lz 71 (B_Mo_packRows_71) := (snd_is_n (n := 2) (dget dd_Mo_packRows 39 rfl) rfl (snd_iconst (n := 0) (dget dd_Mo_packRows 40 rfl) (inR_d rfl) rfl (snd_is_n (n := 3) (dget dd_Mo_packRows 41 rfl) rfl snd_cut)))
def B_Mo_packRows_70 : TT := (tt_ci (-1) (B_Mo_packRows_71))
theorem S_Mo_packRows_70 (lc lz : Nat) : Snd md_Mo_packRows lc lz 70 (B_Mo_packRows_70) := (snd_iconst (n := -1) (dget dd_Mo_packRows 38 rfl) (inR_d rfl) rfl (S_Mo_packRows_71 lc lz))
def B_Mo_packRows_39 : TT := (tt_al 0 (tt_gI 9 39 (tt_zlt (B_Mo_packRows_70) (tt_al 0 (tt_gR 9 26 (tt_al 0 (tt_gI 9 39 (tt_za (tt_zeq (B_Mo_packRows_70) (tt_al 0 (tt_gR 9 25 (tt_al 0 (tt_gI 9 39 (tt_ia (B_Mo_packRows_71)))))))))))))))
theorem S_Mo_packRows_39 (lc lz : Nat) : Snd md_Mo_packRows lc lz 39 (B_Mo_packRows_39) := (snd_al_n (n := 0) (dget dd_Mo_packRows 23 rfl) rfl (snd_gI (kn := 39) fd_Mo_272 rfl (dget dd_Mo_packRows 24 rfl) (snd_zlt (tg := 70) (dget dd_Mo_packRows 25 rfl) rfl (S_Mo_packRows_70 lc lz) (snd_al_n (n := 0) (dget dd_Mo_packRows 26 rfl) rfl (snd_gR (kn := 26) fd_Mo_63 rfl (dget dd_Mo_packRows 27 rfl) (snd_al_n (n := 0) (dget dd_Mo_packRows 28 rfl) rfl (snd_gI (kn := 39) fd_Mo_272 rfl (dget dd_Mo_packRows 29 rfl) (snd_za (dget dd_Mo_packRows 30 rfl) (snd_zeq (tg := 70) (dget dd_Mo_packRows 31 rfl) rfl (S_Mo_packRows_70 lc lz) (snd_al_n (n := 0) (dget dd_Mo_packRows 32 rfl) rfl (snd_gR (kn := 25) fd_Mo_60 rfl (dget dd_Mo_packRows 33 rfl) (snd_al_n (n := 0) (dget dd_Mo_packRows 34 rfl) rfl (snd_gI (kn := 39) fd_Mo_272 rfl (dget dd_Mo_packRows 35 rfl) (snd_ia (dget dd_Mo_packRows 36 rfl) (snd_goto (tg := 71) (dget dd_Mo_packRows 37 rfl) rfl (S_Mo_packRows_71 lc lz))))))))))))))))
def B_Mo_packRows_33 : TT := (tt_inc 2 1 (tt_cut 4))
theorem S_Mo_packRows_33 (lc lz : Nat) : Snd md_Mo_packRows lc lz 33 (B_Mo_packRows_33) := (snd_inc (dget dd_Mo_packRows 21 rfl) (snd_goto (tg := 4) (dget dd_Mo_packRows 22 rfl) rfl snd_cut))
def B_Mo_packRows_4 : TT := (tt_il 2 (tt_al 0 (tt_gR 9 30 (tt_ci 0 (tt_ia (tt_cge (B_Mo_packRows_39) (tt_al 0 (tt_gR 9 25 (tt_il 2 (tt_il 1 (tt_iS (tt_al 0 (tt_gR 9 26 (tt_il 2 (tt_za (tt_zeq (B_Mo_packRows_33) (tt_inc 1 1 (B_Mo_packRows_33))))))))))))))))))
theorem S_Mo_packRows_4 (lc lz : Nat) : Snd md_Mo_packRows lc lz 4 (B_Mo_packRows_4) := (snd_il_n (n := 2) (dget dd_Mo_packRows 4 rfl) rfl (snd_al_n (n := 0) (dget dd_Mo_packRows 5 rfl) rfl (snd_gR (kn := 30) fd_Mo_76 rfl (dget dd_Mo_packRows 6 rfl) (snd_iconst (n := 0) (dget dd_Mo_packRows 7 rfl) (inR_d rfl) rfl (snd_ia (dget dd_Mo_packRows 8 rfl) (snd_cge (tg := 39) (dget dd_Mo_packRows 9 rfl) rfl (S_Mo_packRows_39 lc lz) (snd_al_n (n := 0) (dget dd_Mo_packRows 10 rfl) rfl (snd_gR (kn := 25) fd_Mo_60 rfl (dget dd_Mo_packRows 11 rfl) (snd_il_n (n := 2) (dget dd_Mo_packRows 12 rfl) rfl (snd_il_n (n := 1) (dget dd_Mo_packRows 13 rfl) rfl (snd_iS (dget dd_Mo_packRows 14 rfl) (snd_al_n (n := 0) (dget dd_Mo_packRows 15 rfl) rfl (snd_gR (kn := 26) fd_Mo_63 rfl (dget dd_Mo_packRows 16 rfl) (snd_il_n (n := 2) (dget dd_Mo_packRows 17 rfl) rfl (snd_za (dget dd_Mo_packRows 18 rfl) (snd_zeq (tg := 33) (dget dd_Mo_packRows 19 rfl) rfl (S_Mo_packRows_33 lc lz) (snd_inc (dget dd_Mo_packRows 20 rfl) (S_Mo_packRows_33 lc lz))))))))))))))))))
def B_Mo_packRows_0 : TT := (tt_ci 0 (tt_is 1 (tt_ci 0 (tt_is 2 (tt_cut 4)))))
theorem S_Mo_packRows_0 (lc lz : Nat) : Snd md_Mo_packRows lc lz 0 (B_Mo_packRows_0) := (snd_iconst (n := 0) (dget dd_Mo_packRows 0 rfl) (inR_d rfl) rfl (snd_is_n (n := 1) (dget dd_Mo_packRows 1 rfl) rfl (snd_iconst (n := 0) (dget dd_Mo_packRows 2 rfl) (inR_d rfl) rfl (snd_is_n (n := 2) (dget dd_Mo_packRows 3 rfl) rfl snd_cut))))
def muP (pc : Nat) (ls : LSt) (h' : PH) : Nat := if pc = 4 then 60000 + (2000 - locI ls 2).toNat else if pc = 74 then 10000 + (32000 - 12 * locI ls 3).toNat else if pc = 107 then 10000 + (32000 - 12 * locI ls 3 - 1 - locI ls 5).toNat else (2000 - locI ls 3).toNat
theorem muP_4 {ls : LSt} {h' : PH} : muP 4 ls h' = 60000 + (2000 - locI ls 2).toNat := by unfold muP; rw [if_pos rfl]
theorem muP_74 {ls : LSt} {h' : PH} : muP 74 ls h' = 10000 + (32000 - 12 * locI ls 3).toNat := by unfold muP; rw [if_neg (by decide), if_pos rfl]
theorem muP_107 {ls : LSt} {h' : PH} : muP 107 ls h' = 10000 + (32000 - 12 * locI ls 3 - 1 - locI ls 5).toNat := by unfold muP; rw [if_neg (by decide), if_neg (by decide), if_pos rfl]
theorem muP_187 {ls : LSt} {h' : PH} : muP 187 ls h' = (2000 - locI ls 3).toNat := by unfold muP; rw [if_neg (by decide), if_neg (by decide), if_neg (by decide)]
theorem met_Mo_packRows : MetP y_Mo_packRows md_Mo_packRows (fun _ => 0) (fun _ => 0) Ct_Mo_packRows := by
  refine metL4 (body := B_Mo_packRows_0) (B1 := B_Mo_packRows_4) (B2 := B_Mo_packRows_74) (B3 := B_Mo_packRows_107) (B4 := B_Mo_packRows_187) (by decide) rfl rfl (fun lc lz => S_Mo_packRows_0 lc lz) (fun lc lz => S_Mo_packRows_4 lc lz) (fun lc lz => S_Mo_packRows_74 lc lz) (fun lc lz => S_Mo_packRows_107 lc lz) (fun lc lz => S_Mo_packRows_187 lc lz) (by decide) ?_
  intro av h post hc hH hav
  unfold Ct_Mo_packRows at hc
  split at hc
  rotate_left
  · exact hc.elim
  rename_i t
  obtain ⟨rfl, w, L, Q, hL2, hL0, hW, hQ, hB, hp⟩ := hc
  refine ⟨Nat.le_of_ble_eq_true rfl, ?_⟩
  obtain ⟨mu, hmu⟩ : ∃ mu, mu = muP := ⟨_, rfl⟩
  obtain ⟨N, hN⟩ : ∃ N, N = gI h pMo_state 0 := ⟨_, rfl⟩
  have hN2 := hW.2.2.2.2.1
  have hN3 := hW.2.2.2.2.2
  have hM := hW.2.2.2.2.2.2.2.2.2.2.2.1
  rw [aM_atM] at hM
  rw [aS_atM (by omega) (by omega)] at hM
  simp only [aS_atM (h := h) (by decide : (0 : Int) ≤ 0) (by decide), aS_atM (h := h) (by decide : (0 : Int) ≤ 1) (by decide), aS_atM (h := h) (by decide : (0 : Int) ≤ 2) (by decide), aS_atM (h := h) (by decide : (0 : Int) ≤ 3) (by decide), aS_atM (h := h) (by decide : (0 : Int) ≤ 7) (by decide), aS_atM (h := h) (by decide : (0 : Int) ≤ 9) (by decide), aS_atM (h := h) (by decide : (0 : Int) ≤ 10) (by decide)] at hN2 hN3
  obtain ⟨wk, hwk⟩ : ∃ wk, wk = (if 0 ≤ gI h pMo 39 ∧ gI h pMo_isLeft (gI h pMo 39) ≠ 0 then kk h (gI h pMo 39) else -1) := ⟨_, rfl⟩
  refine ⟨fun ls h' => ∃ (r : Int) (x3 x4 x5 x6 : Option PV), ls = [some (.inr (.inl (some pMo))), some (.inl (kk h r)), some (.inl r), x3, x4, x5, x6] ∧ 0 ≤ r ∧ r ≤ N ∧ FrP (fun b _ => b = pMo_name) h h' ∧ (∀ x, 0 ≤ x → x < r → gI h' pMo_name x = kk h x),
    fun ls h' => ∃ (r : Int) (x4 x5 x6 : Option PV), ls = [some (.inr (.inl (some pMo))), some (.inl (kk h N)), some (.inl wk), some (.inl r), x4, x5, x6] ∧ 0 ≤ r ∧ r ≤ N ∧ FrP P2 h h' ∧ (∀ x, 0 ≤ x → x < N → gI h' pMo_name x = kk h x) ∧ pkd h h' r ∧ (∀ j, 10 * r ≤ j → gI h' pMo_cells j = gI h pMo_cells j) ∧ (∀ j, r ≤ j → gI h' pMo_isDone j = gI h pMo_isDone j) ∧ (∀ j, gI h' pMo_isDone j = 0 ∨ gI h' pMo_isDone j = 1),
    fun ls h' => ∃ (r c : Int) (x6 : Option PV), ls = [some (.inr (.inl (some pMo))), some (.inl (kk h N)), some (.inl wk), some (.inl r), some (.inl (kk h r)), some (.inl c), x6] ∧ 0 ≤ r ∧ r < N ∧ gI h pMo_isLeft r ≠ 0 ∧ 0 ≤ c ∧ c ≤ 10 ∧ FrP P2 h h' ∧ (∀ x, 0 ≤ x → x < N → gI h' pMo_name x = kk h x) ∧ pkd h h' r ∧ (∀ j, 10 * r + c ≤ j → gI h' pMo_cells j = gI h pMo_cells j) ∧ (∀ j, r ≤ j → gI h' pMo_isDone j = gI h pMo_isDone j) ∧ (∀ d, 0 ≤ d → d < c → gI h' pMo_cells (10 * kk h r + d) = pv h (gI h pMo_cells (10 * r + d))) ∧ (∀ j, gI h' pMo_isDone j = 0 ∨ gI h' pMo_isDone j = 1),
    fun ls h' => ∃ (r : Int) (x4 x5 x6 : Option PV), ls = [some (.inr (.inl (some pMo))), some (.inl (kk h N)), some (.inl wk), some (.inl r), x4, x5, x6] ∧ 0 ≤ r ∧ r ≤ N ∧ FrP P3 h h' ∧ pkd h h' N ∧ (∀ j, 0 ≤ j → j < r → gI h' pMo_isLeft j = if j < kk h N then 1 else 0) ∧ (∀ j, ¬ (0 ≤ j ∧ j < r) → gI h' pMo_isLeft j = gI h pMo_isLeft j) ∧ (∀ j, gI h' pMo_isDone j = 0 ∨ gI h' pMo_isDone j = 1), mu, ?_, ?_, ?_, ?_, ?_⟩
  · rintro ls h' ⟨r, x3, x4, x5, x6, rfl, r0, r1, hF, hn⟩
    have w1 := FrP_MW hF w
    have es : gI h' pMo_state = gI h pMo_state := FrP_arr hF (fun j z => absurd z (by decide))
    have el : gI h' pMo_isLeft = gI h pMo_isLeft := FrP_arr hF (fun j z => absurd z (by decide))
    have ed : gI h' pMo_isDone = gI h pMo_isDone := FrP_arr hF (fun j z => absurd z (by decide))
    have ec : gI h' pMo_cells = gI h pMo_cells := FrP_arr hF (fun j z => absurd z (by decide))
    have em : gI h' pMo 39 = gI h pMo 39 := hF.1 _ _ (by decide)
    have hF2 : FrP P2 h h' := FrP_mono (fun b j z => Or.inl z) hF
    have kb := kk_le (h := h) r0
    have kn := kk_nn (h := h) (x := r)
    simp (decide := true) only [B_Mo_packRows_0, B_Mo_packRows_4, B_Mo_packRows_33, B_Mo_packRows_39, B_Mo_packRows_70, B_Mo_packRows_71, B_Mo_packRows_74, B_Mo_packRows_96, B_Mo_packRows_107, B_Mo_packRows_152, B_Mo_packRows_159, B_Mo_packRows_166, B_Mo_packRows_179, B_Mo_packRows_185, B_Mo_packRows_187, B_Mo_packRows_211, B_Mo_packRows_212, B_Mo_packRows_219, tt_ci, tt_cl, tt_nul, tt_il, tt_al, tt_ll, tt_is, tt_as, tt_ls, tt_inc, tt_add, tt_sub, tt_mul, tt_div, tt_rem, tt_ladd, tt_lmul, tt_ldiv, tt_lrem, tt_zeq, tt_zne, tt_zlt, tt_zge, tt_zgt, tt_zle, tt_ceq, tt_cne, tt_clt, tt_cge, tt_cgt, tt_cle, tt_nn, tt_cut, tt_pop, tt_dup, tt_dup2, tt_gI, tt_gR, tt_pI, tt_pZ, tt_pR, tt_ia, tt_ba, tt_za, tt_iS, tt_bS, tt_zS, tt_aa, tt_aS, tt_len, tt_and, tt_xor, tt_shr, tt_ushr, tt_lcmp, tt_i2b, tt_i2l, tt_l2i, tt_sw, swG, tt_ir, tt_zr, tt_br, tt_lr, tt_ar, tt_vr, tt_cV, tt_cS, tt_min, tt_max, tt_acp, pI, pII, pO, pA, pIA, pIIA, pOA, pOIA, pL, pLL, pLIA, pV, pCP, lI, lO, lL, nth, stL, clL, entA, fitL, rcv, List.take_succ_cons, List.take_zero, List.drop_succ_cons, List.drop_zero, List.reverse_cons, List.reverse_nil, List.nil_append, List.cons_append, List.length_cons, List.length_nil, Option.toList_some, Option.toList_none, gI_sI, gI_sA, gR_sI, gR_sA, gI_sR, gR_sR, hN_sI, hN_sA, hN_sR, isO_sI, isO_sA, isO_sR, isAr_sI, isAr_sA, isAr_sR, hC_sI, hC_sA, hC_sR, hZ_sI, hZ_sA, hZ_sR, MW_sI, MW_sA, true_and, and_true, true_or, or_true, and_self, forall_const, imp_self, implies_true, if_true, if_false, false_and, and_false, false_or, or_false, not_false_eq_true, not_true_eq_false, sI_sI, mr_tape w1, mr_text w1, mr_words w1, mr_wordSize w1, mr_subs w1, mr_subSize w1, mr_asked w1, mr_pile w1, mr_pileSize w1, mr_opened w1, mr_openedAt w1, mr_begun w1, mr_cells w1, mr_keptCells w1, mr_name w1, mr_isLeft w1, mr_isDone w1, mr_keptLeft w1, mr_keptDone w1, mr_state w1, mr_keptState w1, mr_newOf w1, mr_oldOf w1, mr_spare w1, mr_spareDone w1, mr_out w1, mr_metFrom w1, mr_metBy w1, mr_far w1, mr_low w1, mr_lows w1, mr_lowSize w1, mr_triedRow w1, mr_triedColumn w1, mr_triedValue w1, mr_triedRows w1, mr_sheet w1, ma_tape w1, ma_text w1, ma_words w1, ma_wordSize w1, ma_subs w1, ma_subSize w1, ma_asked w1, ma_pile w1, ma_pileSize w1, ma_opened w1, ma_openedAt w1, ma_begun w1, ma_cells w1, ma_keptCells w1, ma_name w1, ma_isLeft w1, ma_isDone w1, ma_keptLeft w1, ma_keptDone w1, ma_state w1, ma_keptState w1, ma_newOf w1, ma_oldOf w1, ma_spare w1, ma_spareDone w1, ma_out w1, ma_metFrom w1, ma_metBy w1, ma_far w1, ma_low w1, ma_lows w1, ma_lowSize w1, ma_triedRow w1, ma_triedColumn w1, ma_triedValue w1, ma_triedRows w1, ma_sheet w1, ml_tape, ml_text, ml_words, ml_wordSize, ml_subs, ml_subSize, ml_asked, ml_pile, ml_pileSize, ml_opened, ml_openedAt, ml_begun, ml_cells, ml_keptCells, ml_name, ml_isLeft, ml_isDone, ml_keptLeft, ml_keptDone, ml_state, ml_keptState, ml_newOf, ml_oldOf, ml_spare, ml_spareDone, ml_out, ml_metFrom, ml_metBy, ml_far, ml_low, ml_lows, ml_lowSize, ml_triedRow, ml_triedColumn, ml_triedValue, ml_triedRows, ml_sheet, mo_O w1, es, el, em, ← hN]
    have fin : ∀ (v : Int) (x4 x5 x6 : Option PV), N ≤ r → v = wk → (∃ (r_1 : Int) (y4 y5 y6 : Option PV), [some (.inr (.inl (some pMo))), some (.inl (kk h r)), some (.inl v), some (.inl 0), x4, x5, x6] = [some (.inr (.inl (some pMo))), some (.inl (kk h N)), some (.inl wk), some (.inl r_1), y4, y5, y6] ∧ 0 ≤ r_1 ∧ r_1 ≤ N ∧ FrP P2 h h' ∧ (∀ x, 0 ≤ x → x < N → gI h' pMo_name x = kk h x) ∧ pkd h h' r_1 ∧ (∀ j, 10 * r_1 ≤ j → gI h' pMo_cells j = gI h pMo_cells j) ∧ (∀ j, r_1 ≤ j → gI h' pMo_isDone j = gI h pMo_isDone j) ∧ ∀ j, gI h' pMo_isDone j = 0 ∨ gI h' pMo_isDone j = 1) ∧ mu 74 [some (.inr (.inl (some pMo))), some (.inl (kk h r)), some (.inl v), some (.inl 0), x4, x5, x6] h' < mu 4 [some (.inr (.inl (some pMo))), some (.inl (kk h r)), some (.inl r), x3, x4, x5, x6] h' := by
      intro v x4 x5 x6 q e
      have e2 : r = N := by omega
      subst e2
      refine ⟨⟨0, x4, x5, x6, by rw [e], by omega, by omega, hF2, hn, fun r r0 r1 => by omega, fun j _ => by rw [ec], fun j _ => by rw [ed], fun j => by rw [ed]; exact (hB j).2⟩, ?_⟩
      rw [hmu, muP_74, muP_4]
      simp only [locI, nth]
      omega
    refine ⟨fun q => ⟨fun q2 => fin _ _ _ _ q (by rw [hwk, if_neg (fun z => by have := z.1; omega)]), fun q2 => ⟨by omega, by omega, fun q3 => fin _ _ _ _ q (by rw [hwk, if_neg (fun z => z.2 q3)]), fun q3 => ⟨by omega, by omega, fin _ _ _ _ q (by rw [hwk, if_pos ⟨by omega, q3⟩]; exact hn _ (by omega) (by omega))⟩⟩⟩, fun q => ⟨by omega, by omega, by omega, by omega, fun q2 => ⟨⟨by omega, by omega⟩, ⟨r + 1, x3, x4, x5, x6, by rw [kk_skip r0 q2], by omega, by omega, FrP_sI rfl hF, fun x x0 x1 => ?_⟩, ?_⟩, fun q2 => ⟨⟨by omega, by omega⟩, ⟨by omega, by omega⟩, ⟨r + 1, x3, x4, x5, x6, by rw [kk_succ r0 q2], by omega, by omega, FrP_sI rfl hF, fun x x0 x1 => ?_⟩, ?_⟩⟩⟩
    · split
      · rename_i e; rw [e]
      · exact hn x x0 (by omega)
    · rw [hmu, muP_4, muP_4]
      simp only [locI, nth]
      omega
    · split
      · rename_i e; rw [e]
      · exact hn x x0 (by omega)
    · rw [hmu, muP_4, muP_4]
      simp only [locI, nth]
      omega
  · rintro ls h' ⟨r, x4, x5, x6, rfl, r0, r1, hF, hn, hk, hc, hd, hb⟩
    have w1 := FrP_MW hF w
    have es : gI h' pMo_state = gI h pMo_state := FrP_arr hF (fun j z => by unfold P2 at z; simp (decide := true) only [or_self] at z)
    have el : gI h' pMo_isLeft = gI h pMo_isLeft := FrP_arr hF (fun j z => by unfold P2 at z; simp (decide := true) only [or_self] at z)
    simp (decide := true) only [B_Mo_packRows_0, B_Mo_packRows_4, B_Mo_packRows_33, B_Mo_packRows_39, B_Mo_packRows_70, B_Mo_packRows_71, B_Mo_packRows_74, B_Mo_packRows_96, B_Mo_packRows_107, B_Mo_packRows_152, B_Mo_packRows_159, B_Mo_packRows_166, B_Mo_packRows_179, B_Mo_packRows_185, B_Mo_packRows_187, B_Mo_packRows_211, B_Mo_packRows_212, B_Mo_packRows_219, tt_ci, tt_cl, tt_nul, tt_il, tt_al, tt_ll, tt_is, tt_as, tt_ls, tt_inc, tt_add, tt_sub, tt_mul, tt_div, tt_rem, tt_ladd, tt_lmul, tt_ldiv, tt_lrem, tt_zeq, tt_zne, tt_zlt, tt_zge, tt_zgt, tt_zle, tt_ceq, tt_cne, tt_clt, tt_cge, tt_cgt, tt_cle, tt_nn, tt_cut, tt_pop, tt_dup, tt_dup2, tt_gI, tt_gR, tt_pI, tt_pZ, tt_pR, tt_ia, tt_ba, tt_za, tt_iS, tt_bS, tt_zS, tt_aa, tt_aS, tt_len, tt_and, tt_xor, tt_shr, tt_ushr, tt_lcmp, tt_i2b, tt_i2l, tt_l2i, tt_sw, swG, tt_ir, tt_zr, tt_br, tt_lr, tt_ar, tt_vr, tt_cV, tt_cS, tt_min, tt_max, tt_acp, pI, pII, pO, pA, pIA, pIIA, pOA, pOIA, pL, pLL, pLIA, pV, pCP, lI, lO, lL, nth, stL, clL, entA, fitL, rcv, List.take_succ_cons, List.take_zero, List.drop_succ_cons, List.drop_zero, List.reverse_cons, List.reverse_nil, List.nil_append, List.cons_append, List.length_cons, List.length_nil, Option.toList_some, Option.toList_none, gI_sI, gI_sA, gR_sI, gR_sA, gI_sR, gR_sR, hN_sI, hN_sA, hN_sR, isO_sI, isO_sA, isO_sR, isAr_sI, isAr_sA, isAr_sR, hC_sI, hC_sA, hC_sR, hZ_sI, hZ_sA, hZ_sR, MW_sI, MW_sA, true_and, and_true, true_or, or_true, and_self, forall_const, imp_self, implies_true, if_true, if_false, false_and, and_false, false_or, or_false, not_false_eq_true, not_true_eq_false, sI_sI, mr_tape w1, mr_text w1, mr_words w1, mr_wordSize w1, mr_subs w1, mr_subSize w1, mr_asked w1, mr_pile w1, mr_pileSize w1, mr_opened w1, mr_openedAt w1, mr_begun w1, mr_cells w1, mr_keptCells w1, mr_name w1, mr_isLeft w1, mr_isDone w1, mr_keptLeft w1, mr_keptDone w1, mr_state w1, mr_keptState w1, mr_newOf w1, mr_oldOf w1, mr_spare w1, mr_spareDone w1, mr_out w1, mr_metFrom w1, mr_metBy w1, mr_far w1, mr_low w1, mr_lows w1, mr_lowSize w1, mr_triedRow w1, mr_triedColumn w1, mr_triedValue w1, mr_triedRows w1, mr_sheet w1, ma_tape w1, ma_text w1, ma_words w1, ma_wordSize w1, ma_subs w1, ma_subSize w1, ma_asked w1, ma_pile w1, ma_pileSize w1, ma_opened w1, ma_openedAt w1, ma_begun w1, ma_cells w1, ma_keptCells w1, ma_name w1, ma_isLeft w1, ma_isDone w1, ma_keptLeft w1, ma_keptDone w1, ma_state w1, ma_keptState w1, ma_newOf w1, ma_oldOf w1, ma_spare w1, ma_spareDone w1, ma_out w1, ma_metFrom w1, ma_metBy w1, ma_far w1, ma_low w1, ma_lows w1, ma_lowSize w1, ma_triedRow w1, ma_triedColumn w1, ma_triedValue w1, ma_triedRows w1, ma_sheet w1, ml_tape, ml_text, ml_words, ml_wordSize, ml_subs, ml_subSize, ml_asked, ml_pile, ml_pileSize, ml_opened, ml_openedAt, ml_begun, ml_cells, ml_keptCells, ml_name, ml_isLeft, ml_isDone, ml_keptLeft, ml_keptDone, ml_state, ml_keptState, ml_newOf, ml_oldOf, ml_spare, ml_spareDone, ml_out, ml_metFrom, ml_metBy, ml_far, ml_low, ml_lows, ml_lowSize, ml_triedRow, ml_triedColumn, ml_triedValue, ml_triedRows, ml_sheet, mo_O w1, es, el, ← hN]
    refine ⟨fun q => ?_, fun q => ⟨by omega, by omega, fun q2 => ⟨by omega, by omega, ⟨r, 0, x6, by rw [hn r r0 (by omega)], r0, by omega, q2, by omega, by omega, hF, hn, hk, fun j hj => hc j (by omega), hd, fun d d0 d1 => by omega, hb⟩, ?_⟩, fun q2 => ⟨⟨by omega, by omega⟩, ⟨r + 1, x4, x5, x6, rfl, by omega, by omega, hF, hn, fun x x0 x1 xl => ?_, fun j hj => hc j (by omega), fun j hj => hd j (by omega), hb⟩, ?_⟩⟩⟩
    · have e : r = N := by omega
      subst e
      refine ⟨⟨0, x4, x5, x6, rfl, by omega, by omega, FrP_mono (fun b j z => by unfold P2 at z; unfold P3; omega) hF, hk, fun j _ _ => by omega, hb⟩, ?_⟩
      rw [hmu, muP_187, muP_74]
      simp only [locI, nth]
      omega
    · rw [hmu, muP_107, muP_74]
      simp only [locI, nth]
      omega
    · by_cases e : x = r
      · rw [e] at xl; exact absurd q2 xl
      · exact hk x x0 (by omega) xl
    · rw [hmu, muP_74, muP_74]
      simp only [locI, nth]
      omega
  · rintro ls h' ⟨r, c, x6, rfl, r0, r1, hl, c0, c1, hF, hn, hk, hc, hd, hcc, hb⟩
    have w1 := FrP_MW hF w
    have kb := kk_le (h := h) r0
    have kn := kk_nn (h := h) (x := r)
    simp (decide := true) only [B_Mo_packRows_0, B_Mo_packRows_4, B_Mo_packRows_33, B_Mo_packRows_39, B_Mo_packRows_70, B_Mo_packRows_71, B_Mo_packRows_74, B_Mo_packRows_96, B_Mo_packRows_107, B_Mo_packRows_152, B_Mo_packRows_159, B_Mo_packRows_166, B_Mo_packRows_179, B_Mo_packRows_185, B_Mo_packRows_187, B_Mo_packRows_211, B_Mo_packRows_212, B_Mo_packRows_219, tt_ci, tt_cl, tt_nul, tt_il, tt_al, tt_ll, tt_is, tt_as, tt_ls, tt_inc, tt_add, tt_sub, tt_mul, tt_div, tt_rem, tt_ladd, tt_lmul, tt_ldiv, tt_lrem, tt_zeq, tt_zne, tt_zlt, tt_zge, tt_zgt, tt_zle, tt_ceq, tt_cne, tt_clt, tt_cge, tt_cgt, tt_cle, tt_nn, tt_cut, tt_pop, tt_dup, tt_dup2, tt_gI, tt_gR, tt_pI, tt_pZ, tt_pR, tt_ia, tt_ba, tt_za, tt_iS, tt_bS, tt_zS, tt_aa, tt_aS, tt_len, tt_and, tt_xor, tt_shr, tt_ushr, tt_lcmp, tt_i2b, tt_i2l, tt_l2i, tt_sw, swG, tt_ir, tt_zr, tt_br, tt_lr, tt_ar, tt_vr, tt_cV, tt_cS, tt_min, tt_max, tt_acp, pI, pII, pO, pA, pIA, pIIA, pOA, pOIA, pL, pLL, pLIA, pV, pCP, lI, lO, lL, nth, stL, clL, entA, fitL, rcv, List.take_succ_cons, List.take_zero, List.drop_succ_cons, List.drop_zero, List.reverse_cons, List.reverse_nil, List.nil_append, List.cons_append, List.length_cons, List.length_nil, Option.toList_some, Option.toList_none, gI_sI, gI_sA, gR_sI, gR_sA, gI_sR, gR_sR, hN_sI, hN_sA, hN_sR, isO_sI, isO_sA, isO_sR, isAr_sI, isAr_sA, isAr_sR, hC_sI, hC_sA, hC_sR, hZ_sI, hZ_sA, hZ_sR, MW_sI, MW_sA, true_and, and_true, true_or, or_true, and_self, forall_const, imp_self, implies_true, if_true, if_false, false_and, and_false, false_or, or_false, not_false_eq_true, not_true_eq_false, sI_sI, mr_tape w1, mr_text w1, mr_words w1, mr_wordSize w1, mr_subs w1, mr_subSize w1, mr_asked w1, mr_pile w1, mr_pileSize w1, mr_opened w1, mr_openedAt w1, mr_begun w1, mr_cells w1, mr_keptCells w1, mr_name w1, mr_isLeft w1, mr_isDone w1, mr_keptLeft w1, mr_keptDone w1, mr_state w1, mr_keptState w1, mr_newOf w1, mr_oldOf w1, mr_spare w1, mr_spareDone w1, mr_out w1, mr_metFrom w1, mr_metBy w1, mr_far w1, mr_low w1, mr_lows w1, mr_lowSize w1, mr_triedRow w1, mr_triedColumn w1, mr_triedValue w1, mr_triedRows w1, mr_sheet w1, ma_tape w1, ma_text w1, ma_words w1, ma_wordSize w1, ma_subs w1, ma_subSize w1, ma_asked w1, ma_pile w1, ma_pileSize w1, ma_opened w1, ma_openedAt w1, ma_begun w1, ma_cells w1, ma_keptCells w1, ma_name w1, ma_isLeft w1, ma_isDone w1, ma_keptLeft w1, ma_keptDone w1, ma_state w1, ma_keptState w1, ma_newOf w1, ma_oldOf w1, ma_spare w1, ma_spareDone w1, ma_out w1, ma_metFrom w1, ma_metBy w1, ma_far w1, ma_low w1, ma_lows w1, ma_lowSize w1, ma_triedRow w1, ma_triedColumn w1, ma_triedValue w1, ma_triedRows w1, ma_sheet w1, ml_tape, ml_text, ml_words, ml_wordSize, ml_subs, ml_subSize, ml_asked, ml_pile, ml_pileSize, ml_opened, ml_openedAt, ml_begun, ml_cells, ml_keptCells, ml_name, ml_isLeft, ml_isDone, ml_keptLeft, ml_keptDone, ml_state, ml_keptState, ml_newOf, ml_oldOf, ml_spare, ml_spareDone, ml_out, ml_metFrom, ml_metBy, ml_far, ml_low, ml_lows, ml_lowSize, ml_triedRow, ml_triedColumn, ml_triedValue, ml_triedRows, ml_sheet, mo_O w1]
    have kn2 : ∀ x, 0 ≤ x → x < r → gI h pMo_isLeft x ≠ 0 → kk h x < kk h r := fun x x0 x1 xl => kk_lt x0 xl x1
    have ecr : c < 10 → gI h' pMo_cells (10 * r + c) = gI h pMo_cells (10 * r + c) := fun _ => hc _ (by omega)
    have cellv : c < 10 → gI h pMo_cells (10 * r + c) ≠ -2 → 0 ≤ gI h pMo_cells (10 * r + c) ∧ gI h pMo_cells (10 * r + c) < N := by
      intro c9 hne
      have hv : VV (atM h) r := VV_atM.mpr ⟨r0, by omega, hl⟩
      have eE := aE_atM hv c0 c9
      have cL : c < L := by
        apply Classical.byContradiction
        intro z
        have := hW.2.2.1 r c (fun y => z y.2.2)
        rw [eE] at this
        exact hne this
      have g := ((hW.1.2.2 r c hv c0 cL).resolve_left (by rw [eE]; exact hne)).1
      rw [eE] at g
      have := VV_atM.mp g
      omega
    have step : c < 10 → ∀ v, v = pv h (gI h pMo_cells (10 * r + c)) → ∀ x6 y6 : Option PV, (∃ (r_1 c_1 : Int) (x6_1 : Option PV), [some (.inr (.inl (some pMo))), some (.inl (kk h N)), some (.inl wk), some (.inl r), some (.inl (kk h r)), some (.inl (c + 1)), y6] = [some (.inr (.inl (some pMo))), some (.inl (kk h N)), some (.inl wk), some (.inl r_1), some (.inl (kk h r_1)), some (.inl c_1), x6_1] ∧ 0 ≤ r_1 ∧ r_1 < N ∧ gI h pMo_isLeft r_1 ≠ 0 ∧ 0 ≤ c_1 ∧ c_1 ≤ 10 ∧ FrP P2 h (sI h' pMo_cells (10 * kk h r + c) v) ∧ (∀ x, 0 ≤ x → x < N → gI h' pMo_name x = kk h x) ∧ pkd h (sI h' pMo_cells (10 * kk h r + c) v) r_1 ∧ (∀ j, 10 * r_1 + c_1 ≤ j → (if j = 10 * kk h r + c then v else gI h' pMo_cells j) = gI h pMo_cells j) ∧ (∀ j, r_1 ≤ j → gI h' pMo_isDone j = gI h pMo_isDone j) ∧ (∀ d, 0 ≤ d → d < c_1 → (if 10 * kk h r_1 + d = 10 * kk h r + c then v else gI h' pMo_cells (10 * kk h r_1 + d)) = pv h (gI h pMo_cells (10 * r_1 + d))) ∧ ∀ j, gI h' pMo_isDone j = 0 ∨ gI h' pMo_isDone j = 1) ∧ mu 107 [some (.inr (.inl (some pMo))), some (.inl (kk h N)), some (.inl wk), some (.inl r), some (.inl (kk h r)), some (.inl (c + 1)), y6] (sI h' pMo_cells (10 * kk h r + c) v) < mu 107 [some (.inr (.inl (some pMo))), some (.inl (kk h N)), some (.inl wk), some (.inl r), some (.inl (kk h r)), some (.inl c), x6] h' := by
      intro c9 v hv x6 y6
      refine ⟨⟨r, c + 1, y6, rfl, r0, r1, hl, by omega, by omega, FrP_sI (Or.inr (Or.inl rfl)) hF, hn, fun x x0 x1 xl => ⟨fun d d0 d1 => ?_, ?_⟩, fun j hj => ?_, hd, fun d d0 d1 => ?_, hb⟩, ?_⟩
      · have := kn2 x x0 x1 xl
        rw [gI_sI, if_neg (by omega)]
        exact (hk x x0 x1 xl).1 d d0 d1
      · rw [gI_sI, if_neg (fun z => absurd z.1 (by decide))]
        exact (hk x x0 x1 xl).2
      · rw [if_neg (by omega)]
        exact hc j (by omega)
      · by_cases e : d = c
        · rw [e, if_pos rfl]; exact hv
        · rw [if_neg (by omega)]; exact hcc d d0 (by omega)
      · rw [hmu, muP_107, muP_107]
        simp only [locI, nth]
        omega
    refine ⟨fun q => ⟨by omega, by omega, by omega, by omega, hb r, ⟨by omega, by omega⟩, ⟨r + 1, _, _, _, rfl, by omega, by omega, FrP_sI (Or.inr (Or.inr rfl)) hF, hn, fun x x0 x1 xl => ⟨fun d d0 d1 => ?_, ?_⟩, fun j hj => hc j (by omega), fun j hj => ?_, fun j => ?_⟩, ?_⟩, fun q => ?_⟩
    · rw [gI_sI, if_neg (fun z => absurd z.1 (by decide))]
      by_cases e : x = r
      · rw [e]; exact hcc d d0 (by omega)
      · exact (hk x x0 (by omega) xl).1 d d0 d1
    · rw [gI_sI]
      by_cases e : x = r
      · rw [e, if_pos ⟨rfl, rfl⟩]; exact hd r (by omega)
      · have := kn2 x x0 (by omega) xl
        rw [if_neg (by omega)]
        exact (hk x x0 (by omega) xl).2
    · rw [if_neg (by omega)]
      exact hd j (by omega)
    · split
      · exact hb r
      · exact hb j
    · rw [hmu, muP_74, muP_107]
      simp only [locI, nth]
      omega
    · rw [ecr (by omega)]
      refine ⟨⟨by omega, by omega⟩, ⟨by omega, by omega⟩, by omega, by omega, ⟨by omega, by omega⟩, ⟨by omega, by omega⟩, fun q2 => ?_, fun q2 => ⟨by omega, by omega, ⟨by omega, by omega⟩, step (by omega) _ (by unfold pv; rw [if_pos q2]) _ _⟩⟩
      have cv := cellv (by omega) q2
      exact ⟨cv.1, by omega, by omega, by omega, ⟨by omega, by omega⟩, step (by omega) _ (by unfold pv; rw [if_neg q2]; exact hn _ cv.1 cv.2) _ _⟩
  · rintro ls h' ⟨r, x4, x5, x6, rfl, r0, r1, hF, hk, hl, hl2, hb⟩
    have w1 := FrP_MW hF w
    have es : gI h' pMo_state = gI h pMo_state := FrP_arr hF (fun j z => by unfold P3 at z; simp (decide := true) only [or_self] at z)
    have kb := kk_le (h := h) (x := N) (by omega)
    have kn := kk_nn (h := h) (x := N)
    simp (decide := true) only [B_Mo_packRows_0, B_Mo_packRows_4, B_Mo_packRows_33, B_Mo_packRows_39, B_Mo_packRows_70, B_Mo_packRows_71, B_Mo_packRows_74, B_Mo_packRows_96, B_Mo_packRows_107, B_Mo_packRows_152, B_Mo_packRows_159, B_Mo_packRows_166, B_Mo_packRows_179, B_Mo_packRows_185, B_Mo_packRows_187, B_Mo_packRows_211, B_Mo_packRows_212, B_Mo_packRows_219, tt_ci, tt_cl, tt_nul, tt_il, tt_al, tt_ll, tt_is, tt_as, tt_ls, tt_inc, tt_add, tt_sub, tt_mul, tt_div, tt_rem, tt_ladd, tt_lmul, tt_ldiv, tt_lrem, tt_zeq, tt_zne, tt_zlt, tt_zge, tt_zgt, tt_zle, tt_ceq, tt_cne, tt_clt, tt_cge, tt_cgt, tt_cle, tt_nn, tt_cut, tt_pop, tt_dup, tt_dup2, tt_gI, tt_gR, tt_pI, tt_pZ, tt_pR, tt_ia, tt_ba, tt_za, tt_iS, tt_bS, tt_zS, tt_aa, tt_aS, tt_len, tt_and, tt_xor, tt_shr, tt_ushr, tt_lcmp, tt_i2b, tt_i2l, tt_l2i, tt_sw, swG, tt_ir, tt_zr, tt_br, tt_lr, tt_ar, tt_vr, tt_cV, tt_cS, tt_min, tt_max, tt_acp, pI, pII, pO, pA, pIA, pIIA, pOA, pOIA, pL, pLL, pLIA, pV, pCP, lI, lO, lL, nth, stL, clL, entA, fitL, rcv, List.take_succ_cons, List.take_zero, List.drop_succ_cons, List.drop_zero, List.reverse_cons, List.reverse_nil, List.nil_append, List.cons_append, List.length_cons, List.length_nil, Option.toList_some, Option.toList_none, gI_sI, gI_sA, gR_sI, gR_sA, gI_sR, gR_sR, hN_sI, hN_sA, hN_sR, isO_sI, isO_sA, isO_sR, isAr_sI, isAr_sA, isAr_sR, hC_sI, hC_sA, hC_sR, hZ_sI, hZ_sA, hZ_sR, MW_sI, MW_sA, true_and, and_true, true_or, or_true, and_self, forall_const, imp_self, implies_true, if_true, if_false, false_and, and_false, false_or, or_false, not_false_eq_true, not_true_eq_false, sI_sI, mr_tape w1, mr_text w1, mr_words w1, mr_wordSize w1, mr_subs w1, mr_subSize w1, mr_asked w1, mr_pile w1, mr_pileSize w1, mr_opened w1, mr_openedAt w1, mr_begun w1, mr_cells w1, mr_keptCells w1, mr_name w1, mr_isLeft w1, mr_isDone w1, mr_keptLeft w1, mr_keptDone w1, mr_state w1, mr_keptState w1, mr_newOf w1, mr_oldOf w1, mr_spare w1, mr_spareDone w1, mr_out w1, mr_metFrom w1, mr_metBy w1, mr_far w1, mr_low w1, mr_lows w1, mr_lowSize w1, mr_triedRow w1, mr_triedColumn w1, mr_triedValue w1, mr_triedRows w1, mr_sheet w1, ma_tape w1, ma_text w1, ma_words w1, ma_wordSize w1, ma_subs w1, ma_subSize w1, ma_asked w1, ma_pile w1, ma_pileSize w1, ma_opened w1, ma_openedAt w1, ma_begun w1, ma_cells w1, ma_keptCells w1, ma_name w1, ma_isLeft w1, ma_isDone w1, ma_keptLeft w1, ma_keptDone w1, ma_state w1, ma_keptState w1, ma_newOf w1, ma_oldOf w1, ma_spare w1, ma_spareDone w1, ma_out w1, ma_metFrom w1, ma_metBy w1, ma_far w1, ma_low w1, ma_lows w1, ma_lowSize w1, ma_triedRow w1, ma_triedColumn w1, ma_triedValue w1, ma_triedRows w1, ma_sheet w1, ml_tape, ml_text, ml_words, ml_wordSize, ml_subs, ml_subSize, ml_asked, ml_pile, ml_pileSize, ml_opened, ml_openedAt, ml_begun, ml_cells, ml_keptCells, ml_name, ml_isLeft, ml_isDone, ml_keptLeft, ml_keptDone, ml_state, ml_keptState, ml_newOf, ml_oldOf, ml_spare, ml_spareDone, ml_out, ml_metFrom, ml_metBy, ml_far, ml_low, ml_lows, ml_lowSize, ml_triedRow, ml_triedColumn, ml_triedValue, ml_triedRows, ml_sheet, mo_O w1, es, ← hN]
    refine ⟨fun q => ?_, fun q => ⟨fun q2 => ⟨by omega, by omega, ⟨by omega, by omega⟩, ⟨r + 1, x4, x5, x6, rfl, by omega, by omega, FrP_sI (Or.inr (Or.inr (Or.inr rfl))) hF, hk, fun j j0 j1 => ?_, fun j hj => ?_, hb⟩, ?_⟩, fun q2 => ⟨by omega, by omega, ⟨by omega, by omega⟩, ⟨r + 1, x4, x5, x6, rfl, by omega, by omega, FrP_sI (Or.inr (Or.inr (Or.inr rfl))) hF, hk, fun j j0 j1 => ?_, fun j hj => ?_, hb⟩, ?_⟩⟩⟩
    rotate_left
    · split
      · rename_i e; rw [if_neg (by omega)]
      · exact hl j j0 (by omega)
    · rw [if_neg (by omega)]
      exact hl2 j (by omega)
    · rw [hmu, muP_187, muP_187]
      simp only [locI, nth]
      omega
    · split
      · rename_i e; rw [if_pos (by omega)]
      · exact hl j j0 (by omega)
    · rw [if_neg (by omega)]
      exact hl2 j (by omega)
    · rw [hmu, muP_187, muP_187]
      simp only [locI, nth]
      omega
    have e : r = N := by omega
    subst e
    refine ⟨⟨by omega, by omega⟩, hp _ ?_ ?_ ?_, hF.2.2.2.1, hF.2.2.2.2⟩
    · exact FrP_sI (Or.inr (Or.inr (Or.inr (Or.inr (Or.inr ⟨rfl, by omega, by omega⟩))))) (FrP_sI (Or.inr (Or.inr (Or.inr (Or.inl rfl)))) (FrP_sI (Or.inr (Or.inr (Or.inr (Or.inl rfl)))) (FrP_sI (Or.inr (Or.inr (Or.inr (Or.inl rfl)))) (FrP_mono (fun b j z => by unfold P3 at z; unfold Tb; omega) hF))))
    · have hx : ∀ x, VV (atM h) x ↔ 0 ≤ x ∧ x < r ∧ gI h pMo_isLeft x ≠ 0 := fun x => by rw [VV_atM, ← hN]
      have ek : ∀ x, x ≤ r → rk (atM h) x = kk h x := by
        intro x x1
        unfold rk kk
        congr 1
        refine cnN_same (fun j j0 j1 => ?_)
        rw [show (aV (atM h) j ≠ 0) = VV (atM h) j from rfl, hx]
        exact ⟨fun z => z.2.2, fun z => ⟨j0, by omega, z⟩⟩
      have eS1 : aS (atM h) 1 = kk h r := by
        have := hW.2.2.2.2.2.1.1
        rw [this, ← ek r (by omega)]
        unfold rk aN
        rw [aS_atM (by omega) (by omega), ← hN]
      have eU : ∀ x, 0 ≤ x → x < kk h r → (0 ≤ un (atM h) x ∧ un (atM h) x < r ∧ gI h pMo_isLeft (un (atM h) x) ≠ 0) ∧ kk h (un (atM h) x) = x := by
        intro x x0 x1
        have u := un_rk hW x0 (by rw [eS1]; exact x1)
        have u1 := (hx _).mp u.1
        exact ⟨u1, by rw [← ek _ (by omega)]; exact u.2⟩
      have s0 : gI (sI (sI (sI (sI h' pMo_state 0 (kk h r)) pMo_state 7 (gI h pMo_state 7 + 1)) pMo_state 10 0) pMo 39 wk) pMo_state 0 = kk h r := by simp (decide := true) only [gI_sI, if_false, if_true, false_and]
      have s1 : gI (sI (sI (sI (sI h' pMo_state 0 (kk h r)) pMo_state 7 (gI h pMo_state 7 + 1)) pMo_state 10 0) pMo 39 wk) pMo_isLeft = gI h' pMo_isLeft := by funext j; simp (decide := true) only [gI_sI, if_false, false_and]
      have s2 : gI (sI (sI (sI (sI h' pMo_state 0 (kk h r)) pMo_state 7 (gI h pMo_state 7 + 1)) pMo_state 10 0) pMo 39 wk) pMo_cells = gI h' pMo_cells := by funext j; simp (decide := true) only [gI_sI, if_false, false_and]
      have s3 : gI (sI (sI (sI (sI h' pMo_state 0 (kk h r)) pMo_state 7 (gI h pMo_state 7 + 1)) pMo_state 10 0) pMo 39 wk) pMo_isDone = gI h' pMo_isDone := by funext j; simp (decide := true) only [gI_sI, if_false, false_and]
      have s4 : gI (sI (sI (sI (sI h' pMo_state 0 (kk h r)) pMo_state 7 (gI h pMo_state 7 + 1)) pMo_state 10 0) pMo 39 wk) pMo 39 = wk := by simp (decide := true) only [gI_sI, if_true]
      have t1 : cV (kk h r) (gI h' pMo_isLeft) = aV (pkA (atM h)) := by
        funext x
        show (if 0 ≤ x ∧ x < kk h r ∧ gI h' pMo_isLeft x ≠ 0 then (1 : Int) else 0) = if 0 ≤ x ∧ x < aS (atM h) 1 then 1 else 0
        rw [eS1]
        by_cases z : 0 ≤ x ∧ x < kk h r
        · rw [if_pos z, if_pos ⟨z.1, z.2, by rw [hl x z.1 (by omega), if_pos z.2]; decide⟩]
        · rw [if_neg z, if_neg (fun y => z ⟨y.1, y.2.1⟩)]
      have v1 : ∀ x, aV (pkA (atM h)) x ≠ 0 ↔ 0 ≤ x ∧ x < kk h r := fun x => by rw [show (aV (pkA (atM h)) x ≠ 0) = VV (pkA (atM h)) x from rfl, VV_pk, eS1]
      have t2 : kE 10 (aV (pkA (atM h))) (c2 (gI h' pMo_cells)) = aE (pkA (atM h)) := by
        funext x c
        unfold kE
        by_cases z : 0 ≤ x ∧ x < kk h r
        · obtain ⟨u1, u2⟩ := eU x z.1 z.2
          have hv := (hx _).mpr u1
          rw [aE_pk (by rw [eS1]; exact z)]
          by_cases zc : 0 ≤ c ∧ c < 10
          · rw [if_pos ⟨(v1 x).mpr z, zc⟩, aE_atM hv zc.1 zc.2]
            show gI h' pMo_cells (10 * x + c) = _
            have := (hk _ u1.1 u1.2.1 u1.2.2).1 c zc.1 zc.2
            rw [u2] at this
            rw [this]
            unfold pv
            split
            · rfl
            · rename_i hne
              have cL : c < L := by
                apply Classical.byContradiction
                intro y
                have g := hW.2.2.1 (un (atM h) x) c (fun y2 => y y2.2.2)
                rw [aE_atM hv zc.1 zc.2] at g
                exact hne g
              have g := ((hW.1.2.2 _ c hv zc.1 cL).resolve_left (by rw [aE_atM hv zc.1 zc.2]; exact hne)).1
              rw [aE_atM hv zc.1 zc.2] at g
              rw [ek _ (by have := (hx _).mp g; omega)]
          · rw [if_neg (fun y => zc y.2), hW.2.2.1 (un (atM h) x) c (fun y => zc ⟨y.2.1, by omega⟩), if_pos rfl]
        · rw [if_neg (fun y => z ((v1 x).mp y.1))]
          have : aE (pkA (atM h)) x c = -2 := if_neg (by rw [eS1]; exact z)
          exact this.symm
      have t3 : cD (aV (pkA (atM h))) (gI h' pMo_isDone) = aD (pkA (atM h)) := by
        funext x
        show (if aV (pkA (atM h)) x ≠ 0 ∧ gI h' pMo_isDone x ≠ 0 then (1 : Int) else 0) = if (0 ≤ x ∧ x < aS (atM h) 1) ∧ aD (atM h) (un (atM h) x) ≠ 0 then 1 else 0
        rw [eS1]
        by_cases z : 0 ≤ x ∧ x < kk h r
        · obtain ⟨u1, u2⟩ := eU x z.1 z.2
          have hv := (hx _).mpr u1
          have e1 := (hk _ u1.1 u1.2.1 u1.2.2).2
          rw [u2] at e1
          have e2 := aD_atM hv
          rw [← e1] at e2
          by_cases y : gI h' pMo_isDone x ≠ 0
          · rw [if_pos ⟨(v1 x).mpr z, y⟩, if_pos ⟨z, e2.mpr y⟩]
          · rw [if_neg (fun t => y t.2), if_neg (fun t => y (e2.mp t.2))]
        · rw [if_neg (fun y => z ((v1 x).mp y.1)), if_neg (fun y => z y.1)]
      have t4 : cS (gI (sI (sI (sI (sI h' pMo_state 0 (kk h r)) pMo_state 7 (gI h pMo_state 7 + 1)) pMo_state 10 0) pMo 39 wk) pMo_state) = aS (pkA (atM h)) := by
        funext j
        show _ = if j = 0 then aS (atM h) 1 else if j = 7 then aS (atM h) 7 + 1 else if j = 10 then 0 else aS (atM h) j
        unfold cS
        by_cases z : 0 ≤ j ∧ j < 11
        · rw [if_pos z, eS1, aS_atM (by omega) (by omega), aS_atM z.1 z.2]
          simp (decide := true) only [gI_sI, if_false, false_and, true_and]
          rw [es]
          by_cases j0 : j = 0
          · subst j0; simp (decide := true) only [if_true, if_false]
          · by_cases j7 : j = 7
            · subst j7; simp (decide := true) only [if_true, if_false]
            · by_cases j10 : j = 10
              · subst j10; simp (decide := true) only [if_true, if_false]
              · simp only [j0, j7, j10, if_false]
        · rw [if_neg z, if_neg (by omega), if_neg (by omega), if_neg (by omega)]
          exact (if_neg z : cS _ j = 0).symm
      have t5 : wk = aM (pkA (atM h)) := by
        rw [hwk]
        show _ = if 0 ≤ aM (atM h) ∧ aV (atM h) (aM (atM h)) ≠ 0 then rk (atM h) (aM (atM h)) else -1
        rw [aM_atM]
        by_cases z : 0 ≤ gI h pMo 39 ∧ gI h pMo_isLeft (gI h pMo 39) ≠ 0
        · rw [if_pos z, if_pos ⟨z.1, (hx _).mpr ⟨z.1, by omega, z.2⟩⟩, ek _ (by omega)]
        · rw [if_neg z, if_neg (fun y => z ⟨y.1, ((hx _).mp y.2).2.2⟩)]
      unfold atM mkA
      rw [s0, s1, s2, s3, s4, t4]
      rw [t1]
      rw [t2, t3, t5]
      rfl
    · intro j
      simp (decide := true) only [gI_sI, if_false, false_and]
      refine ⟨?_, hb j⟩
      by_cases z : 0 ≤ j ∧ j < r
      · rw [hl j z.1 z.2]
        split
        · exact Or.inr rfl
        · exact Or.inl rfl
      · rw [hl2 j z]
        exact (hB j).1
  · simp (decide := true) only [B_Mo_packRows_0, B_Mo_packRows_4, B_Mo_packRows_33, B_Mo_packRows_39, B_Mo_packRows_70, B_Mo_packRows_71, B_Mo_packRows_74, B_Mo_packRows_96, B_Mo_packRows_107, B_Mo_packRows_152, B_Mo_packRows_159, B_Mo_packRows_166, B_Mo_packRows_179, B_Mo_packRows_185, B_Mo_packRows_187, B_Mo_packRows_211, B_Mo_packRows_212, B_Mo_packRows_219, tt_ci, tt_cl, tt_nul, tt_il, tt_al, tt_ll, tt_is, tt_as, tt_ls, tt_inc, tt_add, tt_sub, tt_mul, tt_div, tt_rem, tt_ladd, tt_lmul, tt_ldiv, tt_lrem, tt_zeq, tt_zne, tt_zlt, tt_zge, tt_zgt, tt_zle, tt_ceq, tt_cne, tt_clt, tt_cge, tt_cgt, tt_cle, tt_nn, tt_cut, tt_pop, tt_dup, tt_dup2, tt_gI, tt_gR, tt_pI, tt_pZ, tt_pR, tt_ia, tt_ba, tt_za, tt_iS, tt_bS, tt_zS, tt_aa, tt_aS, tt_len, tt_and, tt_xor, tt_shr, tt_ushr, tt_lcmp, tt_i2b, tt_i2l, tt_l2i, tt_sw, swG, tt_ir, tt_zr, tt_br, tt_lr, tt_ar, tt_vr, tt_cV, tt_cS, tt_min, tt_max, tt_acp, pI, pII, pO, pA, pIA, pIIA, pOA, pOIA, pL, pLL, pLIA, pV, pCP, lI, lO, lL, nth, stL, clL, entA, fitL, rcv, List.take_succ_cons, List.take_zero, List.drop_succ_cons, List.drop_zero, List.reverse_cons, List.reverse_nil, List.nil_append, List.cons_append, List.length_cons, List.length_nil, Option.toList_some, Option.toList_none, gI_sI, gI_sA, gR_sI, gR_sA, gI_sR, gR_sR, hN_sI, hN_sA, hN_sR, isO_sI, isO_sA, isO_sR, isAr_sI, isAr_sA, isAr_sR, hC_sI, hC_sA, hC_sR, hZ_sI, hZ_sA, hZ_sR, MW_sI, MW_sA, true_and, and_true, true_or, or_true, and_self, forall_const, imp_self, implies_true, if_true, if_false, false_and, and_false, false_or, or_false, not_false_eq_true, not_true_eq_false, sI_sI, mr_tape w, mr_text w, mr_words w, mr_wordSize w, mr_subs w, mr_subSize w, mr_asked w, mr_pile w, mr_pileSize w, mr_opened w, mr_openedAt w, mr_begun w, mr_cells w, mr_keptCells w, mr_name w, mr_isLeft w, mr_isDone w, mr_keptLeft w, mr_keptDone w, mr_state w, mr_keptState w, mr_newOf w, mr_oldOf w, mr_spare w, mr_spareDone w, mr_out w, mr_metFrom w, mr_metBy w, mr_far w, mr_low w, mr_lows w, mr_lowSize w, mr_triedRow w, mr_triedColumn w, mr_triedValue w, mr_triedRows w, mr_sheet w, ma_tape w, ma_text w, ma_words w, ma_wordSize w, ma_subs w, ma_subSize w, ma_asked w, ma_pile w, ma_pileSize w, ma_opened w, ma_openedAt w, ma_begun w, ma_cells w, ma_keptCells w, ma_name w, ma_isLeft w, ma_isDone w, ma_keptLeft w, ma_keptDone w, ma_state w, ma_keptState w, ma_newOf w, ma_oldOf w, ma_spare w, ma_spareDone w, ma_out w, ma_metFrom w, ma_metBy w, ma_far w, ma_low w, ma_lows w, ma_lowSize w, ma_triedRow w, ma_triedColumn w, ma_triedValue w, ma_triedRows w, ma_sheet w, ml_tape, ml_text, ml_words, ml_wordSize, ml_subs, ml_subSize, ml_asked, ml_pile, ml_pileSize, ml_opened, ml_openedAt, ml_begun, ml_cells, ml_keptCells, ml_name, ml_isLeft, ml_isDone, ml_keptLeft, ml_keptDone, ml_state, ml_keptState, ml_newOf, ml_oldOf, ml_spare, ml_spareDone, ml_out, ml_metFrom, ml_metBy, ml_far, ml_low, ml_lows, ml_lowSize, ml_triedRow, ml_triedColumn, ml_triedValue, ml_triedRows, ml_sheet, mo_O w]
    exact ⟨0, _, _, _, _, rfl, by omega, by omega, FrP_refl _ h, fun x x0 x1 => by omega⟩
