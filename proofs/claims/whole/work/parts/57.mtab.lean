/-! THE MODEL: about, keep, back, tell -/
def abV (L : Int) (a : AT) (k : Int) : Int := if k = 0 then aS a 1 else if k = 1 then aS a 2 else if k = 2 then aS a 3 else if k = 3 then aS a 4 else if k = 4 then aS a 5 else if k = 5 then cnN (isE L a) (10 * aN a) else if k = 6 then aS a 6 else if k = 7 then aS a 7 else if k = 8 then aS a 0 else if k = 9 then cnN (aD a) (aN a) else -1
def Ct_Mo_about : CtT := fun av h post => match av with
  | [.inr (.inl (some t)), .inl k] => t = pMo ∧ MW h ∧ (gI h pMo 32 = 0 → post (some (.inl (-1))) (sI h pMo 4 0)) ∧ (gI h pMo 32 ≠ 0 → ∃ (L Q : Int), TX L Q h ∧ post (some (.inl (abV L (atM h) k))) (sI h pMo 4 0))
  | _ => False
def B_Mo_about_250 : TT := (tt_ci (-1) tt_ir)
theorem S_Mo_about_250 (lc lz : Nat) : Snd md_Mo_about lc lz 250 (B_Mo_about_250) := (snd_iconst (n := -1) (dget dd_Mo_about 123 rfl) (inR_d rfl) rfl (snd_ir (dget dd_Mo_about 124 rfl) rfl))
def B_Mo_about_248 : TT := (tt_il 2 tt_ir)
theorem S_Mo_about_248 (lc lz : Nat) : Snd md_Mo_about lc lz 248 (B_Mo_about_248) := (snd_il_n (n := 2) (dget dd_Mo_about 121 rfl) rfl (snd_ir (dget dd_Mo_about 122 rfl) rfl))
def B_Mo_about_240 : TT := (tt_add (tt_is 2 (tt_inc 3 1 (tt_cut 206))))
theorem S_Mo_about_240 (lc lz : Nat) : Snd md_Mo_about lc lz 240 (B_Mo_about_240) := (snd_add (dget dd_Mo_about 117 rfl) (snd_is_n (n := 2) (dget dd_Mo_about 118 rfl) rfl (snd_inc (dget dd_Mo_about 119 rfl) (snd_goto (tg := 206) (dget dd_Mo_about 120 rfl) rfl snd_cut))))
def B_Mo_about_239 : TT := (tt_ci 0 (B_Mo_about_240))
theorem S_Mo_about_239 (lc lz : Nat) : Snd md_Mo_about lc lz 239 (B_Mo_about_239) := (snd_iconst (n := 0) (dget dd_Mo_about 116 rfl) (inR_d rfl) rfl (S_Mo_about_240 lc lz))
def B_Mo_about_206 : TT := (tt_il 3 (tt_al 0 (tt_gR 9 30 (tt_ci 0 (tt_ia (tt_cge (B_Mo_about_248) (tt_il 2 (tt_al 0 (tt_gR 9 26 (tt_il 3 (tt_za (tt_zeq (B_Mo_about_239) (tt_al 0 (tt_gR 9 27 (tt_il 3 (tt_za (tt_zeq (B_Mo_about_239) (tt_ci 1 (B_Mo_about_240)))))))))))))))))))
theorem S_Mo_about_206 (lc lz : Nat) : Snd md_Mo_about lc lz 206 (B_Mo_about_206) := (snd_il_n (n := 3) (dget dd_Mo_about 97 rfl) rfl (snd_al_n (n := 0) (dget dd_Mo_about 98 rfl) rfl (snd_gR (kn := 30) fd_Mo_76 rfl (dget dd_Mo_about 99 rfl) (snd_iconst (n := 0) (dget dd_Mo_about 100 rfl) (inR_d rfl) rfl (snd_ia (dget dd_Mo_about 101 rfl) (snd_cge (tg := 248) (dget dd_Mo_about 102 rfl) rfl (S_Mo_about_248 lc lz) (snd_il_n (n := 2) (dget dd_Mo_about 103 rfl) rfl (snd_al_n (n := 0) (dget dd_Mo_about 104 rfl) rfl (snd_gR (kn := 26) fd_Mo_63 rfl (dget dd_Mo_about 105 rfl) (snd_il_n (n := 3) (dget dd_Mo_about 106 rfl) rfl (snd_za (dget dd_Mo_about 107 rfl) (snd_zeq (tg := 239) (dget dd_Mo_about 108 rfl) rfl (S_Mo_about_239 lc lz) (snd_al_n (n := 0) (dget dd_Mo_about 109 rfl) rfl (snd_gR (kn := 27) fd_Mo_67 rfl (dget dd_Mo_about 110 rfl) (snd_il_n (n := 3) (dget dd_Mo_about 111 rfl) rfl (snd_za (dget dd_Mo_about 112 rfl) (snd_zeq (tg := 239) (dget dd_Mo_about 113 rfl) rfl (S_Mo_about_239 lc lz) (snd_iconst (n := 1) (dget dd_Mo_about 114 rfl) (inR_d rfl) rfl (snd_goto (tg := 240) (dget dd_Mo_about 115 rfl) rfl (S_Mo_about_240 lc lz))))))))))))))))))))
def B_Mo_about_204 : TT := (tt_ci 0 (tt_is 3 (tt_cut 206)))
theorem S_Mo_about_204 (lc lz : Nat) : Snd md_Mo_about lc lz 204 (B_Mo_about_204) := (snd_iconst (n := 0) (dget dd_Mo_about 95 rfl) (inR_d rfl) rfl (snd_is_n (n := 3) (dget dd_Mo_about 96 rfl) rfl snd_cut))
def B_Mo_about_197 : TT := (tt_al 0 (tt_gR 9 30 (tt_ci 0 (tt_ia tt_ir))))
theorem S_Mo_about_197 (lc lz : Nat) : Snd md_Mo_about lc lz 197 (B_Mo_about_197) := (snd_al_n (n := 0) (dget dd_Mo_about 90 rfl) rfl (snd_gR (kn := 30) fd_Mo_76 rfl (dget dd_Mo_about 91 rfl) (snd_iconst (n := 0) (dget dd_Mo_about 92 rfl) (inR_d rfl) rfl (snd_ia (dget dd_Mo_about 93 rfl) (snd_ir (dget dd_Mo_about 94 rfl) rfl)))))
def B_Mo_about_189 : TT := (tt_al 0 (tt_gR 9 30 (tt_ci 7 (tt_ia tt_ir))))
theorem S_Mo_about_189 (lc lz : Nat) : Snd md_Mo_about lc lz 189 (B_Mo_about_189) := (snd_al_n (n := 0) (dget dd_Mo_about 85 rfl) rfl (snd_gR (kn := 30) fd_Mo_76 rfl (dget dd_Mo_about 86 rfl) (snd_bipush (n := 7) (dget dd_Mo_about 87 rfl) (inR_d rfl) (by decide) (snd_ia (dget dd_Mo_about 88 rfl) (snd_ir (dget dd_Mo_about 89 rfl) rfl)))))
def B_Mo_about_181 : TT := (tt_al 0 (tt_gR 9 30 (tt_ci 6 (tt_ia tt_ir))))
theorem S_Mo_about_181 (lc lz : Nat) : Snd md_Mo_about lc lz 181 (B_Mo_about_181) := (snd_al_n (n := 0) (dget dd_Mo_about 80 rfl) rfl (snd_gR (kn := 30) fd_Mo_76 rfl (dget dd_Mo_about 81 rfl) (snd_bipush (n := 6) (dget dd_Mo_about 82 rfl) (inR_d rfl) (by decide) (snd_ia (dget dd_Mo_about 83 rfl) (snd_ir (dget dd_Mo_about 84 rfl) rfl)))))
def B_Mo_about_179 : TT := (tt_il 2 tt_ir)
theorem S_Mo_about_179 (lc lz : Nat) : Snd md_Mo_about lc lz 179 (B_Mo_about_179) := (snd_il_n (n := 2) (dget dd_Mo_about 78 rfl) rfl (snd_ir (dget dd_Mo_about 79 rfl) rfl))
def B_Mo_about_173 : TT := (tt_inc 3 1 (tt_cut 109))
theorem S_Mo_about_173 (lc lz : Nat) : Snd md_Mo_about lc lz 173 (B_Mo_about_173) := (snd_inc (dget dd_Mo_about 76 rfl) (snd_goto (tg := 109) (dget dd_Mo_about 77 rfl) rfl snd_cut))
def B_Mo_about_165 : TT := (tt_add (tt_is 2 (tt_inc 4 1 (tt_cut 122))))
theorem S_Mo_about_165 (lc lz : Nat) : Snd md_Mo_about lc lz 165 (B_Mo_about_165) := (snd_add (dget dd_Mo_about 72 rfl) (snd_is_n (n := 2) (dget dd_Mo_about 73 rfl) rfl (snd_inc (dget dd_Mo_about 74 rfl) (snd_goto (tg := 122) (dget dd_Mo_about 75 rfl) rfl snd_cut))))
def B_Mo_about_164 : TT := (tt_ci 0 (B_Mo_about_165))
theorem S_Mo_about_164 (lc lz : Nat) : Snd md_Mo_about lc lz 164 (B_Mo_about_164) := (snd_iconst (n := 0) (dget dd_Mo_about 71 rfl) (inR_d rfl) rfl (S_Mo_about_165 lc lz))
def B_Mo_about_122 : TT := (tt_il 4 (tt_ci 2 (tt_al 0 (tt_gI 9 0 (tt_mul (tt_cge (B_Mo_about_173) (tt_il 2 (tt_al 0 (tt_gR 9 26 (tt_il 3 (tt_za (tt_zeq (B_Mo_about_164) (tt_al 0 (tt_gR 9 23 (tt_ci 10 (tt_il 3 (tt_mul (tt_il 4 (tt_add (tt_ia (tt_ci (-2) (tt_cne (B_Mo_about_164) (tt_ci 1 (B_Mo_about_165))))))))))))))))))))))))
theorem S_Mo_about_122 (lc lz : Nat) : Snd md_Mo_about lc lz 122 (B_Mo_about_122) := (snd_il (dget dd_Mo_about 47 rfl) (snd_iconst (n := 2) (dget dd_Mo_about 48 rfl) (inR_d rfl) rfl (snd_al_n (n := 0) (dget dd_Mo_about 49 rfl) rfl (snd_gI (kn := 0) fd_Mo_7 rfl (dget dd_Mo_about 50 rfl) (snd_mul (dget dd_Mo_about 51 rfl) (snd_cge (tg := 173) (dget dd_Mo_about 52 rfl) rfl (S_Mo_about_173 lc lz) (snd_il_n (n := 2) (dget dd_Mo_about 53 rfl) rfl (snd_al_n (n := 0) (dget dd_Mo_about 54 rfl) rfl (snd_gR (kn := 26) fd_Mo_63 rfl (dget dd_Mo_about 55 rfl) (snd_il_n (n := 3) (dget dd_Mo_about 56 rfl) rfl (snd_za (dget dd_Mo_about 57 rfl) (snd_zeq (tg := 164) (dget dd_Mo_about 58 rfl) rfl (S_Mo_about_164 lc lz) (snd_al_n (n := 0) (dget dd_Mo_about 59 rfl) rfl (snd_gR (kn := 23) fd_Mo_54 rfl (dget dd_Mo_about 60 rfl) (snd_bipush (n := 10) (dget dd_Mo_about 61 rfl) (inR_d rfl) (by decide) (snd_il_n (n := 3) (dget dd_Mo_about 62 rfl) rfl (snd_mul (dget dd_Mo_about 63 rfl) (snd_il (dget dd_Mo_about 64 rfl) (snd_add (dget dd_Mo_about 65 rfl) (snd_ia (dget dd_Mo_about 66 rfl) (snd_bipush (n := -2) (dget dd_Mo_about 67 rfl) (inR_d rfl) (by decide) (snd_cne (tg := 164) (dget dd_Mo_about 68 rfl) rfl (S_Mo_about_164 lc lz) (snd_iconst (n := 1) (dget dd_Mo_about 69 rfl) (inR_d rfl) rfl (snd_goto (tg := 165) (dget dd_Mo_about 70 rfl) rfl (S_Mo_about_165 lc lz)))))))))))))))))))))))))
def B_Mo_about_109 : TT := (tt_il 3 (tt_al 0 (tt_gR 9 30 (tt_ci 0 (tt_ia (tt_cge (B_Mo_about_179) (tt_ci 0 (tt_is 4 (tt_cut 122)))))))))
theorem S_Mo_about_109 (lc lz : Nat) : Snd md_Mo_about lc lz 109 (B_Mo_about_109) := (snd_il_n (n := 3) (dget dd_Mo_about 39 rfl) rfl (snd_al_n (n := 0) (dget dd_Mo_about 40 rfl) rfl (snd_gR (kn := 30) fd_Mo_76 rfl (dget dd_Mo_about 41 rfl) (snd_iconst (n := 0) (dget dd_Mo_about 42 rfl) (inR_d rfl) rfl (snd_ia (dget dd_Mo_about 43 rfl) (snd_cge (tg := 179) (dget dd_Mo_about 44 rfl) rfl (S_Mo_about_179 lc lz) (snd_iconst (n := 0) (dget dd_Mo_about 45 rfl) (inR_d rfl) rfl (snd_is (dget dd_Mo_about 46 rfl) snd_cut))))))))
def B_Mo_about_107 : TT := (tt_ci 0 (tt_is 3 (tt_cut 109)))
theorem S_Mo_about_107 (lc lz : Nat) : Snd md_Mo_about lc lz 107 (B_Mo_about_107) := (snd_iconst (n := 0) (dget dd_Mo_about 37 rfl) (inR_d rfl) rfl (snd_is_n (n := 3) (dget dd_Mo_about 38 rfl) rfl snd_cut))
def B_Mo_about_100 : TT := (tt_al 0 (tt_gR 9 30 (tt_ci 5 (tt_ia tt_ir))))
theorem S_Mo_about_100 (lc lz : Nat) : Snd md_Mo_about lc lz 100 (B_Mo_about_100) := (snd_al_n (n := 0) (dget dd_Mo_about 32 rfl) rfl (snd_gR (kn := 30) fd_Mo_76 rfl (dget dd_Mo_about 33 rfl) (snd_iconst (n := 5) (dget dd_Mo_about 34 rfl) (inR_d rfl) rfl (snd_ia (dget dd_Mo_about 35 rfl) (snd_ir (dget dd_Mo_about 36 rfl) rfl)))))
def B_Mo_about_93 : TT := (tt_al 0 (tt_gR 9 30 (tt_ci 4 (tt_ia tt_ir))))
theorem S_Mo_about_93 (lc lz : Nat) : Snd md_Mo_about lc lz 93 (B_Mo_about_93) := (snd_al_n (n := 0) (dget dd_Mo_about 27 rfl) rfl (snd_gR (kn := 30) fd_Mo_76 rfl (dget dd_Mo_about 28 rfl) (snd_iconst (n := 4) (dget dd_Mo_about 29 rfl) (inR_d rfl) rfl (snd_ia (dget dd_Mo_about 30 rfl) (snd_ir (dget dd_Mo_about 31 rfl) rfl)))))
def B_Mo_about_86 : TT := (tt_al 0 (tt_gR 9 30 (tt_ci 3 (tt_ia tt_ir))))
theorem S_Mo_about_86 (lc lz : Nat) : Snd md_Mo_about lc lz 86 (B_Mo_about_86) := (snd_al_n (n := 0) (dget dd_Mo_about 22 rfl) rfl (snd_gR (kn := 30) fd_Mo_76 rfl (dget dd_Mo_about 23 rfl) (snd_iconst (n := 3) (dget dd_Mo_about 24 rfl) (inR_d rfl) rfl (snd_ia (dget dd_Mo_about 25 rfl) (snd_ir (dget dd_Mo_about 26 rfl) rfl)))))
def B_Mo_about_79 : TT := (tt_al 0 (tt_gR 9 30 (tt_ci 2 (tt_ia tt_ir))))
theorem S_Mo_about_79 (lc lz : Nat) : Snd md_Mo_about lc lz 79 (B_Mo_about_79) := (snd_al_n (n := 0) (dget dd_Mo_about 17 rfl) rfl (snd_gR (kn := 30) fd_Mo_76 rfl (dget dd_Mo_about 18 rfl) (snd_iconst (n := 2) (dget dd_Mo_about 19 rfl) (inR_d rfl) rfl (snd_ia (dget dd_Mo_about 20 rfl) (snd_ir (dget dd_Mo_about 21 rfl) rfl)))))
def B_Mo_about_72 : TT := (tt_al 0 (tt_gR 9 30 (tt_ci 1 (tt_ia tt_ir))))
theorem S_Mo_about_72 (lc lz : Nat) : Snd md_Mo_about lc lz 72 (B_Mo_about_72) := (snd_al_n (n := 0) (dget dd_Mo_about 12 rfl) rfl (snd_gR (kn := 30) fd_Mo_76 rfl (dget dd_Mo_about 13 rfl) (snd_iconst (n := 1) (dget dd_Mo_about 14 rfl) (inR_d rfl) rfl (snd_ia (dget dd_Mo_about 15 rfl) (snd_ir (dget dd_Mo_about 16 rfl) rfl)))))
def B_Mo_about_14 : TT := (tt_ci 0 (tt_is 2 (tt_il 1 (tt_sw 0 [(B_Mo_about_72), (B_Mo_about_79), (B_Mo_about_86), (B_Mo_about_93), (B_Mo_about_100), (B_Mo_about_107), (B_Mo_about_181), (B_Mo_about_189), (B_Mo_about_197), (B_Mo_about_204)] (B_Mo_about_250)))))
theorem S_Mo_about_14 (lc lz : Nat) : Snd md_Mo_about lc lz 14 (B_Mo_about_14) := (snd_iconst (n := 0) (dget dd_Mo_about 8 rfl) (inR_d rfl) rfl (snd_is_n (n := 2) (dget dd_Mo_about 9 rfl) rfl (snd_il_n (n := 1) (dget dd_Mo_about 10 rfl) rfl (snd_sw (tgd := 250) (os := [55, 62, 69, 76, 83, 90, 164, 172, 180, 187]) (dget dd_Mo_about 11 rfl) rfl (⟨⟨72, rfl, (S_Mo_about_72 lc lz)⟩, ⟨⟨79, rfl, (S_Mo_about_79 lc lz)⟩, ⟨⟨86, rfl, (S_Mo_about_86 lc lz)⟩, ⟨⟨93, rfl, (S_Mo_about_93 lc lz)⟩, ⟨⟨100, rfl, (S_Mo_about_100 lc lz)⟩, ⟨⟨107, rfl, (S_Mo_about_107 lc lz)⟩, ⟨⟨181, rfl, (S_Mo_about_181 lc lz)⟩, ⟨⟨189, rfl, (S_Mo_about_189 lc lz)⟩, ⟨⟨197, rfl, (S_Mo_about_197 lc lz)⟩, ⟨⟨204, rfl, (S_Mo_about_204 lc lz)⟩, trivial⟩⟩⟩⟩⟩⟩⟩⟩⟩⟩) rfl (S_Mo_about_250 lc lz)))))
def B_Mo_about_0 : TT := (tt_al 0 (tt_ci 0 (tt_pI 9 4 (tt_al 0 (tt_gI 9 32 (tt_zne (B_Mo_about_14) (tt_ci (-1) tt_ir)))))))
theorem S_Mo_about_0 (lc lz : Nat) : Snd md_Mo_about lc lz 0 (B_Mo_about_0) := (snd_al_n (n := 0) (dget dd_Mo_about 0 rfl) rfl (snd_iconst (n := 0) (dget dd_Mo_about 1 rfl) (inR_d rfl) rfl (snd_pI (kn := 4) fd_Mo_130 rfl (dget dd_Mo_about 2 rfl) (snd_al_n (n := 0) (dget dd_Mo_about 3 rfl) rfl (snd_gI (kn := 32) fd_Mo_152 rfl (dget dd_Mo_about 4 rfl) (snd_zne (tg := 14) (dget dd_Mo_about 5 rfl) rfl (S_Mo_about_14 lc lz) (snd_iconst (n := -1) (dget dd_Mo_about 6 rfl) (inR_d rfl) rfl (snd_ir (dget dd_Mo_about 7 rfl) rfl))))))))
def muA5 (pc : Nat) (ls : LSt) (_ : PH) : Nat := if pc = 109 then (60000 - 20 * locI ls 3).toNat else if pc = 122 then (60000 - 20 * locI ls 3 - 1 - locI ls 4).toNat else (2000 - locI ls 3).toNat
theorem muA5_109 {ls : LSt} {h' : PH} : muA5 109 ls h' = (60000 - 20 * locI ls 3).toNat := by unfold muA5; rw [if_pos rfl]
theorem muA5_122 {ls : LSt} {h' : PH} : muA5 122 ls h' = (60000 - 20 * locI ls 3 - 1 - locI ls 4).toNat := by unfold muA5; rw [if_neg (by decide), if_pos rfl]
theorem muA5_206 {ls : LSt} {h' : PH} : muA5 206 ls h' = (2000 - locI ls 3).toNat := by unfold muA5; rw [if_neg (by decide), if_neg (by decide)]
theorem arA5 {k c : Int} (h0 : 0 ≤ k) (h1 : k ≤ 2000) (h2 : 0 ≤ c) (h3 : c ≤ 10) : (60000 - 20 * (k + 1)).toNat < (60000 - 20 * k - 1 - c).toNat := by omega
theorem sI4_at {h : PH} : atM (sI h pMo 4 0) = atM h := atM_sI (by decide)
theorem met_Mo_about : MetP y_Mo_about md_Mo_about (fun _ => 0) (fun _ => 0) Ct_Mo_about := by
  refine metL3 (body := B_Mo_about_0) (B1 := B_Mo_about_109) (B2 := B_Mo_about_122) (B3 := B_Mo_about_206) (by decide) rfl rfl (fun lc lz => S_Mo_about_0 lc lz) (fun lc lz => S_Mo_about_109 lc lz) (fun lc lz => S_Mo_about_122 lc lz) (fun lc lz => S_Mo_about_206 lc lz) (by decide) ?_
  intro av h post hc hH hav
  unfold Ct_Mo_about at hc
  split at hc
  rotate_left
  · exact hc.elim
  rename_i t k
  obtain ⟨rfl, w, hp0, hp⟩ := hc
  refine ⟨Nat.le_of_ble_eq_true rfl, ?_⟩
  obtain ⟨mu, hmu⟩ : ∃ mu, mu = muA5 := ⟨_, rfl⟩
  by_cases h32 : gI h pMo 32 = 0
  · refine ⟨fun _ _ => False, fun _ _ => False, fun _ _ => False, mu, fun _ _ z => z.elim, fun _ _ z => z.elim, fun _ _ z => z.elim, ?_⟩
    simp (decide := true) only [B_Mo_about_0, B_Mo_about_72, B_Mo_about_79, B_Mo_about_86, B_Mo_about_93, B_Mo_about_100, B_Mo_about_107, B_Mo_about_109, B_Mo_about_122, B_Mo_about_164, B_Mo_about_165, B_Mo_about_173, B_Mo_about_179, B_Mo_about_181, B_Mo_about_189, B_Mo_about_197, B_Mo_about_204, B_Mo_about_206, B_Mo_about_239, B_Mo_about_240, B_Mo_about_248, B_Mo_about_250, tt_ci, tt_cl, tt_nul, tt_il, tt_al, tt_ll, tt_is, tt_as, tt_ls, tt_inc, tt_add, tt_sub, tt_mul, tt_div, tt_rem, tt_ladd, tt_lmul, tt_ldiv, tt_lrem, tt_zeq, tt_zne, tt_zlt, tt_zge, tt_zgt, tt_zle, tt_ceq, tt_cne, tt_clt, tt_cge, tt_cgt, tt_cle, tt_nn, tt_cut, tt_pop, tt_dup, tt_dup2, tt_gI, tt_gR, tt_pI, tt_pZ, tt_pR, tt_ia, tt_ba, tt_za, tt_iS, tt_bS, tt_zS, tt_aa, tt_aS, tt_len, tt_and, tt_xor, tt_shr, tt_ushr, tt_lcmp, tt_i2b, tt_i2l, tt_l2i, tt_sw, swG, tt_ir, tt_zr, tt_br, tt_lr, tt_ar, tt_vr, tt_cV, tt_cS, tt_min, tt_max, tt_acp, pI, pII, pO, pA, pIA, pIIA, pOA, pOIA, pL, pLL, pLIA, pV, pCP, lI, lO, lL, nth, stL, clL, entA, fitL, rcv, List.take_succ_cons, List.take_zero, List.drop_succ_cons, List.drop_zero, List.reverse_cons, List.reverse_nil, List.nil_append, List.cons_append, List.length_cons, List.length_nil, Option.toList_some, Option.toList_none, gI_sI, gI_sA, gR_sI, gR_sA, gI_sR, gR_sR, hN_sI, hN_sA, hN_sR, isO_sI, isO_sA, isO_sR, isAr_sI, isAr_sA, isAr_sR, hC_sI, hC_sA, hC_sR, hZ_sI, hZ_sA, hZ_sR, MW_sI, MW_sA, true_and, and_true, true_or, or_true, and_self, forall_const, imp_self, implies_true, if_true, if_false, false_and, and_false, false_or, or_false, not_false_eq_true, not_true_eq_false, sI_sI, mr_tape w, mr_text w, mr_words w, mr_wordSize w, mr_subs w, mr_subSize w, mr_asked w, mr_pile w, mr_pileSize w, mr_opened w, mr_openedAt w, mr_begun w, mr_cells w, mr_keptCells w, mr_name w, mr_isLeft w, mr_isDone w, mr_keptLeft w, mr_keptDone w, mr_state w, mr_keptState w, mr_newOf w, mr_oldOf w, mr_spare w, mr_spareDone w, mr_out w, mr_metFrom w, mr_metBy w, mr_far w, mr_low w, mr_lows w, mr_lowSize w, mr_triedRow w, mr_triedColumn w, mr_triedValue w, mr_triedRows w, mr_sheet w, ma_tape w, ma_text w, ma_words w, ma_wordSize w, ma_subs w, ma_subSize w, ma_asked w, ma_pile w, ma_pileSize w, ma_opened w, ma_openedAt w, ma_begun w, ma_cells w, ma_keptCells w, ma_name w, ma_isLeft w, ma_isDone w, ma_keptLeft w, ma_keptDone w, ma_state w, ma_keptState w, ma_newOf w, ma_oldOf w, ma_spare w, ma_spareDone w, ma_out w, ma_metFrom w, ma_metBy w, ma_far w, ma_low w, ma_lows w, ma_lowSize w, ma_triedRow w, ma_triedColumn w, ma_triedValue w, ma_triedRows w, ma_sheet w, ml_tape, ml_text, ml_words, ml_wordSize, ml_subs, ml_subSize, ml_asked, ml_pile, ml_pileSize, ml_opened, ml_openedAt, ml_begun, ml_cells, ml_keptCells, ml_name, ml_isLeft, ml_isDone, ml_keptLeft, ml_keptDone, ml_state, ml_keptState, ml_newOf, ml_oldOf, ml_spare, ml_spareDone, ml_out, ml_metFrom, ml_metBy, ml_far, ml_low, ml_lows, ml_lowSize, ml_triedRow, ml_triedColumn, ml_triedValue, ml_triedRows, ml_sheet, mo_O w, h32]
    exact ⟨fun z => z.elim, hp0 h32⟩
  obtain ⟨L, Q, hX, hp⟩ := hp h32
  obtain ⟨x1, x2, x3, x4, x5, x6⟩ := id hX
  have sr := st_raw x3
  have eN := aN_eq x3
  rw [aS_atM (by decide) (by decide)] at eN
  refine ⟨fun ls h' => h' = sI h pMo 4 0 ∧ k = 5 ∧ ∃ (r : Nat) (y4 : Option PV), ls = [some (.inr (.inl (some pMo))), some (.inl k), some (.inl (cnN (isE L (atM h)) (10 * r))), some (.inl r), y4] ∧ (r : Int) ≤ gI h pMo_state 0,
    fun ls h' => h' = sI h pMo 4 0 ∧ k = 5 ∧ ∃ (r c : Nat), ls = [some (.inr (.inl (some pMo))), some (.inl k), some (.inl (cnN (isE L (atM h)) (10 * r + c))), some (.inl r), some (.inl c)] ∧ (r : Int) < gI h pMo_state 0 ∧ (c : Int) ≤ L,
    fun ls h' => h' = sI h pMo 4 0 ∧ k = 9 ∧ ∃ (r : Nat) (y4 : Option PV), ls = [some (.inr (.inl (some pMo))), some (.inl k), some (.inl (cnN (aD (atM h)) r)), some (.inl r), y4] ∧ (r : Int) ≤ gI h pMo_state 0, mu, ?_, ?_, ?_, ?_⟩
  · rintro ls h' ⟨rfl, rfl, r, y4, rfl, hr⟩
    have cb := cnN_bound (isE L (atM h)) (10 * r)
    simp (decide := true) only [B_Mo_about_0, B_Mo_about_14, B_Mo_about_72, B_Mo_about_79, B_Mo_about_86, B_Mo_about_93, B_Mo_about_100, B_Mo_about_107, B_Mo_about_109, B_Mo_about_122, B_Mo_about_164, B_Mo_about_165, B_Mo_about_173, B_Mo_about_179, B_Mo_about_181, B_Mo_about_189, B_Mo_about_197, B_Mo_about_204, B_Mo_about_206, B_Mo_about_239, B_Mo_about_240, B_Mo_about_248, B_Mo_about_250, tt_ci, tt_cl, tt_nul, tt_il, tt_al, tt_ll, tt_is, tt_as, tt_ls, tt_inc, tt_add, tt_sub, tt_mul, tt_div, tt_rem, tt_ladd, tt_lmul, tt_ldiv, tt_lrem, tt_zeq, tt_zne, tt_zlt, tt_zge, tt_zgt, tt_zle, tt_ceq, tt_cne, tt_clt, tt_cge, tt_cgt, tt_cle, tt_nn, tt_cut, tt_pop, tt_dup, tt_dup2, tt_gI, tt_gR, tt_pI, tt_pZ, tt_pR, tt_ia, tt_ba, tt_za, tt_iS, tt_bS, tt_zS, tt_aa, tt_aS, tt_len, tt_and, tt_xor, tt_shr, tt_ushr, tt_lcmp, tt_i2b, tt_i2l, tt_l2i, tt_sw, swG, tt_ir, tt_zr, tt_br, tt_lr, tt_ar, tt_vr, tt_cV, tt_cS, tt_min, tt_max, tt_acp, pI, pII, pO, pA, pIA, pIIA, pOA, pOIA, pL, pLL, pLIA, pV, pCP, lI, lO, lL, nth, stL, clL, entA, fitL, rcv, List.take_succ_cons, List.take_zero, List.drop_succ_cons, List.drop_zero, List.reverse_cons, List.reverse_nil, List.nil_append, List.cons_append, List.length_cons, List.length_nil, Option.toList_some, Option.toList_none, gI_sI, gI_sA, gR_sI, gR_sA, gI_sR, gR_sR, hN_sI, hN_sA, hN_sR, isO_sI, isO_sA, isO_sR, isAr_sI, isAr_sA, isAr_sR, hC_sI, hC_sA, hC_sR, hZ_sI, hZ_sA, hZ_sR, MW_sI, MW_sA, true_and, and_true, true_or, or_true, and_self, forall_const, imp_self, implies_true, if_true, if_false, false_and, and_false, false_or, or_false, not_false_eq_true, not_true_eq_false, sI_sI, mr_tape w, mr_text w, mr_words w, mr_wordSize w, mr_subs w, mr_subSize w, mr_asked w, mr_pile w, mr_pileSize w, mr_opened w, mr_openedAt w, mr_begun w, mr_cells w, mr_keptCells w, mr_name w, mr_isLeft w, mr_isDone w, mr_keptLeft w, mr_keptDone w, mr_state w, mr_keptState w, mr_newOf w, mr_oldOf w, mr_spare w, mr_spareDone w, mr_out w, mr_metFrom w, mr_metBy w, mr_far w, mr_low w, mr_lows w, mr_lowSize w, mr_triedRow w, mr_triedColumn w, mr_triedValue w, mr_triedRows w, mr_sheet w, ma_tape w, ma_text w, ma_words w, ma_wordSize w, ma_subs w, ma_subSize w, ma_asked w, ma_pile w, ma_pileSize w, ma_opened w, ma_openedAt w, ma_begun w, ma_cells w, ma_keptCells w, ma_name w, ma_isLeft w, ma_isDone w, ma_keptLeft w, ma_keptDone w, ma_state w, ma_keptState w, ma_newOf w, ma_oldOf w, ma_spare w, ma_spareDone w, ma_out w, ma_metFrom w, ma_metBy w, ma_far w, ma_low w, ma_lows w, ma_lowSize w, ma_triedRow w, ma_triedColumn w, ma_triedValue w, ma_triedRows w, ma_sheet w, ml_tape, ml_text, ml_words, ml_wordSize, ml_subs, ml_subSize, ml_asked, ml_pile, ml_pileSize, ml_opened, ml_openedAt, ml_begun, ml_cells, ml_keptCells, ml_name, ml_isLeft, ml_isDone, ml_keptLeft, ml_keptDone, ml_state, ml_keptState, ml_newOf, ml_oldOf, ml_spare, ml_spareDone, ml_out, ml_metFrom, ml_metBy, ml_far, ml_low, ml_lows, ml_lowSize, ml_triedRow, ml_triedColumn, ml_triedValue, ml_triedRows, ml_sheet, mo_O w]
    refine ⟨fun q => ?_, fun q => ⟨⟨r, 0, rfl, by omega, by omega⟩, ?_⟩⟩
    · have e : r = aN (atM h) := by omega
      have ev : abV L (atM h) 5 = cnN (isE L (atM h)) (10 * r) := by unfold abV; simp (decide := true) only [if_true, if_false]; rw [e]
      rw [ev] at hp
      exact hp
    · rw [hmu, muA5_122, muA5_109]
      simp only [locI, nth]
      omega
  · rintro ls h' ⟨rfl, rfl, r, c, rfl, hr, hc⟩
    have cb := cnN_bound (isE L (atM h)) (10 * r + c)
    have sk : isE L (atM h) ((10 * r + c : Nat) : Int) = 0 → cnN (isE L (atM h)) (10 * r + (c + 1)) = cnN (isE L (atM h)) (10 * r + c) := fun z => cnN_skip z
    have su : isE L (atM h) ((10 * r + c : Nat) : Int) ≠ 0 → cnN (isE L (atM h)) (10 * r + (c + 1)) = cnN (isE L (atM h)) (10 * r + c) + 1 := fun z => cnN_succ z
    have d1 : ((10 * r + c : Nat) : Int) / 10 = r ∨ ¬ (c : Int) < 10 := by omega
    have d2 : ((10 * r + c : Nat) : Int) % 10 = c ∨ ¬ (c : Int) < 10 := by omega
    have lt : ∀ x : Int, (c : Int) < L → mu 122 [some (.inr (.inl (some pMo))), some (.inl 5), some (.inl x), some (.inl r), some (.inl ((c : Int) + 1))] (sI h pMo 4 0) < mu 122 [some (.inr (.inl (some pMo))), some (.inl 5), some (.inl (cnN (isE L (atM h)) (10 * r + c))), some (.inl r), some (.inl c)] (sI h pMo 4 0) := by
      intro x z
      rw [hmu, muA5_122, muA5_122]
      simp only [locI, nth]
      omega
    simp (decide := true) only [B_Mo_about_0, B_Mo_about_14, B_Mo_about_72, B_Mo_about_79, B_Mo_about_86, B_Mo_about_93, B_Mo_about_100, B_Mo_about_107, B_Mo_about_109, B_Mo_about_122, B_Mo_about_164, B_Mo_about_165, B_Mo_about_173, B_Mo_about_179, B_Mo_about_181, B_Mo_about_189, B_Mo_about_197, B_Mo_about_204, B_Mo_about_206, B_Mo_about_239, B_Mo_about_240, B_Mo_about_248, B_Mo_about_250, tt_ci, tt_cl, tt_nul, tt_il, tt_al, tt_ll, tt_is, tt_as, tt_ls, tt_inc, tt_add, tt_sub, tt_mul, tt_div, tt_rem, tt_ladd, tt_lmul, tt_ldiv, tt_lrem, tt_zeq, tt_zne, tt_zlt, tt_zge, tt_zgt, tt_zle, tt_ceq, tt_cne, tt_clt, tt_cge, tt_cgt, tt_cle, tt_nn, tt_cut, tt_pop, tt_dup, tt_dup2, tt_gI, tt_gR, tt_pI, tt_pZ, tt_pR, tt_ia, tt_ba, tt_za, tt_iS, tt_bS, tt_zS, tt_aa, tt_aS, tt_len, tt_and, tt_xor, tt_shr, tt_ushr, tt_lcmp, tt_i2b, tt_i2l, tt_l2i, tt_sw, swG, tt_ir, tt_zr, tt_br, tt_lr, tt_ar, tt_vr, tt_cV, tt_cS, tt_min, tt_max, tt_acp, pI, pII, pO, pA, pIA, pIIA, pOA, pOIA, pL, pLL, pLIA, pV, pCP, lI, lO, lL, nth, stL, clL, entA, fitL, rcv, List.take_succ_cons, List.take_zero, List.drop_succ_cons, List.drop_zero, List.reverse_cons, List.reverse_nil, List.nil_append, List.cons_append, List.length_cons, List.length_nil, Option.toList_some, Option.toList_none, gI_sI, gI_sA, gR_sI, gR_sA, gI_sR, gR_sR, hN_sI, hN_sA, hN_sR, isO_sI, isO_sA, isO_sR, isAr_sI, isAr_sA, isAr_sR, hC_sI, hC_sA, hC_sR, hZ_sI, hZ_sA, hZ_sR, MW_sI, MW_sA, true_and, and_true, true_or, or_true, and_self, forall_const, imp_self, implies_true, if_true, if_false, false_and, and_false, false_or, or_false, not_false_eq_true, not_true_eq_false, sI_sI, mr_tape w, mr_text w, mr_words w, mr_wordSize w, mr_subs w, mr_subSize w, mr_asked w, mr_pile w, mr_pileSize w, mr_opened w, mr_openedAt w, mr_begun w, mr_cells w, mr_keptCells w, mr_name w, mr_isLeft w, mr_isDone w, mr_keptLeft w, mr_keptDone w, mr_state w, mr_keptState w, mr_newOf w, mr_oldOf w, mr_spare w, mr_spareDone w, mr_out w, mr_metFrom w, mr_metBy w, mr_far w, mr_low w, mr_lows w, mr_lowSize w, mr_triedRow w, mr_triedColumn w, mr_triedValue w, mr_triedRows w, mr_sheet w, ma_tape w, ma_text w, ma_words w, ma_wordSize w, ma_subs w, ma_subSize w, ma_asked w, ma_pile w, ma_pileSize w, ma_opened w, ma_openedAt w, ma_begun w, ma_cells w, ma_keptCells w, ma_name w, ma_isLeft w, ma_isDone w, ma_keptLeft w, ma_keptDone w, ma_state w, ma_keptState w, ma_newOf w, ma_oldOf w, ma_spare w, ma_spareDone w, ma_out w, ma_metFrom w, ma_metBy w, ma_far w, ma_low w, ma_lows w, ma_lowSize w, ma_triedRow w, ma_triedColumn w, ma_triedValue w, ma_triedRows w, ma_sheet w, ml_tape, ml_text, ml_words, ml_wordSize, ml_subs, ml_subSize, ml_asked, ml_pile, ml_pileSize, ml_opened, ml_openedAt, ml_begun, ml_cells, ml_keptCells, ml_name, ml_isLeft, ml_isDone, ml_keptLeft, ml_keptDone, ml_state, ml_keptState, ml_newOf, ml_oldOf, ml_spare, ml_spareDone, ml_out, ml_metFrom, ml_metBy, ml_far, ml_low, ml_lows, ml_lowSize, ml_triedRow, ml_triedColumn, ml_triedValue, ml_triedRows, ml_sheet, mo_O w]
    refine ⟨⟨by omega, by omega⟩, fun q => ⟨⟨by omega, by omega⟩, ⟨r + 1, some (.inl c), ?_, by omega⟩, ?_⟩, fun q => ⟨by omega, by omega, fun q2 => ⟨⟨by omega, by omega⟩, ⟨by omega, by omega⟩, ⟨r, c + 1, ?_, by omega, by omega⟩, lt _ (by omega)⟩, fun q2 => ?_⟩⟩
    · have e : cnN (isE L (atM h)) (10 * (r + 1)) = cnN (isE L (atM h)) (10 * r + c) := by
        have : ∀ n, c + n ≤ 10 → cnN (isE L (atM h)) (10 * r + (c + n)) = cnN (isE L (atM h)) (10 * r + c) := by
          intro n
          induction n with
          | zero => intro _; rfl
          | succ n ih =>
            intro hn
            rw [← ih (by omega)]
            have sk2 : cnN (isE L (atM h)) ((10 * r + (c + n)) + 1) = cnN (isE L (atM h)) (10 * r + (c + n)) := cnN_skip (if_neg (fun z => by have h2 := z.2.1; push_cast at h2; omega))
            exact sk2
        have := this (10 - c) (by omega)
        rw [← this]
        congr 1
        omega
      rw [e]
      push_cast
      rfl
    · rw [hmu, muA5_109, muA5_122]
      simp only [locI, nth]
      exact arA5 (by omega) (by omega) (by omega) (by omega)
    · rw [sk (if_neg (fun z => ?_)), Int.add_zero]
      · push_cast
        rfl
      · have := z.1
        rw [d1.resolve_right (by omega)] at this
        exact (VV_atM.mp this).2.2 q2
    · have hv : VV (atM h) r := VV_atM.mpr ⟨by omega, hr, q2⟩
      rw [← aE_atM hv (by omega) (by omega)]
      refine ⟨⟨by omega, by omega⟩, ⟨by omega, by omega⟩, by omega, by omega, fun q3 => ⟨⟨by omega, by omega⟩, ⟨by omega, by omega⟩, ⟨r, c + 1, ?_, by omega, by omega⟩, lt _ (by omega)⟩, fun q3 => ⟨⟨by omega, by omega⟩, ⟨by omega, by omega⟩, ⟨r, c + 1, ?_, by omega, by omega⟩, lt _ (by omega)⟩⟩
      · rw [sk (if_neg (fun z => ?_)), Int.add_zero]
        · push_cast
          rfl
        · have := z.2.2
          rw [d1.resolve_right (by omega), d2.resolve_right (by omega)] at this
          exact q3 this
      · rw [su (by
          have : isE L (atM h) ((10 * r + c : Nat) : Int) = 1 := if_pos ⟨by rw [d1.resolve_right (by omega)]; exact hv, by omega, by rw [d1.resolve_right (by omega), d2.resolve_right (by omega)]; exact q3⟩
          rw [this]
          decide)]
        push_cast
        rfl
  · rintro ls h' ⟨rfl, rfl, r, y4, rfl, hr⟩
    have cb := cnN_bound (aD (atM h)) r
    have sk : aD (atM h) r = 0 → cnN (aD (atM h)) (r + 1) = cnN (aD (atM h)) r := fun z => cnN_skip z
    have su : aD (atM h) r ≠ 0 → cnN (aD (atM h)) (r + 1) = cnN (aD (atM h)) r + 1 := fun z => cnN_succ z
    have lt : ∀ x : Int, (r : Int) < 2000 → mu 206 [some (.inr (.inl (some pMo))), some (.inl 9), some (.inl x), some (.inl ((r : Int) + 1)), y4] (sI h pMo 4 0) < mu 206 [some (.inr (.inl (some pMo))), some (.inl 9), some (.inl (cnN (aD (atM h)) r)), some (.inl r), y4] (sI h pMo 4 0) := by
      intro x z
      rw [hmu, muA5_206, muA5_206]
      simp only [locI, nth]
      omega
    simp (decide := true) only [B_Mo_about_0, B_Mo_about_14, B_Mo_about_72, B_Mo_about_79, B_Mo_about_86, B_Mo_about_93, B_Mo_about_100, B_Mo_about_107, B_Mo_about_109, B_Mo_about_122, B_Mo_about_164, B_Mo_about_165, B_Mo_about_173, B_Mo_about_179, B_Mo_about_181, B_Mo_about_189, B_Mo_about_197, B_Mo_about_204, B_Mo_about_206, B_Mo_about_239, B_Mo_about_240, B_Mo_about_248, B_Mo_about_250, tt_ci, tt_cl, tt_nul, tt_il, tt_al, tt_ll, tt_is, tt_as, tt_ls, tt_inc, tt_add, tt_sub, tt_mul, tt_div, tt_rem, tt_ladd, tt_lmul, tt_ldiv, tt_lrem, tt_zeq, tt_zne, tt_zlt, tt_zge, tt_zgt, tt_zle, tt_ceq, tt_cne, tt_clt, tt_cge, tt_cgt, tt_cle, tt_nn, tt_cut, tt_pop, tt_dup, tt_dup2, tt_gI, tt_gR, tt_pI, tt_pZ, tt_pR, tt_ia, tt_ba, tt_za, tt_iS, tt_bS, tt_zS, tt_aa, tt_aS, tt_len, tt_and, tt_xor, tt_shr, tt_ushr, tt_lcmp, tt_i2b, tt_i2l, tt_l2i, tt_sw, swG, tt_ir, tt_zr, tt_br, tt_lr, tt_ar, tt_vr, tt_cV, tt_cS, tt_min, tt_max, tt_acp, pI, pII, pO, pA, pIA, pIIA, pOA, pOIA, pL, pLL, pLIA, pV, pCP, lI, lO, lL, nth, stL, clL, entA, fitL, rcv, List.take_succ_cons, List.take_zero, List.drop_succ_cons, List.drop_zero, List.reverse_cons, List.reverse_nil, List.nil_append, List.cons_append, List.length_cons, List.length_nil, Option.toList_some, Option.toList_none, gI_sI, gI_sA, gR_sI, gR_sA, gI_sR, gR_sR, hN_sI, hN_sA, hN_sR, isO_sI, isO_sA, isO_sR, isAr_sI, isAr_sA, isAr_sR, hC_sI, hC_sA, hC_sR, hZ_sI, hZ_sA, hZ_sR, MW_sI, MW_sA, true_and, and_true, true_or, or_true, and_self, forall_const, imp_self, implies_true, if_true, if_false, false_and, and_false, false_or, or_false, not_false_eq_true, not_true_eq_false, sI_sI, mr_tape w, mr_text w, mr_words w, mr_wordSize w, mr_subs w, mr_subSize w, mr_asked w, mr_pile w, mr_pileSize w, mr_opened w, mr_openedAt w, mr_begun w, mr_cells w, mr_keptCells w, mr_name w, mr_isLeft w, mr_isDone w, mr_keptLeft w, mr_keptDone w, mr_state w, mr_keptState w, mr_newOf w, mr_oldOf w, mr_spare w, mr_spareDone w, mr_out w, mr_metFrom w, mr_metBy w, mr_far w, mr_low w, mr_lows w, mr_lowSize w, mr_triedRow w, mr_triedColumn w, mr_triedValue w, mr_triedRows w, mr_sheet w, ma_tape w, ma_text w, ma_words w, ma_wordSize w, ma_subs w, ma_subSize w, ma_asked w, ma_pile w, ma_pileSize w, ma_opened w, ma_openedAt w, ma_begun w, ma_cells w, ma_keptCells w, ma_name w, ma_isLeft w, ma_isDone w, ma_keptLeft w, ma_keptDone w, ma_state w, ma_keptState w, ma_newOf w, ma_oldOf w, ma_spare w, ma_spareDone w, ma_out w, ma_metFrom w, ma_metBy w, ma_far w, ma_low w, ma_lows w, ma_lowSize w, ma_triedRow w, ma_triedColumn w, ma_triedValue w, ma_triedRows w, ma_sheet w, ml_tape, ml_text, ml_words, ml_wordSize, ml_subs, ml_subSize, ml_asked, ml_pile, ml_pileSize, ml_opened, ml_openedAt, ml_begun, ml_cells, ml_keptCells, ml_name, ml_isLeft, ml_isDone, ml_keptLeft, ml_keptDone, ml_state, ml_keptState, ml_newOf, ml_oldOf, ml_spare, ml_spareDone, ml_out, ml_metFrom, ml_metBy, ml_far, ml_low, ml_lows, ml_lowSize, ml_triedRow, ml_triedColumn, ml_triedValue, ml_triedRows, ml_sheet, mo_O w]
    have z0 : ¬ VV (atM h) r → aD (atM h) r = 0 := fun z => by
      apply Classical.byContradiction
      intro y
      exact z (x3.2.2.2.1 r y).2
    refine ⟨fun q => ?_, fun q => ⟨by omega, by omega, fun q2 => ⟨⟨by omega, by omega⟩, ⟨by omega, by omega⟩, ⟨r + 1, y4, ?_, by omega⟩, lt _ (by omega)⟩, fun q2 => ⟨by omega, by omega, fun q3 => ⟨⟨by omega, by omega⟩, ⟨by omega, by omega⟩, ⟨r + 1, y4, ?_, by omega⟩, lt _ (by omega)⟩, fun q3 => ⟨⟨by omega, by omega⟩, ⟨by omega, by omega⟩, ⟨r + 1, y4, ?_, by omega⟩, lt _ (by omega)⟩⟩⟩⟩
    · have e : r = aN (atM h) := by omega
      have ev : abV L (atM h) 9 = cnN (aD (atM h)) r := by unfold abV; simp (decide := true) only [if_true, if_false]; rw [e]
      rw [ev] at hp
      exact hp
    · rw [sk (z0 (fun z => (VV_atM.mp z).2.2 q2)), Int.add_zero]
      push_cast
      rfl
    · have hv : VV (atM h) r := VV_atM.mpr ⟨by omega, by omega, q2⟩
      rw [sk (by
        apply Classical.byContradiction
        intro y
        exact (aD_atM hv).mp y q3), Int.add_zero]
      push_cast
      rfl
    · have hv : VV (atM h) r := VV_atM.mpr ⟨by omega, by omega, q2⟩
      rw [su ((aD_atM hv).mpr q3)]
      push_cast
      rfl
  · simp (decide := true) only [B_Mo_about_0, B_Mo_about_14, B_Mo_about_72, B_Mo_about_79, B_Mo_about_86, B_Mo_about_93, B_Mo_about_100, B_Mo_about_107, B_Mo_about_109, B_Mo_about_122, B_Mo_about_164, B_Mo_about_165, B_Mo_about_173, B_Mo_about_179, B_Mo_about_181, B_Mo_about_189, B_Mo_about_197, B_Mo_about_204, B_Mo_about_206, B_Mo_about_239, B_Mo_about_240, B_Mo_about_248, B_Mo_about_250, tt_ci, tt_cl, tt_nul, tt_il, tt_al, tt_ll, tt_is, tt_as, tt_ls, tt_inc, tt_add, tt_sub, tt_mul, tt_div, tt_rem, tt_ladd, tt_lmul, tt_ldiv, tt_lrem, tt_zeq, tt_zne, tt_zlt, tt_zge, tt_zgt, tt_zle, tt_ceq, tt_cne, tt_clt, tt_cge, tt_cgt, tt_cle, tt_nn, tt_cut, tt_pop, tt_dup, tt_dup2, tt_gI, tt_gR, tt_pI, tt_pZ, tt_pR, tt_ia, tt_ba, tt_za, tt_iS, tt_bS, tt_zS, tt_aa, tt_aS, tt_len, tt_and, tt_xor, tt_shr, tt_ushr, tt_lcmp, tt_i2b, tt_i2l, tt_l2i, tt_sw, swG, tt_ir, tt_zr, tt_br, tt_lr, tt_ar, tt_vr, tt_cV, tt_cS, tt_min, tt_max, tt_acp, pI, pII, pO, pA, pIA, pIIA, pOA, pOIA, pL, pLL, pLIA, pV, pCP, lI, lO, lL, nth, stL, clL, entA, fitL, rcv, List.take_succ_cons, List.take_zero, List.drop_succ_cons, List.drop_zero, List.reverse_cons, List.reverse_nil, List.nil_append, List.cons_append, List.length_cons, List.length_nil, Option.toList_some, Option.toList_none, gI_sI, gI_sA, gR_sI, gR_sA, gI_sR, gR_sR, hN_sI, hN_sA, hN_sR, isO_sI, isO_sA, isO_sR, isAr_sI, isAr_sA, isAr_sR, hC_sI, hC_sA, hC_sR, hZ_sI, hZ_sA, hZ_sR, MW_sI, MW_sA, true_and, and_true, true_or, or_true, and_self, forall_const, imp_self, implies_true, if_true, if_false, false_and, and_false, false_or, or_false, not_false_eq_true, not_true_eq_false, sI_sI, mr_tape w, mr_text w, mr_words w, mr_wordSize w, mr_subs w, mr_subSize w, mr_asked w, mr_pile w, mr_pileSize w, mr_opened w, mr_openedAt w, mr_begun w, mr_cells w, mr_keptCells w, mr_name w, mr_isLeft w, mr_isDone w, mr_keptLeft w, mr_keptDone w, mr_state w, mr_keptState w, mr_newOf w, mr_oldOf w, mr_spare w, mr_spareDone w, mr_out w, mr_metFrom w, mr_metBy w, mr_far w, mr_low w, mr_lows w, mr_lowSize w, mr_triedRow w, mr_triedColumn w, mr_triedValue w, mr_triedRows w, mr_sheet w, ma_tape w, ma_text w, ma_words w, ma_wordSize w, ma_subs w, ma_subSize w, ma_asked w, ma_pile w, ma_pileSize w, ma_opened w, ma_openedAt w, ma_begun w, ma_cells w, ma_keptCells w, ma_name w, ma_isLeft w, ma_isDone w, ma_keptLeft w, ma_keptDone w, ma_state w, ma_keptState w, ma_newOf w, ma_oldOf w, ma_spare w, ma_spareDone w, ma_out w, ma_metFrom w, ma_metBy w, ma_far w, ma_low w, ma_lows w, ma_lowSize w, ma_triedRow w, ma_triedColumn w, ma_triedValue w, ma_triedRows w, ma_sheet w, ml_tape, ml_text, ml_words, ml_wordSize, ml_subs, ml_subSize, ml_asked, ml_pile, ml_pileSize, ml_opened, ml_openedAt, ml_begun, ml_cells, ml_keptCells, ml_name, ml_isLeft, ml_isDone, ml_keptLeft, ml_keptDone, ml_state, ml_keptState, ml_newOf, ml_oldOf, ml_spare, ml_spareDone, ml_out, ml_metFrom, ml_metBy, ml_far, ml_low, ml_lows, ml_lowSize, ml_triedRow, ml_triedColumn, ml_triedValue, ml_triedRows, ml_sheet, mo_O w, h32]
    have val : ∀ v, abV L (atM h) k = v → post (some (.inl v)) (sI h pMo 4 0) := fun v e => e ▸ hp
    have st : ∀ j, 0 ≤ j → j < 11 → aS (atM h) j = gI h pMo_state j := fun j a b => aS_atM a b
    refine ⟨⟨⟨fun e => val _ ?_, fun e => val _ ?_, fun e => val _ ?_, fun e => val _ ?_, fun e => val _ ?_, fun e => ⟨by omega, 0, none, rfl, by omega⟩, fun e => val _ ?_, fun e => val _ ?_, fun e => val _ ?_, fun e => ⟨by omega, 0, none, rfl, by omega⟩⟩, fun e => val _ ?_⟩, fun z => z.elim⟩
    · rw [e, ← st 1 (by decide) (by decide)]; rfl
    · rw [e, ← st 2 (by decide) (by decide)]; rfl
    · rw [e, ← st 3 (by decide) (by decide)]; rfl
    · rw [e, ← st 4 (by decide) (by decide)]; rfl
    · rw [e, ← st 5 (by decide) (by decide)]; rfl
    · rw [e, ← st 6 (by decide) (by decide)]; rfl
    · rw [e, ← st 7 (by decide) (by decide)]; rfl
    · rw [e, ← st 0 (by decide) (by decide)]; rfl
    · unfold abV
      simp only [show ¬ k = 0 by omega, show ¬ k = 1 by omega, show ¬ k = 2 by omega, show ¬ k = 3 by omega, show ¬ k = 4 by omega, show ¬ k = 5 by omega, show ¬ k = 6 by omega, show ¬ k = 7 by omega, show ¬ k = 8 by omega, show ¬ k = 9 by omega, if_false]
