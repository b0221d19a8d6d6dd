/-! MAKING cells: the House -/
def mc_Ho_init (_ : List PV) : Nat := 114
def ms_Ho_init (_ : List PV) : Nat := 11853
def hoI (b : Nat) (j : Int) : Int := if b = pHo ∧ j = 2 then 1 else if b = pRe ∧ j = 10 then -1 else if b = pTa ∧ j = 9 then 1 else 0
def nHo (h' : PH) : Prop := hN h' = 115 ∧ CRf h' ∧ (∀ p, p < 115 → SH p = .inl 6 → gR h' p 0 = some (p + 1)) ∧ (∀ k : Nat, k < 12 → gR h' pWs_e k = some (pWs_0 + 2 * k)) ∧ (∀ k : Nat, k < 6 → gR h' pSs_e k = some (pSs_0 + 2 * k)) ∧ (∀ k : Nat, k < 9 → gR h' pRe_sums k = some (pSum0 + 4 * k)) ∧ (∀ k : Nat, k < 9 → gR h' pRe_firsts k = some (pFirst0 + 4 * k)) ∧ gR h' pHo 11 = none ∧ ∀ b j, b < 115 → gI h' b j = hoI b j
def Ct_Ho_init : CtT := fun av h post => match av with
  | [.inr (.inl (some p))] => p = pHo ∧ hN h = 1 ∧ (∀ j, gI h pHo j = 0) ∧ ∀ h', nHo h' → hC h' = hC h + 114 → hZ h' = hZ h + ms_Ho_init [] → post none h'
  | _ => False
theorem ce_Ho_init {p : Nat} {h : PH} {post : TR} : Ct_Ho_init [.inr (.inl (some p))] h post = (p = pHo ∧ hN h = 1 ∧ (∀ j, gI h pHo j = 0) ∧ ∀ h', nHo h' → hC h' = hC h + 114 → hZ h' = hZ h + ms_Ho_init [] → post none h') := rfl
def B_Ho_init_0 (lc lz : Nat) : TT := (tt_al 0 (tt_oi (tt_al 0 (tt_ci 400 (tt_na 1 lc lz (tt_pR 8 0 (tt_al 0 (tt_ci 0 (tt_pI 8 1 (tt_al 0 (tt_ci 1 (tt_pI 8 2 (tt_al 0 (tt_new 7 lc lz (tt_dup (tt_ci 12 (tt_cI 2 mc_Wl_init ms_Wl_init lc lz Ct_Wl_init (tt_pR 8 3 (tt_al 0 (tt_new 7 lc lz (tt_dup (tt_ci 6 (tt_cI 2 mc_Wl_init ms_Wl_init lc lz Ct_Wl_init (tt_pR 8 4 (tt_al 0 (tt_new 6 lc lz (tt_dup (tt_ci 40 (tt_cI 2 mc_Wo_init ms_Wo_init lc lz Ct_Wo_init (tt_pR 8 5 (tt_al 0 (tt_new 2 lc lz (tt_dup (tt_cI 1 mc_Re_init ms_Re_init lc lz Ct_Re_init (tt_pR 8 6 (tt_al 0 (tt_new 4 lc lz (tt_dup (tt_cI 1 mc_Ta_init ms_Ta_init lc lz Ct_Ta_init (tt_pR 8 7 (tt_al 0 (tt_new 0 lc lz (tt_dup (tt_cI 1 mc_Fi_init ms_Fi_init lc lz Ct_Fi_init (tt_pR 8 8 (tt_al 0 (tt_new 5 lc lz (tt_dup (tt_cI 1 mc_Wa_init ms_Wa_init lc lz Ct_Wa_init (tt_pR 8 9 (tt_al 0 (tt_ci 0 (tt_pZ 8 10 (tt_al 0 (tt_nul (tt_pR 8 11 (tt_al 0 (tt_ci 0 (tt_pZ 8 12 (tt_al 0 (tt_ci 300 (tt_na 1 lc lz (tt_pR 8 13 (tt_al 0 (tt_ci 0 (tt_pI 8 14 (tt_al 0 (tt_new 1 lc lz (tt_dup (tt_cI 1 mc_Lo_init ms_Lo_init lc lz Ct_Lo_init (tt_pR 8 15 (tt_al 0 (tt_new 3 lc lz (tt_dup (tt_cI 1 mc_Sh_init ms_Sh_init lc lz Ct_Sh_init (tt_pR 8 16 (tt_al 0 (tt_ci 0 (tt_pI 8 17 tt_vr)))))))))))))))))))))))))))))))))))))))))))))))))))))))))))))))))))))))))))))))
theorem E_Ho_init_0 {lc lz : Nat} {K : TK} {R : TR} {ls : LSt} {st : List PV} {h : PH} : B_Ho_init_0 lc lz K R ls st h = (tt_al 0 (tt_oi (tt_al 0 (tt_ci 400 (tt_na 1 lc lz (tt_pR 8 0 (tt_al 0 (tt_ci 0 (tt_pI 8 1 (tt_al 0 (tt_ci 1 (tt_pI 8 2 (tt_al 0 (tt_new 7 lc lz (tt_dup (tt_ci 12 (tt_cI 2 mc_Wl_init ms_Wl_init lc lz Ct_Wl_init (tt_pR 8 3 (tt_al 0 (tt_new 7 lc lz (tt_dup (tt_ci 6 (tt_cI 2 mc_Wl_init ms_Wl_init lc lz Ct_Wl_init (tt_pR 8 4 (tt_al 0 (tt_new 6 lc lz (tt_dup (tt_ci 40 (tt_cI 2 mc_Wo_init ms_Wo_init lc lz Ct_Wo_init (tt_pR 8 5 (tt_al 0 (tt_new 2 lc lz (tt_dup (tt_cI 1 mc_Re_init ms_Re_init lc lz Ct_Re_init (tt_pR 8 6 (tt_al 0 (tt_new 4 lc lz (tt_dup (tt_cI 1 mc_Ta_init ms_Ta_init lc lz Ct_Ta_init (tt_pR 8 7 (tt_al 0 (tt_new 0 lc lz (tt_dup (tt_cI 1 mc_Fi_init ms_Fi_init lc lz Ct_Fi_init (tt_pR 8 8 (tt_al 0 (tt_new 5 lc lz (tt_dup (tt_cI 1 mc_Wa_init ms_Wa_init lc lz Ct_Wa_init (tt_pR 8 9 (tt_al 0 (tt_ci 0 (tt_pZ 8 10 (tt_al 0 (tt_nul (tt_pR 8 11 (tt_al 0 (tt_ci 0 (tt_pZ 8 12 (tt_al 0 (tt_ci 300 (tt_na 1 lc lz (tt_pR 8 13 (tt_al 0 (tt_ci 0 (tt_pI 8 14 (tt_al 0 (tt_new 1 lc lz (tt_dup (tt_cI 1 mc_Lo_init ms_Lo_init lc lz Ct_Lo_init (tt_pR 8 15 (tt_al 0 (tt_new 3 lc lz (tt_dup (tt_cI 1 mc_Sh_init ms_Sh_init lc lz Ct_Sh_init (tt_pR 8 16 (tt_al 0 (tt_ci 0 (tt_pI 8 17 tt_vr))))))))))))))))))))))))))))))))))))))))))))))))))))))))))))))))))))))))))))))) K R ls st h := rfl
theorem S_Ho_init_0 (lc lz : Nat) : Snd md_Ho_init lc lz 0 (B_Ho_init_0 lc lz) := (snd_al_n (n := 0) (dget dd_Ho_init 0 rfl) rfl (snd_oi (dget dd_Ho_init 1 rfl) ml_Ho_1 ko_i ko_c (by decide) (snd_al_n (n := 0) (dget dd_Ho_init 2 rfl) rfl (snd_sipush (n := 400) (dget dd_Ho_init 3 rfl) (inR_d rfl) (by decide) (snd_na (t := 1) (ty := .byte) (dget dd_Ho_init 4 rfl) rfl ka_byte (by decide) (by decide) (fun _ => rfl) rfl (by decide) (fun _ h => by cases h) (snd_pRF (kn := 0) fd_Ho_9 rfl (dget dd_Ho_init 5 rfl) rfl (fun _ _ h => by cases h; rfl) (snd_al_n (n := 0) (dget dd_Ho_init 6 rfl) rfl (snd_iconst (n := 0) (dget dd_Ho_init 7 rfl) (inR_d rfl) rfl (snd_pI (kn := 1) fd_Ho_13 rfl (dget dd_Ho_init 8 rfl) (snd_al_n (n := 0) (dget dd_Ho_init 9 rfl) rfl (snd_iconst (n := 1) (dget dd_Ho_init 10 rfl) (inR_d rfl) rfl (snd_pI (kn := 2) fd_Ho_17 rfl (dget dd_Ho_init 11 rfl) (snd_al_n (n := 0) (dget dd_Ho_init 12 rfl) rfl (snd_new cd_Ho_20 (dget dd_Ho_init 13 rfl) (snd_dup (dget dd_Ho_init 14 rfl) (snd_bipush (n := 12) (dget dd_Ho_init 15 rfl) (inR_d rfl) (by decide) (snd_cI (n := 1) met_Wl_init mi_Wl_init ki_Wl_init rfl rfl ml_Ho_22 (by decide) (dget dd_Ho_init 16 rfl) (snd_pRF (kn := 3) fd_Ho_25 rfl (dget dd_Ho_init 17 rfl) rfl (fun _ _ h => by cases h; rfl) (snd_al_n (n := 0) (dget dd_Ho_init 18 rfl) rfl (snd_new cd_Ho_20 (dget dd_Ho_init 19 rfl) (snd_dup (dget dd_Ho_init 20 rfl) (snd_bipush (n := 6) (dget dd_Ho_init 21 rfl) (inR_d rfl) (by decide) (snd_cI (n := 1) met_Wl_init mi_Wl_init ki_Wl_init rfl rfl ml_Ho_22 (by decide) (dget dd_Ho_init 22 rfl) (snd_pRF (kn := 4) fd_Ho_29 rfl (dget dd_Ho_init 23 rfl) rfl (fun _ _ h => by cases h; rfl) (snd_al_n (n := 0) (dget dd_Ho_init 24 rfl) rfl (snd_new cd_Ho_32 (dget dd_Ho_init 25 rfl) (snd_dup (dget dd_Ho_init 26 rfl) (snd_bipush (n := 40) (dget dd_Ho_init 27 rfl) (inR_d rfl) (by decide) (snd_cI (n := 1) met_Wo_init mi_Wo_init ki_Wo_init rfl rfl ml_Ho_34 (by decide) (dget dd_Ho_init 28 rfl) (snd_pRF (kn := 5) fd_Ho_35 rfl (dget dd_Ho_init 29 rfl) rfl (fun _ _ h => by cases h; rfl) (snd_al_n (n := 0) (dget dd_Ho_init 30 rfl) rfl (snd_new cd_Ho_39 (dget dd_Ho_init 31 rfl) (snd_dup (dget dd_Ho_init 32 rfl) (snd_cI (n := 0) met_Re_init mi_Re_init ki_Re_init rfl rfl ml_Ho_41 (by decide) (dget dd_Ho_init 33 rfl) (snd_pRF (kn := 6) fd_Ho_42 rfl (dget dd_Ho_init 34 rfl) rfl (fun _ _ h => by cases h; rfl) (snd_al_n (n := 0) (dget dd_Ho_init 35 rfl) rfl (snd_new cd_Ho_46 (dget dd_Ho_init 36 rfl) (snd_dup (dget dd_Ho_init 37 rfl) (snd_cI (n := 0) met_Ta_init mi_Ta_init ki_Ta_init rfl rfl ml_Ho_48 (by decide) (dget dd_Ho_init 38 rfl) (snd_pRF (kn := 7) fd_Ho_49 rfl (dget dd_Ho_init 39 rfl) rfl (fun _ _ h => by cases h; rfl) (snd_al_n (n := 0) (dget dd_Ho_init 40 rfl) rfl (snd_new cd_Ho_53 (dget dd_Ho_init 41 rfl) (snd_dup (dget dd_Ho_init 42 rfl) (snd_cI (n := 0) met_Fi_init mi_Fi_init ki_Fi_init rfl rfl ml_Ho_55 (by decide) (dget dd_Ho_init 43 rfl) (snd_pRF (kn := 8) fd_Ho_56 rfl (dget dd_Ho_init 44 rfl) rfl (fun _ _ h => by cases h; rfl) (snd_al_n (n := 0) (dget dd_Ho_init 45 rfl) rfl (snd_new cd_Ho_60 (dget dd_Ho_init 46 rfl) (snd_dup (dget dd_Ho_init 47 rfl) (snd_cI (n := 0) met_Wa_init mi_Wa_init ki_Wa_init rfl rfl ml_Ho_62 (by decide) (dget dd_Ho_init 48 rfl) (snd_pRF (kn := 9) fd_Ho_63 rfl (dget dd_Ho_init 49 rfl) rfl (fun _ _ h => by cases h; rfl) (snd_al_n (n := 0) (dget dd_Ho_init 50 rfl) rfl (snd_iconst (n := 0) (dget dd_Ho_init 51 rfl) (inR_d rfl) rfl (snd_pZ (kn := 10) fd_Ho_67 rfl (dget dd_Ho_init 52 rfl) (snd_al_n (n := 0) (dget dd_Ho_init 53 rfl) rfl (snd_null (dget dd_Ho_init 54 rfl) (snd_pR (kn := 11) fd_Ho_71 rfl (dget dd_Ho_init 55 rfl) (snd_al_n (n := 0) (dget dd_Ho_init 56 rfl) rfl (snd_iconst (n := 0) (dget dd_Ho_init 57 rfl) (inR_d rfl) rfl (snd_pZ (kn := 12) fd_Ho_74 rfl (dget dd_Ho_init 58 rfl) (snd_al_n (n := 0) (dget dd_Ho_init 59 rfl) rfl (snd_sipush (n := 300) (dget dd_Ho_init 60 rfl) (inR_d rfl) (by decide) (snd_na (t := 1) (ty := .byte) (dget dd_Ho_init 61 rfl) rfl ka_byte (by decide) (by decide) (fun _ => rfl) rfl (by decide) (fun _ h => by cases h) (snd_pRF (kn := 13) fd_Ho_77 rfl (dget dd_Ho_init 62 rfl) rfl (fun _ _ h => by cases h; rfl) (snd_al_n (n := 0) (dget dd_Ho_init 63 rfl) rfl (snd_iconst (n := 0) (dget dd_Ho_init 64 rfl) (inR_d rfl) rfl (snd_pI (kn := 14) fd_Ho_80 rfl (dget dd_Ho_init 65 rfl) (snd_al_n (n := 0) (dget dd_Ho_init 66 rfl) rfl (snd_new cd_Ho_83 (dget dd_Ho_init 67 rfl) (snd_dup (dget dd_Ho_init 68 rfl) (snd_cI (n := 0) met_Lo_init mi_Lo_init ki_Lo_init rfl rfl ml_Ho_85 (by decide) (dget dd_Ho_init 69 rfl) (snd_pRF (kn := 15) fd_Ho_86 rfl (dget dd_Ho_init 70 rfl) rfl (fun _ _ h => by cases h; rfl) (snd_al_n (n := 0) (dget dd_Ho_init 71 rfl) rfl (snd_new cd_Ho_90 (dget dd_Ho_init 72 rfl) (snd_dup (dget dd_Ho_init 73 rfl) (snd_cI (n := 0) met_Sh_init mi_Sh_init ki_Sh_init rfl rfl ml_Ho_92 (by decide) (dget dd_Ho_init 74 rfl) (snd_pRF (kn := 16) fd_Ho_93 rfl (dget dd_Ho_init 75 rfl) rfl (fun _ _ h => by cases h; rfl) (snd_al_n (n := 0) (dget dd_Ho_init 76 rfl) rfl (snd_iconst (n := 0) (dget dd_Ho_init 77 rfl) (inR_d rfl) rfl (snd_pI (kn := 17) fd_Ho_97 rfl (dget dd_Ho_init 78 rfl) (snd_vr (dget dd_Ho_init 79 rfl) rfl))))))))))))))))))))))))))))))))))))))))))))))))))))))))))))))))))))))))))))))))
theorem ho_sh : SH 2 = .inl 7 ∧ SH 28 = .inl 7 ∧ SH 42 = .inl 6 ∧ SH 43 = .inr (0, 40) ∧ SH 44 = .inl 2 ∧ SH 87 = .inl 4 ∧ SH 95 = .inl 0 ∧ SH 96 = .inl 5 ∧ SH 104 = .inr (1, 300) ∧ SH 105 = .inl 1 ∧ SH 111 = .inl 3 := by decide
theorem ho_wd : ∀ p, p < 115 → SH p = .inl 6 → (4 ≤ p ∧ p < 28 ∧ ∃ k, k < 12 ∧ p = 4 + 2 * k) ∨ (30 ≤ p ∧ p < 42 ∧ ∃ k, k < 6 ∧ p = 30 + 2 * k) ∨ p = 42 ∨ p = 47 ∨ p = 49 ∨ (∃ k, k < 9 ∧ p = 51 + 4 * k) ∨ (∃ k, k < 9 ∧ p = 53 + 4 * k) ∨ p = 102 := by
  have : ∀ p : Fin 115, SH p.1 = .inl 6 → (4 ≤ p.1 ∧ p.1 < 28 ∧ p.1 % 2 = 0) ∨ (30 ≤ p.1 ∧ p.1 < 42 ∧ p.1 % 2 = 0) ∨ p.1 = 42 ∨ p.1 = 47 ∨ p.1 = 49 ∨ (51 ≤ p.1 ∧ p.1 < 87 ∧ p.1 % 4 = 3) ∨ (51 ≤ p.1 ∧ p.1 < 87 ∧ p.1 % 4 = 1) ∨ p.1 = 102 := by decide
  intro p hp h
  rcases this ⟨p, hp⟩ h with x | x | x | x | x | x | x | x
  · exact Or.inl ⟨x.1, x.2.1, (p - 4) / 2, by simp only at x; omega, by simp only at x; omega⟩
  · exact Or.inr (Or.inl ⟨x.1, x.2.1, (p - 30) / 2, by simp only at x; omega, by simp only at x; omega⟩)
  · exact Or.inr (Or.inr (Or.inl x))
  · exact Or.inr (Or.inr (Or.inr (Or.inl x)))
  · exact Or.inr (Or.inr (Or.inr (Or.inr (Or.inl x))))
  · exact Or.inr (Or.inr (Or.inr (Or.inr (Or.inr (Or.inl ⟨(p - 51) / 4, by simp only at x; omega, by simp only at x; omega⟩)))))
  · exact Or.inr (Or.inr (Or.inr (Or.inr (Or.inr (Or.inr (Or.inl ⟨(p - 53) / 4, by simp only at x; omega, by simp only at x; omega⟩))))))
  · exact Or.inr (Or.inr (Or.inr (Or.inr (Or.inr (Or.inr (Or.inr x))))))
theorem met_Ho_init : MetP y_Ho_init md_Ho_init mc_Ho_init ms_Ho_init Ct_Ho_init := by
  refine met_of (body := fun lc lz => B_Ho_init_0 lc lz) (cs := fun lc lz => []) (by decide) rfl (fun _ => rfl) (fun lc lz => S_Ho_init_0 lc lz) (fun lc lz q hq => ?_) ?_
  · cases hq
  intro av h post hc hH hav
  unfold Ct_Ho_init at hc
  split at hc
  rotate_left
  · exact hc.elim
  rename_i p
  obtain ⟨rfl, hN1, hg, hp⟩ := hc
  refine ⟨Nat.le_of_ble_eq_true rfl, ?_⟩
  refine ⟨fun _ _ _ => False, fun _ _ _ => 0, fun _ _ _ x => x.elim, fun q hq => (by cases hq), ?_⟩
  have o2 : isO h pHo 8 := ⟨by rw [hN1]; decide, rfl⟩
  have oh : ∀ h9, 1 ≤ hN h9 → isO h9 pHo 8 := fun h9 e => ⟨e, rfl⟩
  obtain ⟨t1, t2, t3, t4, t5, t6, t7, t8, t9, t10, t11⟩ := ho_sh
  have f0 : nF 0 = 6 ∧ nF 1 = 13 ∧ nF 2 = 11 ∧ nF 3 = 4 ∧ nF 4 = 19 ∧ nF 5 = 7 ∧ nF 6 = 2 ∧ nF 7 = 2 := by decide
  obtain ⟨f0, f1, f2, f3, f4, f5, f6, f7⟩ := f0
  simp (decide := true) only [↓e_new, ↓e_na, ↓e_nq, ↓e_oi, ↓e_cI_1, ↓e_cI_2, ↓e_cW_1, ↓e_cW_2, e_new, e_na, e_nq, e_oi, e_cI_1, e_cI_2, e_cW_1, e_cW_2, hN_nC, hC_nC, hZ_nC, gI_nC, gR_nC, hN_sR, hN_sI, ↓E_Ho_init_0, ↓ce_Wl_init, ↓ce_Wo_init, ↓ce_Re_init, ↓ce_Ta_init, ↓ce_Fi_init, ↓ce_Wa_init, ↓ce_Lo_init, ↓ce_Sh_init, ↓e_ci, ↓e_cl, ↓e_nul, ↓e_add, ↓e_sub, ↓e_mul, ↓e_ladd, ↓e_lmul, ↓e_div, ↓e_rem, ↓e_ldiv, ↓e_lrem, ↓e_zeq, ↓e_zne, ↓e_zlt, ↓e_zge, ↓e_zgt, ↓e_zle, ↓e_ceq, ↓e_cne, ↓e_clt, ↓e_cge, ↓e_cgt, ↓e_cle, ↓e_nn, ↓e_gI, ↓e_gR, ↓e_pI, ↓e_pZ, ↓e_pR, ↓e_ia, ↓e_ba, ↓e_za, ↓e_iS, ↓e_bS, ↓e_zS, ↓e_aa, ↓e_aS, ↓e_len, ↓e_and, ↓e_xor, ↓e_shr, ↓e_ushr, ↓e_lcmp, ↓e_i2b, ↓e_i2l, ↓e_l2i, ↓e_sw, ↓e_min, ↓e_max, ↓e_acp, ↓e_il_0, ↓e_al_0, ↓e_ll_0, ↓e_is_0n, ↓e_as_0n, ↓e_ls_0n, ↓e_inc_0n, ↓e_il_1, ↓e_al_1, ↓e_ll_1, ↓e_is_1i, ↓e_as_1i, ↓e_ls_1i, ↓e_inc_1i, ↓e_is_1o, ↓e_as_1o, ↓e_ls_1o, ↓e_inc_1o, ↓e_is_1n, ↓e_as_1n, ↓e_ls_1n, ↓e_inc_1n, ↓e_il_2, ↓e_al_2, ↓e_ll_2, ↓e_is_2i, ↓e_as_2i, ↓e_ls_2i, ↓e_inc_2i, ↓e_is_2o, ↓e_as_2o, ↓e_ls_2o, ↓e_inc_2o, ↓e_is_2n, ↓e_as_2n, ↓e_ls_2n, ↓e_inc_2n, ↓e_il_3, ↓e_al_3, ↓e_ll_3, ↓e_is_3i, ↓e_as_3i, ↓e_ls_3i, ↓e_inc_3i, ↓e_is_3o, ↓e_as_3o, ↓e_ls_3o, ↓e_inc_3o, ↓e_is_3n, ↓e_as_3n, ↓e_ls_3n, ↓e_inc_3n, ↓e_il_4, ↓e_al_4, ↓e_ll_4, ↓e_is_4i, ↓e_as_4i, ↓e_ls_4i, ↓e_inc_4i, ↓e_is_4o, ↓e_as_4o, ↓e_ls_4o, ↓e_inc_4o, ↓e_is_4n, ↓e_as_4n, ↓e_ls_4n, ↓e_inc_4n, ↓e_il_5, ↓e_al_5, ↓e_ll_5, ↓e_is_5i, ↓e_as_5i, ↓e_ls_5i, ↓e_inc_5i, ↓e_is_5o, ↓e_as_5o, ↓e_ls_5o, ↓e_inc_5o, ↓e_is_5n, ↓e_as_5n, ↓e_ls_5n, ↓e_inc_5n, ↓e_il_6, ↓e_al_6, ↓e_ll_6, ↓e_is_6i, ↓e_as_6i, ↓e_ls_6i, ↓e_inc_6i, ↓e_is_6o, ↓e_as_6o, ↓e_ls_6o, ↓e_inc_6o, ↓e_is_6n, ↓e_as_6n, ↓e_ls_6n, ↓e_inc_6n, ↓e_il_7, ↓e_al_7, ↓e_ll_7, ↓e_is_7i, ↓e_as_7i, ↓e_ls_7i, ↓e_inc_7i, ↓e_is_7o, ↓e_as_7o, ↓e_ls_7o, ↓e_inc_7o, ↓e_is_7n, ↓e_as_7n, ↓e_ls_7n, ↓e_inc_7n, ↓e_il_8, ↓e_al_8, ↓e_ll_8, ↓e_is_8i, ↓e_as_8i, ↓e_ls_8i, ↓e_inc_8i, ↓e_is_8o, ↓e_as_8o, ↓e_ls_8o, ↓e_inc_8o, ↓e_is_8n, ↓e_as_8n, ↓e_ls_8n, ↓e_inc_8n, ↓e_il_9, ↓e_al_9, ↓e_ll_9, ↓e_is_9i, ↓e_as_9i, ↓e_ls_9i, ↓e_inc_9i, ↓e_is_9o, ↓e_as_9o, ↓e_ls_9o, ↓e_inc_9o, ↓e_is_9n, ↓e_as_9n, ↓e_ls_9n, ↓e_inc_9n, ↓e_il_10, ↓e_al_10, ↓e_ll_10, ↓e_is_10i, ↓e_as_10i, ↓e_ls_10i, ↓e_inc_10i, ↓e_is_10o, ↓e_as_10o, ↓e_ls_10o, ↓e_inc_10o, ↓e_is_10n, ↓e_as_10n, ↓e_ls_10n, ↓e_inc_10n, ↓e_il_11, ↓e_al_11, ↓e_ll_11, ↓e_is_11i, ↓e_as_11i, ↓e_ls_11i, ↓e_inc_11i, ↓e_is_11o, ↓e_as_11o, ↓e_ls_11o, ↓e_inc_11o, ↓e_is_11n, ↓e_as_11n, ↓e_ls_11n, ↓e_inc_11n, ↓e_il_12, ↓e_al_12, ↓e_ll_12, ↓e_is_12i, ↓e_as_12i, ↓e_ls_12i, ↓e_inc_12i, ↓e_is_12o, ↓e_as_12o, ↓e_ls_12o, ↓e_inc_12o, ↓e_is_12n, ↓e_as_12n, ↓e_ls_12n, ↓e_inc_12n, ↓e_dup_i, ↓e_pop_i, ↓e_dup2_ii, ↓e_dup2_io, ↓e_dup_o, ↓e_pop_o, ↓e_dup2_oi, ↓e_dup2_oo, ↓e_ir, ↓e_zr, ↓e_br, ↓e_lr, ↓e_ar, ↓e_vr, ↓e_cut, ↓e_cS_0, ↓e_cV_1, ↓e_cS_1, ↓e_cV_2, ↓e_cS_2, ↓e_cV_3, ↓e_cS_3, ↓e_cV_4, ↓e_cS_4, ↓e_cV_5, ↓e_cS_5, ↓e_cV_6, ↓e_cS_6, ↓e_cV_7, ↓e_cS_7, ↓e_swn, ↓e_swc, ↓e_tls, ↓e_tln, E_Ho_init_0, ce_Wl_init, ce_Wo_init, ce_Re_init, ce_Ta_init, ce_Fi_init, ce_Wa_init, ce_Lo_init, ce_Sh_init, e_ci, e_cl, e_nul, e_add, e_sub, e_mul, e_ladd, e_lmul, e_div, e_rem, e_ldiv, e_lrem, e_zeq, e_zne, e_zlt, e_zge, e_zgt, e_zle, e_ceq, e_cne, e_clt, e_cge, e_cgt, e_cle, e_nn, e_gI, e_gR, e_pI, e_pZ, e_pR, e_ia, e_ba, e_za, e_iS, e_bS, e_zS, e_aa, e_aS, e_len, e_and, e_xor, e_shr, e_ushr, e_lcmp, e_i2b, e_i2l, e_l2i, e_sw, e_min, e_max, e_acp, e_il_0, e_al_0, e_ll_0, e_is_0n, e_as_0n, e_ls_0n, e_inc_0n, e_il_1, e_al_1, e_ll_1, e_is_1i, e_as_1i, e_ls_1i, e_inc_1i, e_is_1o, e_as_1o, e_ls_1o, e_inc_1o, e_is_1n, e_as_1n, e_ls_1n, e_inc_1n, e_il_2, e_al_2, e_ll_2, e_is_2i, e_as_2i, e_ls_2i, e_inc_2i, e_is_2o, e_as_2o, e_ls_2o, e_inc_2o, e_is_2n, e_as_2n, e_ls_2n, e_inc_2n, e_il_3, e_al_3, e_ll_3, e_is_3i, e_as_3i, e_ls_3i, e_inc_3i, e_is_3o, e_as_3o, e_ls_3o, e_inc_3o, e_is_3n, e_as_3n, e_ls_3n, e_inc_3n, e_il_4, e_al_4, e_ll_4, e_is_4i, e_as_4i, e_ls_4i, e_inc_4i, e_is_4o, e_as_4o, e_ls_4o, e_inc_4o, e_is_4n, e_as_4n, e_ls_4n, e_inc_4n, e_il_5, e_al_5, e_ll_5, e_is_5i, e_as_5i, e_ls_5i, e_inc_5i, e_is_5o, e_as_5o, e_ls_5o, e_inc_5o, e_is_5n, e_as_5n, e_ls_5n, e_inc_5n, e_il_6, e_al_6, e_ll_6, e_is_6i, e_as_6i, e_ls_6i, e_inc_6i, e_is_6o, e_as_6o, e_ls_6o, e_inc_6o, e_is_6n, e_as_6n, e_ls_6n, e_inc_6n, e_il_7, e_al_7, e_ll_7, e_is_7i, e_as_7i, e_ls_7i, e_inc_7i, e_is_7o, e_as_7o, e_ls_7o, e_inc_7o, e_is_7n, e_as_7n, e_ls_7n, e_inc_7n, e_il_8, e_al_8, e_ll_8, e_is_8i, e_as_8i, e_ls_8i, e_inc_8i, e_is_8o, e_as_8o, e_ls_8o, e_inc_8o, e_is_8n, e_as_8n, e_ls_8n, e_inc_8n, e_il_9, e_al_9, e_ll_9, e_is_9i, e_as_9i, e_ls_9i, e_inc_9i, e_is_9o, e_as_9o, e_ls_9o, e_inc_9o, e_is_9n, e_as_9n, e_ls_9n, e_inc_9n, e_il_10, e_al_10, e_ll_10, e_is_10i, e_as_10i, e_ls_10i, e_inc_10i, e_is_10o, e_as_10o, e_ls_10o, e_inc_10o, e_is_10n, e_as_10n, e_ls_10n, e_inc_10n, e_il_11, e_al_11, e_ll_11, e_is_11i, e_as_11i, e_ls_11i, e_inc_11i, e_is_11o, e_as_11o, e_ls_11o, e_inc_11o, e_is_11n, e_as_11n, e_ls_11n, e_inc_11n, e_il_12, e_al_12, e_ll_12, e_is_12i, e_as_12i, e_ls_12i, e_inc_12i, e_is_12o, e_as_12o, e_ls_12o, e_inc_12o, e_is_12n, e_as_12n, e_ls_12n, e_inc_12n, e_dup_i, e_pop_i, e_dup2_ii, e_dup2_io, e_dup_o, e_pop_o, e_dup2_oi, e_dup2_oo, e_ir, e_zr, e_br, e_lr, e_ar, e_vr, e_cut, e_cS_0, e_cV_1, e_cS_1, e_cV_2, e_cS_2, e_cV_3, e_cS_3, e_cV_4, e_cS_4, e_cV_5, e_cS_5, e_cV_6, e_cS_6, e_cV_7, e_cS_7, e_swn, e_swc, e_tls, e_tln, gI_sI, gI_sA, gR_sI, gR_sA, gI_sR, gR_sR, hN_sI, hN_sA, hN_sR, isO_sI, isO_sA, isO_sR, isAr_sI, isAr_sA, isAr_sR, hC_sI, hC_sA, hC_sR, hZ_sI, hZ_sA, hZ_sR, MW_sI, MW_sA, true_and, and_true, true_or, or_true, and_self, forall_const, imp_self, implies_true, if_true, if_false, false_and, and_false, false_or, or_false, not_false_eq_true, not_true_eq_false, sI_sI, entA, fitL, List.length_cons, List.length_nil, List.nil_append, List.cons_append, false_imp_iff, true_imp_iff, pn1, pn2, MW_sI, CW_sI, o2, hN1, isO_nC, isO_sR', isO_sI', mc_Ho_init, ms_Ho_init, mc_Wl_init, ms_Wl_init, mc_Wo_init, ms_Wo_init, mc_Ta_init, ms_Ta_init, mc_Re_init, ms_Re_init, mc_Fi_init, ms_Fi_init, mc_Wa_init, ms_Wa_init, mc_Lo_init, ms_Lo_init, mc_Sh_init, ms_Sh_init, f0, f1, f2, f3, f4, f5, f6, f7]
  have lq2 : lq 2 = 12 := rfl
  have lq28 : lq 28 = 6 := rfl
  refine ⟨by omega, by omega, by omega, by omega, by omega, by omega, Or.inl rfl, fun h2 n2 c2 z2 => ?_⟩
  obtain ⟨n20, n21, n22, n23, n24⟩ := n2
  have e2 : hN h2 = 28 := n20
  have o2 := oh h2 (by omega)
  simp (decide := true) only [e2, o2, t2, lq2] at c2 z2 ⊢
  repeat' apply And.intro
  all_goals first | omega | exact trivial | exact Or.inr rfl | exact Or.inl rfl | exact ⟨_, rfl⟩ | (intro x hx; cases hx; omega) | (intro x hx; cases hx; decide) | rfl | skip
  intro h3 n3 c3 z3
  obtain ⟨n30, n31, n32, n33, n34⟩ := n3
  have e3 : hN h3 = 42 := n30
  have o3 := oh h3 (by omega)
  have k40 : Int.toNat 40 = 40 := rfl
  simp (decide := true) only [e3, o3, t3, t4, t5, lq28, k40, Nat.reduceAdd, if_true, if_false, implies_true, true_and, and_true] at c3 z3 ⊢
  repeat' apply And.intro
  all_goals first | omega | exact trivial | exact Or.inr rfl | exact Or.inl rfl | exact ⟨_, rfl⟩ | (intro x hx; cases hx; omega) | (intro x hx; cases hx; decide) | rfl | skip
  intro h5 n5 c5 z5
  obtain ⟨n50, n51, n52, n53, n54, n55⟩ := n5
  have e5 : hN h5 = 87 := n50
  have o5 := oh h5 (by omega)
  simp (decide := true) only [e5, o5, t6, Nat.reduceAdd, if_true, if_false, implies_true, true_and, and_true] at c5 z5 ⊢
  repeat' apply And.intro
  all_goals first | omega | exact trivial | exact Or.inr rfl | exact Or.inl rfl | exact ⟨_, rfl⟩ | (intro x hx; cases hx; omega) | (intro x hx; cases hx; decide) | rfl | skip
  intro h6 n6 c6 z6
  obtain ⟨n60, n61, n62, n63, n64⟩ := n6
  have e6 : hN h6 = 95 := n60
  have o6 := oh h6 (by omega)
  simp (decide := true) only [e6, o6, t7, Nat.reduceAdd, if_true, if_false, implies_true, true_and, and_true] at c6 z6 ⊢
  repeat' apply And.intro
  all_goals first | omega | exact trivial | exact Or.inr rfl | exact Or.inl rfl | exact ⟨_, rfl⟩ | (intro x hx; cases hx; omega) | (intro x hx; cases hx; decide) | rfl | skip
  intro h7 n70 n71 n72 c7 z7
  have e7 : hN h7 = 96 := n70
  have o7 := oh h7 (by omega)
  simp (decide := true) only [e7, o7, t8, Nat.reduceAdd, if_true, if_false, implies_true, true_and, and_true] at c7 z7 ⊢
  repeat' apply And.intro
  all_goals first | omega | exact trivial | exact Or.inr rfl | exact Or.inl rfl | exact ⟨_, rfl⟩ | (intro x hx; cases hx; omega) | (intro x hx; cases hx; decide) | rfl | skip
  intro h8 n8 c8 z8
  obtain ⟨n80, n81, n82, n83⟩ := n8
  have e8 : hN h8 = 104 := n80
  have o8 := oh h8 (by omega)
  simp (decide := true) only [e8, o8, t9, t10, Nat.reduceAdd, if_true, if_false, implies_true, true_and, and_true] at c8 z8 ⊢
  repeat' apply And.intro
  all_goals first | omega | exact trivial | exact Or.inr rfl | exact Or.inl rfl | exact ⟨_, rfl⟩ | (intro x hx; cases hx; omega) | (intro x hx; cases hx; decide) | rfl | skip
  intro h10 n10 c10 z10
  obtain ⟨n100, n101, n102, n103⟩ := n10
  have e10 : hN h10 = 111 := n100
  have o10 := oh h10 (by omega)
  simp (decide := true) only [e10, o10, t11, Nat.reduceAdd, if_true, if_false, implies_true, true_and, and_true] at c10 z10 ⊢
  repeat' apply And.intro
  all_goals first | omega | exact trivial | exact Or.inr rfl | exact Or.inl rfl | exact ⟨_, rfl⟩ | (intro x hx; cases hx; omega) | (intro x hx; cases hx; decide) | rfl | skip
  intro h11 n11 c11 z11
  obtain ⟨n110, n111, n112, n113⟩ := n11
  have e11 : hN h11 = 115 := n110
  have o11 := oh h11 (by omega)
  simp (decide := true) only [e11, o11, Nat.reduceAdd, if_true, if_false, implies_true, true_and, and_true] at c11 z11 ⊢
  repeat' apply And.intro
  all_goals first | omega | exact trivial | exact Or.inr rfl | exact Or.inl rfl | exact ⟨_, rfl⟩ | (intro x hx; cases hx; omega) | (intro x hx; cases hx; decide) | rfl | skip
  have L11 : ∀ b j, b < 111 → gI h11 b j = gI h10 b j ∧ gR h11 b j = if b = 0 ∧ j = 15 then some 105 else gR h10 b j := by
    intro b j hb
    obtain ⟨x1, x2⟩ := n111 b j hb
    simp only [gI_nC, gI_sR, gI_sI, gR_nC, gR_sR, gR_sI, hN_nC, hN_sR, hN_sI, e10] at x1 x2
    rw [if_neg (by omega)] at x1 x2
    exact ⟨x1, x2⟩
  have L10 : ∀ b j, b < 104 → gI h10 b j = (if b = 0 ∧ (j = 14 ∨ j = 12 ∨ j = 10) then 0 else gI h8 b j) ∧ gR h10 b j = if b = 0 ∧ j = 13 then some 104 else if b = 0 ∧ j = 11 then none else if b = 0 ∧ j = 9 then some 96 else gR h8 b j := by
    intro b j hb
    obtain ⟨x1, x2⟩ := n101 b j (by show b < 105; omega)
    simp only [gI_nC, gI_sR, gI_sI, gR_nC, gR_sR, gR_sI, hN_nC, hN_sR, hN_sI, e8] at x1 x2
    rw [if_neg (by omega)] at x1 x2
    rw [x1, x2]
    constructor
    · by_cases y : b = 0
      · simp only [y, show pHo = 0 from rfl, true_and]
        rw [if_neg (show ¬ 0 = 104 by decide)]
        repeat' split
        all_goals first | rfl | omega | skip
      · rw [if_neg (show ¬ (b = pHo ∧ j = 14) from fun z => y z.1), if_neg (by omega), if_neg (show ¬ (b = pHo ∧ j = 12) from fun z => y z.1), if_neg (show ¬ (b = pHo ∧ j = 10) from fun z => y z.1), if_neg (fun z => y z.1)]
    · rw [if_neg (show ¬ b = 104 by omega)]
  have L8 : ∀ b j, b < 96 → gI h8 b j = gI h7 b j ∧ gR h8 b j = if b = 0 ∧ j = 8 then some 95 else gR h7 b j := by
    intro b j hb
    obtain ⟨x1, x2⟩ := n81 b j hb
    simp only [gI_nC, gI_sR, gI_sI, gR_nC, gR_sR, gR_sI, hN_nC, hN_sR, hN_sI, e7] at x1 x2
    rw [if_neg (by omega)] at x1 x2
    exact ⟨x1, x2⟩
  have L7 : ∀ b j, b < 95 → gI h7 b j = gI h6 b j ∧ gR h7 b j = if b = 0 ∧ j = 7 then some 87 else gR h6 b j := by
    intro b j hb
    obtain ⟨x1, x2⟩ := n71 b j hb
    simp only [gI_nC, gI_sR, gI_sI, gR_nC, gR_sR, gR_sI, hN_nC, hN_sR, hN_sI, e6] at x1 x2
    rw [if_neg (by omega)] at x1 x2
    exact ⟨x1, x2⟩
  have L6 : ∀ b j, b < 87 → gI h6 b j = gI h5 b j ∧ gR h6 b j = if b = 0 ∧ j = 6 then some 44 else gR h5 b j := by
    intro b j hb
    obtain ⟨x1, x2⟩ := n61 b j hb
    simp only [gI_nC, gI_sR, gI_sI, gR_nC, gR_sR, gR_sI, hN_nC, hN_sR, hN_sI, e5] at x1 x2
    rw [if_neg (by omega)] at x1 x2
    exact ⟨x1, x2⟩
  have L5 : ∀ b j, b < 42 → gI h5 b j = gI h3 b j ∧ gR h5 b j = if b = 0 ∧ j = 5 then some 42 else if b = 0 ∧ j = 4 then some 28 else gR h3 b j := by
    intro b j hb
    obtain ⟨x1, x2⟩ := n51 b j (by show b < 44; omega)
    simp only [gI_nC, gI_sR, gI_sI, gR_nC, gR_sR, gR_sI, hN_nC, hN_sR, hN_sI, e3] at x1 x2
    rw [if_neg (by omega), if_neg (by omega), if_neg (by omega), if_neg (by omega)] at x1
    rw [if_neg (by omega)] at x2
    rw [x1, x2]
    refine ⟨rfl, ?_⟩
    rw [if_neg (show ¬ (b = 42 ∧ j = 0) by omega), if_neg (show ¬ b = 42 + 1 by omega), if_neg (show ¬ b = 42 by omega)]
  have L5b : (∀ j, gI h5 42 j = 0) ∧ (∀ j, gI h5 43 j = 0) ∧ gR h5 42 0 = some 43 := by
    refine ⟨fun j => ?_, fun j => ?_, ?_⟩
    · have x1 := (n51 42 j (by decide)).1
      simp (decide := true) only [gI_nC, gI_sR, gI_sI, hN_nC, hN_sR, hN_sI, e3, true_and, if_true, if_false] at x1
      rw [x1]; split <;> rfl
    · have x1 := (n51 43 j (by decide)).1
      simp (decide := true) only [gI_nC, gI_sR, gI_sI, hN_nC, hN_sR, hN_sI, e3, true_and, if_true, if_false] at x1
      exact x1
    · have x1 := (n51 42 0 (by decide)).2
      simp (decide := true) only [gR_nC, gR_sR, gR_sI, hN_nC, hN_sR, hN_sI, e3, true_and, if_true, if_false] at x1
      exact x1
  have L3 : ∀ b j, b < 28 → gI h3 b j = gI h2 b j ∧ gR h3 b j = if b = 0 ∧ j = 3 then some (1 + 1) else gR h2 b j := by
    intro b j hb
    obtain ⟨x1, x2⟩ := n31 b j hb
    simp only [gI_nC, gI_sR, gI_sI, gR_nC, gR_sR, gR_sI, hN_nC, hN_sR, hN_sI, e2] at x1 x2
    rw [if_neg (by omega)] at x1 x2
    exact ⟨x1, x2⟩
  have L2 : (∀ j, gI h2 0 j = if j = 2 then 1 else 0) ∧ (∀ j, gI h2 1 j = 0) ∧ gR h2 0 0 = some 1 := by
    refine ⟨fun j => ?_, fun j => ?_, ?_⟩
    · have x1 := (n21 0 j (by decide)).1
      simp (decide := true) only [gI_nC, gI_sR, gI_sI, hN_nC, hN_sR, hN_sI, hN1, show pHo = 0 from rfl, true_and, if_true, if_false] at x1
      rw [x1]; have := hg j
      repeat' split
      all_goals first | rfl | exact this | omega
    · have x1 := (n21 1 j (by decide)).1
      simp (decide := true) only [gI_nC, gI_sR, gI_sI, hN_nC, hN_sR, hN_sI, hN1, show pHo = 0 from rfl, false_and, true_and, if_true, if_false] at x1
      exact x1
    · have x1 := (n21 0 0 (by decide)).2
      simp (decide := true) only [gR_nC, gR_sR, gR_sI, hN_nC, hN_sR, hN_sI, hN1, show pHo = 0 from rfl, true_and, if_true, if_false] at x1
      exact x1
  generalize eh : sI (sR h11 pHo 16 (some 111)) pHo 17 0 = h12
  have P11 : ∀ b j, 0 < b → gI h12 b j = gI h11 b j ∧ gR h12 b j = gR h11 b j := fun b j hb => by rw [← eh, gI_sI, if_neg (fun z => by have : b = 0 := z.1; omega), gI_sR, gR_sI, gR_sR, if_neg (fun z => by have : b = 0 := z.1; omega)]; exact ⟨rfl, rfl⟩
  have P10 : ∀ b j, 0 < b → b < 111 → gI h12 b j = gI h10 b j ∧ gR h12 b j = gR h10 b j := fun b j hb h1 => by rw [(P11 b j hb).1, (P11 b j hb).2, (L11 b j h1).1, (L11 b j h1).2, if_neg (by omega)]; exact ⟨rfl, rfl⟩
  have P8 : ∀ b j, 0 < b → b < 104 → gI h12 b j = gI h8 b j ∧ gR h12 b j = gR h8 b j := fun b j hb h1 => by rw [(P10 b j hb (by omega)).1, (P10 b j hb (by omega)).2, (L10 b j h1).1, (L10 b j h1).2, if_neg (by omega), if_neg (by omega), if_neg (by omega), if_neg (by omega)]; exact ⟨rfl, rfl⟩
  have P7 : ∀ b j, 0 < b → b < 96 → gI h12 b j = gI h7 b j ∧ gR h12 b j = gR h7 b j := fun b j hb h1 => by rw [(P8 b j hb (by omega)).1, (P8 b j hb (by omega)).2, (L8 b j h1).1, (L8 b j h1).2, if_neg (by omega)]; exact ⟨rfl, rfl⟩
  have P6 : ∀ b j, 0 < b → b < 95 → gI h12 b j = gI h6 b j ∧ gR h12 b j = gR h6 b j := fun b j hb h1 => by rw [(P7 b j hb (by omega)).1, (P7 b j hb (by omega)).2, (L7 b j h1).1, (L7 b j h1).2, if_neg (by omega)]; exact ⟨rfl, rfl⟩
  have P5 : ∀ b j, 0 < b → b < 87 → gI h12 b j = gI h5 b j ∧ gR h12 b j = gR h5 b j := fun b j hb h1 => by rw [(P6 b j hb (by omega)).1, (P6 b j hb (by omega)).2, (L6 b j h1).1, (L6 b j h1).2, if_neg (by omega)]; exact ⟨rfl, rfl⟩
  have P3 : ∀ b j, 0 < b → b < 42 → gI h12 b j = gI h3 b j ∧ gR h12 b j = gR h3 b j := fun b j hb h1 => by rw [(P5 b j hb (by omega)).1, (P5 b j hb (by omega)).2, (L5 b j h1).1, (L5 b j h1).2, if_neg (by omega), if_neg (by omega)]; exact ⟨rfl, rfl⟩
  have P2 : ∀ b j, 0 < b → b < 28 → gI h12 b j = gI h2 b j ∧ gR h12 b j = gR h2 b j := fun b j hb h1 => by rw [(P3 b j hb (by omega)).1, (P3 b j hb (by omega)).2, (L3 b j h1).1, (L3 b j h1).2, if_neg (by omega)]; exact ⟨rfl, rfl⟩
  have R0 : ∀ j, gR h12 0 j = if j = 16 then some 111 else if j = 15 then some 105 else if j = 13 then some 104 else if j = 11 then none else if j = 9 then some 96 else if j = 8 then some 95 else if j = 7 then some 87 else if j = 6 then some 44 else if j = 5 then some 42 else if j = 4 then some 28 else if j = 3 then some 2 else gR h2 0 j := by
    intro j
    rw [← eh, gR_sI, gR_sR]
    simp only [(L11 0 j (by decide)).2, (L10 0 j (by decide)).2, (L8 0 j (by decide)).2, (L7 0 j (by decide)).2, (L6 0 j (by decide)).2, (L5 0 j (by decide)).2, (L3 0 j (by decide)).2, true_and, show pHo = 0 from rfl]
  have I0 : ∀ j, gI h12 0 j = if j = 2 then 1 else 0 := by
    intro j
    rw [← eh, gI_sI, gI_sR]
    simp only [(L11 0 j (by decide)).1, (L10 0 j (by decide)).1, (L8 0 j (by decide)).1, (L7 0 j (by decide)).1, (L6 0 j (by decide)).1, (L5 0 j (by decide)).1, (L3 0 j (by decide)).1, L2.1, true_and, show pHo = 0 from rfl]
    repeat' split
    all_goals first | rfl | omega
  have hN12 : hN h12 = 115 := by rw [← eh]; exact e11
  have hC12 : hC h12 = hC h11 := by rw [← eh]; rfl
  have hZ12 : hZ h12 = hZ h11 := by rw [← eh]; rfl
  refine hp h12 ⟨hN12, ?_, fun p hp hs => ?_, fun k hk => ?_, fun k hk => ?_, fun k hk => ?_, fun k hk => ?_, ?_, fun b j hb => ?_⟩ (by omega) (by show _ = _ + 11853; omega)
  · unfold CRf
    refine ⟨?_, ?_, ?_, ?_, ?_, ?_, ?_, ?_, ?_, ?_, ?_, ?_, ?_, ?_, ?_, ?_, ?_, ?_, ?_, ?_, ?_, ?_, ?_, ?_, ?_, ?_, ?_, ?_, ?_, ?_, ?_, ?_, ?_, ?_, ?_, ?_, ?_, ?_⟩
    · rw [R0]; exact L2.2.2
    · rw [R0]; rfl
    · rw [R0]; rfl
    · rw [R0]; rfl
    · rw [R0]; rfl
    · rw [R0]; rfl
    · rw [R0]; rfl
    · rw [R0]; rfl
    · rw [R0]; rfl
    · rw [R0]; rfl
    · rw [R0]; rfl
    · rw [(P2 pWs 0 (by decide) (by decide)).2]; exact n22
    · rw [(P3 pSs 0 (by decide) (by decide)).2]; exact n32
    · rw [(P5 pRe 0 (by decide) (by decide)).2]; exact n52.1
    · rw [(P5 pRe 1 (by decide) (by decide)).2]; exact n52.2.1
    · rw [(P5 pRe 2 (by decide) (by decide)).2]; exact n52.2.2.1
    · rw [(P5 pRe 3 (by decide) (by decide)).2]; exact n52.2.2.2.1
    · rw [(P6 pTa 0 (by decide) (by decide)).2]; exact n62 0 (by decide)
    · rw [(P6 pTa 1 (by decide) (by decide)).2]; exact n62 1 (by decide)
    · rw [(P6 pTa 2 (by decide) (by decide)).2]; exact n62 2 (by decide)
    · rw [(P6 pTa 3 (by decide) (by decide)).2]; exact n62 3 (by decide)
    · rw [(P6 pTa 4 (by decide) (by decide)).2]; exact n62 4 (by decide)
    · rw [(P6 pTa 5 (by decide) (by decide)).2]; exact n62 5 (by decide)
    · rw [(P6 pTa 6 (by decide) (by decide)).2]; exact n62 6 (by decide)
    · rw [(P8 pWa 0 (by decide) (by decide)).2]; exact n82.1
    · rw [(P8 pWa 2 (by decide) (by decide)).2]; exact n82.2.1
    · rw [(P8 pWa 3 (by decide) (by decide)).2]; exact n82.2.2.1
    · rw [(P8 pWa 4 (by decide) (by decide)).2]; exact n82.2.2.2.1
    · rw [(P8 pWa 5 (by decide) (by decide)).2]; exact n82.2.2.2.2.1
    · rw [(P8 pWa 6 (by decide) (by decide)).2]; exact n82.2.2.2.2.2.1
    · rw [(P10 pLo 0 (by decide) (by decide)).2]; exact n102.1
    · rw [(P10 pLo 1 (by decide) (by decide)).2]; exact n102.2.1
    · rw [(P10 pLo 2 (by decide) (by decide)).2]; exact n102.2.2.1
    · rw [(P10 pLo 3 (by decide) (by decide)).2]; exact n102.2.2.2.1
    · rw [(P10 pLo 4 (by decide) (by decide)).2]; exact n102.2.2.2.2
    · rw [(P11 pSh 0 (by decide)).2]; exact n112.1
    · rw [(P11 pSh 1 (by decide)).2]; exact n112.2.1
    · rw [(P11 pSh 2 (by decide)).2]; exact n112.2.2
  · rcases ho_wd p hp hs with ⟨a, b, k, k1, e⟩ | ⟨a, b, k, k1, e⟩ | e | e | e | ⟨k, k1, e⟩ | ⟨k, k1, e⟩ | e
    · rw [(P2 p 0 (by omega) (by omega)).2]
      have := (n23 k (by omega)).2
      rw [show 1 + 1 + 2 + 2 * k = p by omega, show 1 + 1 + 3 + 2 * k = p + 1 by omega] at this
      exact this
    · rw [(P3 p 0 (by omega) (by omega)).2]
      have := (n33 k (by omega)).2
      rw [show 28 + 2 + 2 * k = p by omega, show 28 + 3 + 2 * k = p + 1 by omega] at this
      exact this
    · rw [e, (P5 42 0 (by decide) (by decide)).2]; exact L5b.2.2
    · rw [e, (P5 47 0 (by decide) (by decide)).2]; exact n52.2.2.2.2.1
    · rw [e, (P5 49 0 (by decide) (by decide)).2]; exact n52.2.2.2.2.2
    · rw [(P5 p 0 (by omega) (by omega)).2, e]
      have := (n53 k k1).2.2.1
      exact this
    · rw [(P5 p 0 (by omega) (by omega)).2, e]
      have := (n53 k k1).2.2.2
      exact this
    · rw [e, (P8 102 0 (by decide) (by decide)).2]; exact n82.2.2.2.2.2.2
  · rw [(P2 pWs_e k (by decide) (by decide)).2]; exact (n23 k (by omega)).1
  · rw [(P3 pSs_e k (by decide) (by decide)).2]; exact (n33 k (by omega)).1
  · rw [(P5 pRe_sums k (by decide) (by decide)).2]; exact (n53 k hk).1
  · rw [(P5 pRe_firsts k (by decide) (by decide)).2]; exact (n53 k hk).2.1
  · rw [R0]; rfl
  · unfold hoI
    by_cases b0 : b = 0
    · rw [b0, I0, show pHo = 0 from rfl, if_neg (show ¬ (0 = pRe ∧ j = 10) from fun z => absurd z.1 (by decide)), if_neg (show ¬ (0 = pTa ∧ j = 9) from fun z => absurd z.1 (by decide))]
      simp only [true_and]
    · rw [if_neg (show ¬ (b = pHo ∧ j = 2) from fun z => b0 z.1)]
      have k44 : pRe = 44 := rfl
      have k87 : pTa = 87 := rfl
      rw [k44, k87]
      by_cases b1 : b = 1
      · rw [b1, (P2 1 j (by decide) (by decide)).1, L2.2.1, if_neg (by omega), if_neg (by omega)]
      by_cases b2 : b < 28
      · rw [(P2 b j (by omega) b2).1, n24 b j (by omega) (by omega), if_neg (by omega), if_neg (by omega)]
      by_cases b3 : b < 42
      · rw [(P3 b j (by omega) b3).1, n34 b j (by omega) (by omega), if_neg (by omega), if_neg (by omega)]
      by_cases b4 : b < 44
      · rw [(P5 b j (by omega) (by omega)).1, if_neg (by omega), if_neg (by omega)]
        rcases (show b = 42 ∨ b = 43 by omega) with rfl | rfl
        · exact L5b.1 j
        · exact L5b.2.1 j
      by_cases b5 : b = 44
      · rw [b5, (P5 44 j (by decide) (by decide)).1, if_neg (show ¬ (44 = 87 ∧ j = 9) by omega)]
        have := n54 j
        rw [show pRe = 44 from rfl] at this
        rw [this]
        simp only [true_and]
      by_cases b6 : b < 87
      · rw [(P5 b j (by omega) b6).1, n55 b j (by rw [k44]; omega) (by omega), if_neg (by omega), if_neg (by omega)]
      by_cases b7 : b = 87
      · rw [b7, (P6 87 j (by decide) (by decide)).1, n63 j, if_neg (show ¬ (87 = 44 ∧ j = 10) by omega)]
        simp only [true_and]
      by_cases b8 : b < 95
      · rw [(P6 b j (by omega) b8).1, n64 b j (by omega) (by omega), if_neg (by omega), if_neg (by omega)]
      by_cases b9 : b = 95
      · rw [b9, (P7 95 j (by decide) (by decide)).1, if_neg (by omega), if_neg (by omega)]; exact n72 j
      by_cases b10 : b < 104
      · rw [(P8 b j (by omega) b10).1, n83 b j (by show 96 ≤ b; omega) (by show b < 104; omega), if_neg (by omega), if_neg (by omega)]
      by_cases b11 : b = 104
      · rw [b11, (P10 104 j (by decide) (by decide)).1, if_neg (by omega), if_neg (by omega)]
        have x1 := (n101 104 j (by decide)).1
        simp (decide := true) only [gI_nC, gI_sR, gI_sI, hN_nC, hN_sR, hN_sI, e8, show pHo = 0 from rfl, false_and, if_true, if_false] at x1
        exact x1
      by_cases b12 : b < 111
      · rw [(P10 b j (by omega) b12).1, n103 b j (by show 105 ≤ b; omega) (by show b < 111; omega), if_neg (by omega), if_neg (by omega)]
      · rw [(P11 b j (by omega)).1, n113 b j (by show 111 ≤ b; omega) (by show b < 115; omega), if_neg (by omega), if_neg (by omega)]
