/-! THE COMPONENT: Table: countEmpty; NEW and PACK in slots -/
def Ct_Ta_countEmpty : CtT := fun av h post => match av with
  | [.inr (.inl (some p))] => p = pTa ∧ CW h ∧ ∃ (L Q : Int) (a : AT), 0 ≤ L ∧ L ≤ 10 ∧ TaR h L a ∧ WT L Q a ∧ post (some (.inl (cnN (isE L a) (10 * aN a)))) h
  | _ => False
theorem ce_Ta_countEmpty {p : Nat} {h : PH} {post : TR} : Ct_Ta_countEmpty [.inr (.inl (some p))] h post = (p = pTa ∧ CW h ∧ ∃ (L Q : Int) (a : AT), 0 ≤ L ∧ L ≤ 10 ∧ TaR h L a ∧ WT L Q a ∧ post (some (.inl (cnN (isE L a) (10 * aN a)))) h) := rfl
def B_Ta_countEmpty_58 : TT := (tt_il 1 tt_ir)
theorem E_Ta_countEmpty_58 {K : TK} {R : TR} {ls : LSt} {st : List PV} {h : PH} : B_Ta_countEmpty_58 K R ls st h = (tt_il 1 tt_ir) K R ls st h := rfl
theorem S_Ta_countEmpty_58 (lc lz : Nat) : Snd md_Ta_countEmpty lc lz 58 (B_Ta_countEmpty_58) := (snd_il_n (n := 1) (dget dd_Ta_countEmpty 33 rfl) rfl (snd_ir (dget dd_Ta_countEmpty 34 rfl) rfl))
def B_Ta_countEmpty_52 : TT := (tt_inc 2 1 (tt_cut 4))
theorem E_Ta_countEmpty_52 {K : TK} {R : TR} {ls : LSt} {st : List PV} {h : PH} : B_Ta_countEmpty_52 K R ls st h = (tt_inc 2 1 (tt_cut 4)) K R ls st h := rfl
theorem S_Ta_countEmpty_52 (lc lz : Nat) : Snd md_Ta_countEmpty lc lz 52 (B_Ta_countEmpty_52) := (snd_inc (dget dd_Ta_countEmpty 31 rfl) (snd_goto (tg := 4) (dget dd_Ta_countEmpty 32 rfl) rfl snd_cut))
def B_Ta_countEmpty_44 : TT := (tt_add (tt_is 1 (tt_inc 3 1 (tt_cut 14))))
theorem E_Ta_countEmpty_44 {K : TK} {R : TR} {ls : LSt} {st : List PV} {h : PH} : B_Ta_countEmpty_44 K R ls st h = (tt_add (tt_is 1 (tt_inc 3 1 (tt_cut 14)))) K R ls st h := rfl
theorem S_Ta_countEmpty_44 (lc lz : Nat) : Snd md_Ta_countEmpty lc lz 44 (B_Ta_countEmpty_44) := (snd_add (dget dd_Ta_countEmpty 27 rfl) (snd_is_n (n := 1) (dget dd_Ta_countEmpty 28 rfl) rfl (snd_inc (dget dd_Ta_countEmpty 29 rfl) (snd_goto (tg := 14) (dget dd_Ta_countEmpty 30 rfl) rfl snd_cut))))
def B_Ta_countEmpty_43 : TT := (tt_ci 0 (B_Ta_countEmpty_44))
theorem E_Ta_countEmpty_43 {K : TK} {R : TR} {ls : LSt} {st : List PV} {h : PH} : B_Ta_countEmpty_43 K R ls st h = (tt_ci 0 (B_Ta_countEmpty_44)) K R ls st h := rfl
theorem S_Ta_countEmpty_43 (lc lz : Nat) : Snd md_Ta_countEmpty lc lz 43 (B_Ta_countEmpty_43) := (snd_iconst (n := 0) (dget dd_Ta_countEmpty 26 rfl) (inR_d rfl) rfl (S_Ta_countEmpty_44 lc lz))
def B_Ta_countEmpty_14 : TT := (tt_il 3 (tt_al 0 (tt_gI 4 11 (tt_cge (B_Ta_countEmpty_52) (tt_il 1 (tt_al 0 (tt_al 0 (tt_gR 4 3 (tt_il 2 (tt_ia (tt_il 3 (tt_cV 4 3 Ct_Ta_get (tt_ci (-2) (tt_cne (B_Ta_countEmpty_43) (tt_ci 1 (B_Ta_countEmpty_44))))))))))))))))
theorem E_Ta_countEmpty_14 {K : TK} {R : TR} {ls : LSt} {st : List PV} {h : PH} : B_Ta_countEmpty_14 K R ls st h = (tt_il 3 (tt_al 0 (tt_gI 4 11 (tt_cge (B_Ta_countEmpty_52) (tt_il 1 (tt_al 0 (tt_al 0 (tt_gR 4 3 (tt_il 2 (tt_ia (tt_il 3 (tt_cV 4 3 Ct_Ta_get (tt_ci (-2) (tt_cne (B_Ta_countEmpty_43) (tt_ci 1 (B_Ta_countEmpty_44)))))))))))))))) K R ls st h := rfl
theorem S_Ta_countEmpty_14 (lc lz : Nat) : Snd md_Ta_countEmpty lc lz 14 (B_Ta_countEmpty_14) := (snd_il_n (n := 3) (dget dd_Ta_countEmpty 10 rfl) rfl (snd_al_n (n := 0) (dget dd_Ta_countEmpty 11 rfl) rfl (snd_gI (kn := 11) fd_Ta_48 rfl (dget dd_Ta_countEmpty 12 rfl) (snd_cge (tg := 52) (dget dd_Ta_countEmpty 13 rfl) rfl (S_Ta_countEmpty_52 lc lz) (snd_il_n (n := 1) (dget dd_Ta_countEmpty 14 rfl) rfl (snd_al_n (n := 0) (dget dd_Ta_countEmpty 15 rfl) rfl (snd_al_n (n := 0) (dget dd_Ta_countEmpty 16 rfl) rfl (snd_gR (kn := 3) fd_Ta_22 rfl (dget dd_Ta_countEmpty 17 rfl) (snd_il_n (n := 2) (dget dd_Ta_countEmpty 18 rfl) rfl (snd_ia (dget dd_Ta_countEmpty 19 rfl) (snd_il_n (n := 3) (dget dd_Ta_countEmpty 20 rfl) rfl (snd_cV (n := 2) met_Ta_get mi_Ta_get ki_Ta_get kv_Ta_get ml_Ta_102 rfl (by decide) (dget dd_Ta_countEmpty 21 rfl) (snd_bipush (n := -2) (dget dd_Ta_countEmpty 22 rfl) (inR_d rfl) (by decide) (snd_cne (tg := 43) (dget dd_Ta_countEmpty 23 rfl) rfl (S_Ta_countEmpty_43 lc lz) (snd_iconst (n := 1) (dget dd_Ta_countEmpty 24 rfl) (inR_d rfl) rfl (snd_goto (tg := 44) (dget dd_Ta_countEmpty 25 rfl) rfl (S_Ta_countEmpty_44 lc lz)))))))))))))))))
def B_Ta_countEmpty_4 : TT := (tt_il 2 (tt_al 0 (tt_gI 4 12 (tt_cge (B_Ta_countEmpty_58) (tt_ci 0 (tt_is 3 (tt_cut 14)))))))
theorem E_Ta_countEmpty_4 {K : TK} {R : TR} {ls : LSt} {st : List PV} {h : PH} : B_Ta_countEmpty_4 K R ls st h = (tt_il 2 (tt_al 0 (tt_gI 4 12 (tt_cge (B_Ta_countEmpty_58) (tt_ci 0 (tt_is 3 (tt_cut 14))))))) K R ls st h := rfl
theorem S_Ta_countEmpty_4 (lc lz : Nat) : Snd md_Ta_countEmpty lc lz 4 (B_Ta_countEmpty_4) := (snd_il_n (n := 2) (dget dd_Ta_countEmpty 4 rfl) rfl (snd_al_n (n := 0) (dget dd_Ta_countEmpty 5 rfl) rfl (snd_gI (kn := 12) fd_Ta_51 rfl (dget dd_Ta_countEmpty 6 rfl) (snd_cge (tg := 58) (dget dd_Ta_countEmpty 7 rfl) rfl (S_Ta_countEmpty_58 lc lz) (snd_iconst (n := 0) (dget dd_Ta_countEmpty 8 rfl) (inR_d rfl) rfl (snd_is_n (n := 3) (dget dd_Ta_countEmpty 9 rfl) rfl snd_cut))))))
def B_Ta_countEmpty_0 : TT := (tt_ci 0 (tt_is 1 (tt_ci 0 (tt_is 2 (tt_cut 4)))))
theorem E_Ta_countEmpty_0 {K : TK} {R : TR} {ls : LSt} {st : List PV} {h : PH} : B_Ta_countEmpty_0 K R ls st h = (tt_ci 0 (tt_is 1 (tt_ci 0 (tt_is 2 (tt_cut 4))))) K R ls st h := rfl
theorem S_Ta_countEmpty_0 (lc lz : Nat) : Snd md_Ta_countEmpty lc lz 0 (B_Ta_countEmpty_0) := (snd_iconst (n := 0) (dget dd_Ta_countEmpty 0 rfl) (inR_d rfl) rfl (snd_is_n (n := 1) (dget dd_Ta_countEmpty 1 rfl) rfl (snd_iconst (n := 0) (dget dd_Ta_countEmpty 2 rfl) (inR_d rfl) rfl (snd_is_n (n := 2) (dget dd_Ta_countEmpty 3 rfl) rfl snd_cut))))
def muCe (pc : Nat) (ls : LSt) (_ : PH) : Nat := if pc = 4 then (10000 - 20 * locI ls 2).toNat else (10000 - 20 * locI ls 2 - 1 - locI ls 3).toNat
theorem muCe_4 {ls : LSt} {h' : PH} : muCe 4 ls h' = (10000 - 20 * locI ls 2).toNat := rfl
theorem muCe_14 {ls : LSt} {h' : PH} : muCe 14 ls h' = (10000 - 20 * locI ls 2 - 1 - locI ls 3).toNat := rfl
theorem met_Ta_countEmpty : MetP y_Ta_countEmpty md_Ta_countEmpty (fun _ => 0) (fun _ => 0) Ct_Ta_countEmpty := by
  refine metL2 (body := B_Ta_countEmpty_0) (B1 := B_Ta_countEmpty_4) (B2 := B_Ta_countEmpty_14) (by decide) rfl rfl (fun lc lz => S_Ta_countEmpty_0 lc lz) (fun lc lz => S_Ta_countEmpty_4 lc lz) (fun lc lz => S_Ta_countEmpty_14 lc lz) (by decide) ?_
  intro av h post hc hH hav
  unfold Ct_Ta_countEmpty at hc
  split at hc
  rotate_left
  · exact hc.elim
  rename_i p
  obtain ⟨rfl, w, L, Q, a, L0, L10, hT, hW, hp⟩ := hc
  refine ⟨Nat.le_of_ble_eq_true rfl, ?_⟩
  obtain ⟨mu, hmu⟩ : ∃ mu, mu = muCe := ⟨_, rfl⟩
  obtain ⟨hS, ho, hE, hP⟩ := id hT
  have l3 := Ta_300 (F := gI h pTa) ho
  have hN : ∀ r, VV a r → r < aS a 0 := fun r hr => (hW.2.1 r hr).2
  have aN0 := aN_eq hW
  have aN2 := aN_le hW
  have h11 : gI h pTa 11 = L := hS.2.2.2.2.2.2.2.2.2.2.2
  have e0 : ∀ j : Int, aV a (j / 10) = 0 → isE L a j = 0 := fun j hj => if_neg (fun z => z.1 hj)
  have n12 : 0 ≤ gI h pTa 12 := by
    have := hW.2.2.2.2.2.1.1
    rw [hS.2.1]; omega
  refine ⟨fun ls h' => h' = h ∧ ∃ (k : Int) (x3 : Option PV), ls = [some (.inr (.inl (some pTa))), some (.inl (cnN (isE L a) (10 * rwK (gI h pTa 12) (gI h pTa_numbers) (gI h pTa_order) (aS a 0) k).toNat)), some (.inl k), x3] ∧ 0 ≤ k ∧ k ≤ gI h pTa 12,
    fun ls h' => h' = h ∧ ∃ (k c : Int), ls = [some (.inr (.inl (some pTa))), some (.inl (cnN (isE L a) (10 * gI h pTa_numbers (gI h pTa_order k) + c).toNat)), some (.inl k), some (.inl c)] ∧ 0 ≤ k ∧ k < gI h pTa 12 ∧ 0 ≤ c ∧ c ≤ L, mu, ?_, ?_, ?_⟩
  · rintro ls h' ⟨rfl, k, x3, rfl, k0, k1⟩
    simp (decide := true) only [↓E_Ta_countEmpty_0, ↓E_Ta_countEmpty_4, ↓E_Ta_countEmpty_14, ↓E_Ta_countEmpty_43, ↓E_Ta_countEmpty_44, ↓E_Ta_countEmpty_52, ↓E_Ta_countEmpty_58, ↓ce_Ta_get, ↓e_ci, ↓e_cl, ↓e_nul, ↓e_add, ↓e_sub, ↓e_mul, ↓e_ladd, ↓e_lmul, ↓e_div, ↓e_rem, ↓e_ldiv, ↓e_lrem, ↓e_zeq, ↓e_zne, ↓e_zlt, ↓e_zge, ↓e_zgt, ↓e_zle, ↓e_ceq, ↓e_cne, ↓e_clt, ↓e_cge, ↓e_cgt, ↓e_cle, ↓e_nn, ↓e_gI, ↓e_gR, ↓e_pI, ↓e_pZ, ↓e_pR, ↓e_ia, ↓e_ba, ↓e_za, ↓e_iS, ↓e_bS, ↓e_zS, ↓e_aa, ↓e_aS, ↓e_len, ↓e_and, ↓e_xor, ↓e_shr, ↓e_ushr, ↓e_lcmp, ↓e_i2b, ↓e_i2l, ↓e_l2i, ↓e_sw, ↓e_min, ↓e_max, ↓e_acp, ↓e_il_0, ↓e_al_0, ↓e_ll_0, ↓e_is_0n, ↓e_as_0n, ↓e_ls_0n, ↓e_inc_0n, ↓e_il_1, ↓e_al_1, ↓e_ll_1, ↓e_is_1i, ↓e_as_1i, ↓e_ls_1i, ↓e_inc_1i, ↓e_is_1o, ↓e_as_1o, ↓e_ls_1o, ↓e_inc_1o, ↓e_is_1n, ↓e_as_1n, ↓e_ls_1n, ↓e_inc_1n, ↓e_il_2, ↓e_al_2, ↓e_ll_2, ↓e_is_2i, ↓e_as_2i, ↓e_ls_2i, ↓e_inc_2i, ↓e_is_2o, ↓e_as_2o, ↓e_ls_2o, ↓e_inc_2o, ↓e_is_2n, ↓e_as_2n, ↓e_ls_2n, ↓e_inc_2n, ↓e_il_3, ↓e_al_3, ↓e_ll_3, ↓e_is_3i, ↓e_as_3i, ↓e_ls_3i, ↓e_inc_3i, ↓e_is_3o, ↓e_as_3o, ↓e_ls_3o, ↓e_inc_3o, ↓e_is_3n, ↓e_as_3n, ↓e_ls_3n, ↓e_inc_3n, ↓e_il_4, ↓e_al_4, ↓e_ll_4, ↓e_is_4i, ↓e_as_4i, ↓e_ls_4i, ↓e_inc_4i, ↓e_is_4o, ↓e_as_4o, ↓e_ls_4o, ↓e_inc_4o, ↓e_is_4n, ↓e_as_4n, ↓e_ls_4n, ↓e_inc_4n, ↓e_il_5, ↓e_al_5, ↓e_ll_5, ↓e_is_5i, ↓e_as_5i, ↓e_ls_5i, ↓e_inc_5i, ↓e_is_5o, ↓e_as_5o, ↓e_ls_5o, ↓e_inc_5o, ↓e_is_5n, ↓e_as_5n, ↓e_ls_5n, ↓e_inc_5n, ↓e_il_6, ↓e_al_6, ↓e_ll_6, ↓e_is_6i, ↓e_as_6i, ↓e_ls_6i, ↓e_inc_6i, ↓e_is_6o, ↓e_as_6o, ↓e_ls_6o, ↓e_inc_6o, ↓e_is_6n, ↓e_as_6n, ↓e_ls_6n, ↓e_inc_6n, ↓e_il_7, ↓e_al_7, ↓e_ll_7, ↓e_is_7i, ↓e_as_7i, ↓e_ls_7i, ↓e_inc_7i, ↓e_is_7o, ↓e_as_7o, ↓e_ls_7o, ↓e_inc_7o, ↓e_is_7n, ↓e_as_7n, ↓e_ls_7n, ↓e_inc_7n, ↓e_il_8, ↓e_al_8, ↓e_ll_8, ↓e_is_8i, ↓e_as_8i, ↓e_ls_8i, ↓e_inc_8i, ↓e_is_8o, ↓e_as_8o, ↓e_ls_8o, ↓e_inc_8o, ↓e_is_8n, ↓e_as_8n, ↓e_ls_8n, ↓e_inc_8n, ↓e_il_9, ↓e_al_9, ↓e_ll_9, ↓e_is_9i, ↓e_as_9i, ↓e_ls_9i, ↓e_inc_9i, ↓e_is_9o, ↓e_as_9o, ↓e_ls_9o, ↓e_inc_9o, ↓e_is_9n, ↓e_as_9n, ↓e_ls_9n, ↓e_inc_9n, ↓e_il_10, ↓e_al_10, ↓e_ll_10, ↓e_is_10i, ↓e_as_10i, ↓e_ls_10i, ↓e_inc_10i, ↓e_is_10o, ↓e_as_10o, ↓e_ls_10o, ↓e_inc_10o, ↓e_is_10n, ↓e_as_10n, ↓e_ls_10n, ↓e_inc_10n, ↓e_il_11, ↓e_al_11, ↓e_ll_11, ↓e_is_11i, ↓e_as_11i, ↓e_ls_11i, ↓e_inc_11i, ↓e_is_11o, ↓e_as_11o, ↓e_ls_11o, ↓e_inc_11o, ↓e_is_11n, ↓e_as_11n, ↓e_ls_11n, ↓e_inc_11n, ↓e_il_12, ↓e_al_12, ↓e_ll_12, ↓e_is_12i, ↓e_as_12i, ↓e_ls_12i, ↓e_inc_12i, ↓e_is_12o, ↓e_as_12o, ↓e_ls_12o, ↓e_inc_12o, ↓e_is_12n, ↓e_as_12n, ↓e_ls_12n, ↓e_inc_12n, ↓e_dup_i, ↓e_pop_i, ↓e_dup2_ii, ↓e_dup2_io, ↓e_dup_o, ↓e_pop_o, ↓e_dup2_oi, ↓e_dup2_oo, ↓e_ir, ↓e_zr, ↓e_br, ↓e_lr, ↓e_ar, ↓e_vr, ↓e_cut, ↓e_cS_0, ↓e_cV_1, ↓e_cS_1, ↓e_cV_2, ↓e_cS_2, ↓e_cV_3, ↓e_cS_3, ↓e_cV_4, ↓e_cS_4, ↓e_cV_5, ↓e_cS_5, ↓e_cV_6, ↓e_cS_6, ↓e_cV_7, ↓e_cS_7, ↓e_swn, ↓e_swc, ↓e_tls, ↓e_tln, E_Ta_countEmpty_0, E_Ta_countEmpty_4, E_Ta_countEmpty_14, E_Ta_countEmpty_43, E_Ta_countEmpty_44, E_Ta_countEmpty_52, E_Ta_countEmpty_58, ce_Ta_get, e_ci, e_cl, e_nul, e_add, e_sub, e_mul, e_ladd, e_lmul, e_div, e_rem, e_ldiv, e_lrem, e_zeq, e_zne, e_zlt, e_zge, e_zgt, e_zle, e_ceq, e_cne, e_clt, e_cge, e_cgt, e_cle, e_nn, e_gI, e_gR, e_pI, e_pZ, e_pR, e_ia, e_ba, e_za, e_iS, e_bS, e_zS, e_aa, e_aS, e_len, e_and, e_xor, e_shr, e_ushr, e_lcmp, e_i2b, e_i2l, e_l2i, e_sw, e_min, e_max, e_acp, e_il_0, e_al_0, e_ll_0, e_is_0n, e_as_0n, e_ls_0n, e_inc_0n, e_il_1, e_al_1, e_ll_1, e_is_1i, e_as_1i, e_ls_1i, e_inc_1i, e_is_1o, e_as_1o, e_ls_1o, e_inc_1o, e_is_1n, e_as_1n, e_ls_1n, e_inc_1n, e_il_2, e_al_2, e_ll_2, e_is_2i, e_as_2i, e_ls_2i, e_inc_2i, e_is_2o, e_as_2o, e_ls_2o, e_inc_2o, e_is_2n, e_as_2n, e_ls_2n, e_inc_2n, e_il_3, e_al_3, e_ll_3, e_is_3i, e_as_3i, e_ls_3i, e_inc_3i, e_is_3o, e_as_3o, e_ls_3o, e_inc_3o, e_is_3n, e_as_3n, e_ls_3n, e_inc_3n, e_il_4, e_al_4, e_ll_4, e_is_4i, e_as_4i, e_ls_4i, e_inc_4i, e_is_4o, e_as_4o, e_ls_4o, e_inc_4o, e_is_4n, e_as_4n, e_ls_4n, e_inc_4n, e_il_5, e_al_5, e_ll_5, e_is_5i, e_as_5i, e_ls_5i, e_inc_5i, e_is_5o, e_as_5o, e_ls_5o, e_inc_5o, e_is_5n, e_as_5n, e_ls_5n, e_inc_5n, e_il_6, e_al_6, e_ll_6, e_is_6i, e_as_6i, e_ls_6i, e_inc_6i, e_is_6o, e_as_6o, e_ls_6o, e_inc_6o, e_is_6n, e_as_6n, e_ls_6n, e_inc_6n, e_il_7, e_al_7, e_ll_7, e_is_7i, e_as_7i, e_ls_7i, e_inc_7i, e_is_7o, e_as_7o, e_ls_7o, e_inc_7o, e_is_7n, e_as_7n, e_ls_7n, e_inc_7n, e_il_8, e_al_8, e_ll_8, e_is_8i, e_as_8i, e_ls_8i, e_inc_8i, e_is_8o, e_as_8o, e_ls_8o, e_inc_8o, e_is_8n, e_as_8n, e_ls_8n, e_inc_8n, e_il_9, e_al_9, e_ll_9, e_is_9i, e_as_9i, e_ls_9i, e_inc_9i, e_is_9o, e_as_9o, e_ls_9o, e_inc_9o, e_is_9n, e_as_9n, e_ls_9n, e_inc_9n, e_il_10, e_al_10, e_ll_10, e_is_10i, e_as_10i, e_ls_10i, e_inc_10i, e_is_10o, e_as_10o, e_ls_10o, e_inc_10o, e_is_10n, e_as_10n, e_ls_10n, e_inc_10n, e_il_11, e_al_11, e_ll_11, e_is_11i, e_as_11i, e_ls_11i, e_inc_11i, e_is_11o, e_as_11o, e_ls_11o, e_inc_11o, e_is_11n, e_as_11n, e_ls_11n, e_inc_11n, e_il_12, e_al_12, e_ll_12, e_is_12i, e_as_12i, e_ls_12i, e_inc_12i, e_is_12o, e_as_12o, e_ls_12o, e_inc_12o, e_is_12n, e_as_12n, e_ls_12n, e_inc_12n, e_dup_i, e_pop_i, e_dup2_ii, e_dup2_io, e_dup_o, e_pop_o, e_dup2_oi, e_dup2_oo, e_ir, e_zr, e_br, e_lr, e_ar, e_vr, e_cut, e_cS_0, e_cV_1, e_cS_1, e_cV_2, e_cS_2, e_cV_3, e_cS_3, e_cV_4, e_cS_4, e_cV_5, e_cS_5, e_cV_6, e_cS_6, e_cV_7, e_cS_7, e_swn, e_swc, e_tls, e_tln, gI_sI, gI_sA, gR_sI, gR_sA, gI_sR, gR_sR, hN_sI, hN_sA, hN_sR, isO_sI, isO_sA, isO_sR, isAr_sI, isAr_sA, isAr_sR, hC_sI, hC_sA, hC_sR, hZ_sI, hZ_sA, hZ_sR, MW_sI, MW_sA, true_and, and_true, true_or, or_true, and_self, forall_const, imp_self, implies_true, if_true, if_false, false_and, and_false, false_or, or_false, not_false_eq_true, not_true_eq_false, sI_sI, entA, fitL, List.length_cons, List.length_nil, List.nil_append, List.cons_append, false_imp_iff, true_imp_iff, pn1, pn2, MW_sI, CW_sI, cr_Ho_0 w, cr_Ho_3 w, cr_Ho_4 w, cr_Ho_5 w, cr_Ho_6 w, cr_Ho_7 w, cr_Ho_8 w, cr_Ho_9 w, cr_Ho_13 w, cr_Ho_15 w, cr_Ho_16 w, cr_Ws_0 w, cr_Ss_0 w, cr_Re_0 w, cr_Re_1 w, cr_Re_2 w, cr_Re_3 w, cr_Ta_0 w, cr_Ta_1 w, cr_Ta_2 w, cr_Ta_3 w, cr_Ta_4 w, cr_Ta_5 w, cr_Ta_6 w, cr_Wa_0 w, cr_Wa_2 w, cr_Wa_3 w, cr_Wa_4 w, cr_Wa_5 w, cr_Wa_6 w, cr_Lo_0 w, cr_Lo_1 w, cr_Lo_2 w, cr_Lo_3 w, cr_Lo_4 w, cr_Sh_0 w, cr_Sh_1 w, cr_Sh_2 w, co_Ho w, ca_Ho_tape w, cl_Ho_tape, co_Ws w, co_Ss w, co_Ask w, co_Re w, co_Ta w, co_Fi w, co_Wa w, ca_Ho_told w, cl_Ho_told, co_Lo w, co_Sh w, ca_Ws_e w, cl_Ws_e, ca_Ss_e w, cl_Ss_e, ca_Re_sums w, cl_Re_sums, ca_Re_firsts w, cl_Re_firsts, co_Atom w, co_Raised w, ca_Ta_cells w, cl_Ta_cells, ca_Ta_numbers w, cl_Ta_numbers, ca_Ta_done w, cl_Ta_done, ca_Ta_order w, cl_Ta_order, ca_Ta_spare w, cl_Ta_spare, ca_Ta_parents w, cl_Ta_parents, ca_Ta_melting w, cl_Ta_melting, ca_Wa_queue w, cl_Wa_queue, ca_Wa_origins w, cl_Wa_origins, ca_Wa_vias w, cl_Wa_vias, ca_Wa_lengths w, cl_Wa_lengths, ca_Wa_seen w, cl_Wa_seen, co_Single w, ca_Lo_cells w, cl_Lo_cells, ca_Lo_kept w, cl_Lo_kept, ca_Lo_keptRows w, cl_Lo_keptRows, ca_Lo_names w, cl_Lo_names, ca_Lo_met w, cl_Lo_met, ca_Sh_cells w, cl_Sh_cells, ca_Sh_seen w, cl_Sh_seen, ca_Sh_queue w, cl_Sh_queue, CW_sI, CW_sA, locI, nth, hmu, muCe_4, muCe_14]
    refine ⟨fun z => ?_, fun z => ⟨⟨k, 0, ?_, k0, by omega, by omega, L0⟩, by omega⟩⟩
    · rw [show rwK (gI h' pTa 12) (gI h' pTa_numbers) (gI h' pTa_order) (aS a 0) k = aS a 0 from if_neg (by omega), show (10 * aS a 0).toNat = 10 * aN a by omega]
      exact hp
    · rw [show rwK (gI h' pTa 12) (gI h' pTa_numbers) (gI h' pTa_order) (aS a 0) k = gI h' pTa_numbers (gI h' pTa_order k) from if_pos (by omega), Int.add_zero]
  · rintro ls h' ⟨rfl, k, c, rfl, k0, k1, c0, c1⟩
    obtain ⟨g1, g2, g3, g4⟩ := rwK_gap ho hE hN k0 k1
    have o := ho.1 k k0 k1
    have hl := TgO_lf ho k0 k1
    obtain ⟨r, hr⟩ : ∃ r, r = gI h' pTa_numbers (gI h' pTa_order k) := ⟨_, rfl⟩
    have cb := cnN_bound (isE L a) (10 * r + c).toNat
    have hv : VV a r := (hE.1 r).mpr ⟨_, hl, hr.symm⟩
    simp (decide := true) only [↓E_Ta_countEmpty_0, ↓E_Ta_countEmpty_4, ↓E_Ta_countEmpty_14, ↓E_Ta_countEmpty_43, ↓E_Ta_countEmpty_44, ↓E_Ta_countEmpty_52, ↓E_Ta_countEmpty_58, ↓ce_Ta_get, ↓e_ci, ↓e_cl, ↓e_nul, ↓e_add, ↓e_sub, ↓e_mul, ↓e_ladd, ↓e_lmul, ↓e_div, ↓e_rem, ↓e_ldiv, ↓e_lrem, ↓e_zeq, ↓e_zne, ↓e_zlt, ↓e_zge, ↓e_zgt, ↓e_zle, ↓e_ceq, ↓e_cne, ↓e_clt, ↓e_cge, ↓e_cgt, ↓e_cle, ↓e_nn, ↓e_gI, ↓e_gR, ↓e_pI, ↓e_pZ, ↓e_pR, ↓e_ia, ↓e_ba, ↓e_za, ↓e_iS, ↓e_bS, ↓e_zS, ↓e_aa, ↓e_aS, ↓e_len, ↓e_and, ↓e_xor, ↓e_shr, ↓e_ushr, ↓e_lcmp, ↓e_i2b, ↓e_i2l, ↓e_l2i, ↓e_sw, ↓e_min, ↓e_max, ↓e_acp, ↓e_il_0, ↓e_al_0, ↓e_ll_0, ↓e_is_0n, ↓e_as_0n, ↓e_ls_0n, ↓e_inc_0n, ↓e_il_1, ↓e_al_1, ↓e_ll_1, ↓e_is_1i, ↓e_as_1i, ↓e_ls_1i, ↓e_inc_1i, ↓e_is_1o, ↓e_as_1o, ↓e_ls_1o, ↓e_inc_1o, ↓e_is_1n, ↓e_as_1n, ↓e_ls_1n, ↓e_inc_1n, ↓e_il_2, ↓e_al_2, ↓e_ll_2, ↓e_is_2i, ↓e_as_2i, ↓e_ls_2i, ↓e_inc_2i, ↓e_is_2o, ↓e_as_2o, ↓e_ls_2o, ↓e_inc_2o, ↓e_is_2n, ↓e_as_2n, ↓e_ls_2n, ↓e_inc_2n, ↓e_il_3, ↓e_al_3, ↓e_ll_3, ↓e_is_3i, ↓e_as_3i, ↓e_ls_3i, ↓e_inc_3i, ↓e_is_3o, ↓e_as_3o, ↓e_ls_3o, ↓e_inc_3o, ↓e_is_3n, ↓e_as_3n, ↓e_ls_3n, ↓e_inc_3n, ↓e_il_4, ↓e_al_4, ↓e_ll_4, ↓e_is_4i, ↓e_as_4i, ↓e_ls_4i, ↓e_inc_4i, ↓e_is_4o, ↓e_as_4o, ↓e_ls_4o, ↓e_inc_4o, ↓e_is_4n, ↓e_as_4n, ↓e_ls_4n, ↓e_inc_4n, ↓e_il_5, ↓e_al_5, ↓e_ll_5, ↓e_is_5i, ↓e_as_5i, ↓e_ls_5i, ↓e_inc_5i, ↓e_is_5o, ↓e_as_5o, ↓e_ls_5o, ↓e_inc_5o, ↓e_is_5n, ↓e_as_5n, ↓e_ls_5n, ↓e_inc_5n, ↓e_il_6, ↓e_al_6, ↓e_ll_6, ↓e_is_6i, ↓e_as_6i, ↓e_ls_6i, ↓e_inc_6i, ↓e_is_6o, ↓e_as_6o, ↓e_ls_6o, ↓e_inc_6o, ↓e_is_6n, ↓e_as_6n, ↓e_ls_6n, ↓e_inc_6n, ↓e_il_7, ↓e_al_7, ↓e_ll_7, ↓e_is_7i, ↓e_as_7i, ↓e_ls_7i, ↓e_inc_7i, ↓e_is_7o, ↓e_as_7o, ↓e_ls_7o, ↓e_inc_7o, ↓e_is_7n, ↓e_as_7n, ↓e_ls_7n, ↓e_inc_7n, ↓e_il_8, ↓e_al_8, ↓e_ll_8, ↓e_is_8i, ↓e_as_8i, ↓e_ls_8i, ↓e_inc_8i, ↓e_is_8o, ↓e_as_8o, ↓e_ls_8o, ↓e_inc_8o, ↓e_is_8n, ↓e_as_8n, ↓e_ls_8n, ↓e_inc_8n, ↓e_il_9, ↓e_al_9, ↓e_ll_9, ↓e_is_9i, ↓e_as_9i, ↓e_ls_9i, ↓e_inc_9i, ↓e_is_9o, ↓e_as_9o, ↓e_ls_9o, ↓e_inc_9o, ↓e_is_9n, ↓e_as_9n, ↓e_ls_9n, ↓e_inc_9n, ↓e_il_10, ↓e_al_10, ↓e_ll_10, ↓e_is_10i, ↓e_as_10i, ↓e_ls_10i, ↓e_inc_10i, ↓e_is_10o, ↓e_as_10o, ↓e_ls_10o, ↓e_inc_10o, ↓e_is_10n, ↓e_as_10n, ↓e_ls_10n, ↓e_inc_10n, ↓e_il_11, ↓e_al_11, ↓e_ll_11, ↓e_is_11i, ↓e_as_11i, ↓e_ls_11i, ↓e_inc_11i, ↓e_is_11o, ↓e_as_11o, ↓e_ls_11o, ↓e_inc_11o, ↓e_is_11n, ↓e_as_11n, ↓e_ls_11n, ↓e_inc_11n, ↓e_il_12, ↓e_al_12, ↓e_ll_12, ↓e_is_12i, ↓e_as_12i, ↓e_ls_12i, ↓e_inc_12i, ↓e_is_12o, ↓e_as_12o, ↓e_ls_12o, ↓e_inc_12o, ↓e_is_12n, ↓e_as_12n, ↓e_ls_12n, ↓e_inc_12n, ↓e_dup_i, ↓e_pop_i, ↓e_dup2_ii, ↓e_dup2_io, ↓e_dup_o, ↓e_pop_o, ↓e_dup2_oi, ↓e_dup2_oo, ↓e_ir, ↓e_zr, ↓e_br, ↓e_lr, ↓e_ar, ↓e_vr, ↓e_cut, ↓e_cS_0, ↓e_cV_1, ↓e_cS_1, ↓e_cV_2, ↓e_cS_2, ↓e_cV_3, ↓e_cS_3, ↓e_cV_4, ↓e_cS_4, ↓e_cV_5, ↓e_cS_5, ↓e_cV_6, ↓e_cS_6, ↓e_cV_7, ↓e_cS_7, ↓e_swn, ↓e_swc, ↓e_tls, ↓e_tln, E_Ta_countEmpty_0, E_Ta_countEmpty_4, E_Ta_countEmpty_14, E_Ta_countEmpty_43, E_Ta_countEmpty_44, E_Ta_countEmpty_52, E_Ta_countEmpty_58, ce_Ta_get, e_ci, e_cl, e_nul, e_add, e_sub, e_mul, e_ladd, e_lmul, e_div, e_rem, e_ldiv, e_lrem, e_zeq, e_zne, e_zlt, e_zge, e_zgt, e_zle, e_ceq, e_cne, e_clt, e_cge, e_cgt, e_cle, e_nn, e_gI, e_gR, e_pI, e_pZ, e_pR, e_ia, e_ba, e_za, e_iS, e_bS, e_zS, e_aa, e_aS, e_len, e_and, e_xor, e_shr, e_ushr, e_lcmp, e_i2b, e_i2l, e_l2i, e_sw, e_min, e_max, e_acp, e_il_0, e_al_0, e_ll_0, e_is_0n, e_as_0n, e_ls_0n, e_inc_0n, e_il_1, e_al_1, e_ll_1, e_is_1i, e_as_1i, e_ls_1i, e_inc_1i, e_is_1o, e_as_1o, e_ls_1o, e_inc_1o, e_is_1n, e_as_1n, e_ls_1n, e_inc_1n, e_il_2, e_al_2, e_ll_2, e_is_2i, e_as_2i, e_ls_2i, e_inc_2i, e_is_2o, e_as_2o, e_ls_2o, e_inc_2o, e_is_2n, e_as_2n, e_ls_2n, e_inc_2n, e_il_3, e_al_3, e_ll_3, e_is_3i, e_as_3i, e_ls_3i, e_inc_3i, e_is_3o, e_as_3o, e_ls_3o, e_inc_3o, e_is_3n, e_as_3n, e_ls_3n, e_inc_3n, e_il_4, e_al_4, e_ll_4, e_is_4i, e_as_4i, e_ls_4i, e_inc_4i, e_is_4o, e_as_4o, e_ls_4o, e_inc_4o, e_is_4n, e_as_4n, e_ls_4n, e_inc_4n, e_il_5, e_al_5, e_ll_5, e_is_5i, e_as_5i, e_ls_5i, e_inc_5i, e_is_5o, e_as_5o, e_ls_5o, e_inc_5o, e_is_5n, e_as_5n, e_ls_5n, e_inc_5n, e_il_6, e_al_6, e_ll_6, e_is_6i, e_as_6i, e_ls_6i, e_inc_6i, e_is_6o, e_as_6o, e_ls_6o, e_inc_6o, e_is_6n, e_as_6n, e_ls_6n, e_inc_6n, e_il_7, e_al_7, e_ll_7, e_is_7i, e_as_7i, e_ls_7i, e_inc_7i, e_is_7o, e_as_7o, e_ls_7o, e_inc_7o, e_is_7n, e_as_7n, e_ls_7n, e_inc_7n, e_il_8, e_al_8, e_ll_8, e_is_8i, e_as_8i, e_ls_8i, e_inc_8i, e_is_8o, e_as_8o, e_ls_8o, e_inc_8o, e_is_8n, e_as_8n, e_ls_8n, e_inc_8n, e_il_9, e_al_9, e_ll_9, e_is_9i, e_as_9i, e_ls_9i, e_inc_9i, e_is_9o, e_as_9o, e_ls_9o, e_inc_9o, e_is_9n, e_as_9n, e_ls_9n, e_inc_9n, e_il_10, e_al_10, e_ll_10, e_is_10i, e_as_10i, e_ls_10i, e_inc_10i, e_is_10o, e_as_10o, e_ls_10o, e_inc_10o, e_is_10n, e_as_10n, e_ls_10n, e_inc_10n, e_il_11, e_al_11, e_ll_11, e_is_11i, e_as_11i, e_ls_11i, e_inc_11i, e_is_11o, e_as_11o, e_ls_11o, e_inc_11o, e_is_11n, e_as_11n, e_ls_11n, e_inc_11n, e_il_12, e_al_12, e_ll_12, e_is_12i, e_as_12i, e_ls_12i, e_inc_12i, e_is_12o, e_as_12o, e_ls_12o, e_inc_12o, e_is_12n, e_as_12n, e_ls_12n, e_inc_12n, e_dup_i, e_pop_i, e_dup2_ii, e_dup2_io, e_dup_o, e_pop_o, e_dup2_oi, e_dup2_oo, e_ir, e_zr, e_br, e_lr, e_ar, e_vr, e_cut, e_cS_0, e_cV_1, e_cS_1, e_cV_2, e_cS_2, e_cV_3, e_cS_3, e_cV_4, e_cS_4, e_cV_5, e_cS_5, e_cV_6, e_cS_6, e_cV_7, e_cS_7, e_swn, e_swc, e_tls, e_tln, gI_sI, gI_sA, gR_sI, gR_sA, gI_sR, gR_sR, hN_sI, hN_sA, hN_sR, isO_sI, isO_sA, isO_sR, isAr_sI, isAr_sA, isAr_sR, hC_sI, hC_sA, hC_sR, hZ_sI, hZ_sA, hZ_sR, MW_sI, MW_sA, true_and, and_true, true_or, or_true, and_self, forall_const, imp_self, implies_true, if_true, if_false, false_and, and_false, false_or, or_false, not_false_eq_true, not_true_eq_false, sI_sI, entA, fitL, List.length_cons, List.length_nil, List.nil_append, List.cons_append, false_imp_iff, true_imp_iff, pn1, pn2, MW_sI, CW_sI, cr_Ho_0 w, cr_Ho_3 w, cr_Ho_4 w, cr_Ho_5 w, cr_Ho_6 w, cr_Ho_7 w, cr_Ho_8 w, cr_Ho_9 w, cr_Ho_13 w, cr_Ho_15 w, cr_Ho_16 w, cr_Ws_0 w, cr_Ss_0 w, cr_Re_0 w, cr_Re_1 w, cr_Re_2 w, cr_Re_3 w, cr_Ta_0 w, cr_Ta_1 w, cr_Ta_2 w, cr_Ta_3 w, cr_Ta_4 w, cr_Ta_5 w, cr_Ta_6 w, cr_Wa_0 w, cr_Wa_2 w, cr_Wa_3 w, cr_Wa_4 w, cr_Wa_5 w, cr_Wa_6 w, cr_Lo_0 w, cr_Lo_1 w, cr_Lo_2 w, cr_Lo_3 w, cr_Lo_4 w, cr_Sh_0 w, cr_Sh_1 w, cr_Sh_2 w, co_Ho w, ca_Ho_tape w, cl_Ho_tape, co_Ws w, co_Ss w, co_Ask w, co_Re w, co_Ta w, co_Fi w, co_Wa w, ca_Ho_told w, cl_Ho_told, co_Lo w, co_Sh w, ca_Ws_e w, cl_Ws_e, ca_Ss_e w, cl_Ss_e, ca_Re_sums w, cl_Re_sums, ca_Re_firsts w, cl_Re_firsts, co_Atom w, co_Raised w, ca_Ta_cells w, cl_Ta_cells, ca_Ta_numbers w, cl_Ta_numbers, ca_Ta_done w, cl_Ta_done, ca_Ta_order w, cl_Ta_order, ca_Ta_spare w, cl_Ta_spare, ca_Ta_parents w, cl_Ta_parents, ca_Ta_melting w, cl_Ta_melting, ca_Wa_queue w, cl_Wa_queue, ca_Wa_origins w, cl_Wa_origins, ca_Wa_vias w, cl_Wa_vias, ca_Wa_lengths w, cl_Wa_lengths, ca_Wa_seen w, cl_Wa_seen, co_Single w, ca_Lo_cells w, cl_Lo_cells, ca_Lo_kept w, cl_Lo_kept, ca_Lo_keptRows w, cl_Lo_keptRows, ca_Lo_names w, cl_Lo_names, ca_Lo_met w, cl_Lo_met, ca_Sh_cells w, cl_Sh_cells, ca_Sh_seen w, cl_Sh_seen, ca_Sh_queue w, cl_Sh_queue, CW_sI, CW_sA, locI, nth, hmu, muCe_4, muCe_14, h11, ← hr]
    rw [← hr] at g1 g2 g4
    refine ⟨fun z => ⟨⟨by omega, by omega⟩, ⟨k + 1, some (.inl c), ?_, by omega, by omega⟩, by omega⟩, fun z => ?_⟩
    · have ec : c = L := by omega
      have : cnN (isE L a) (10 * rwK (gI h' pTa 12) (gI h' pTa_numbers) (gI h' pTa_order) (aS a 0) (k + 1)).toNat = cnN (isE L a) (10 * r + c).toNat := by
        refine cnN_gap (by omega) (fun j j0 j1 => ?_)
        by_cases y : (j : Int) / 10 = r
        · refine if_neg (fun x => ?_)
          have := x.2.1
          omega
        · exact e0 j (g4 _ (by omega) (by omega))
      rw [this]
    · have ec : cnN (isE L a) (10 * r + (c + 1)).toNat = cnN (isE L a) ((10 * r + c).toNat + 1) := by congr 1; omega
      have ej : (((10 * r + c).toNat : Nat) : Int) = 10 * r + c := by omega
      have ev : isE L a (10 * r + c) = if aE a r c = -2 then 1 else 0 := by
        unfold isE
        rw [show (10 * r + c) / 10 = r by omega, show (10 * r + c) % 10 = c by omega]
        by_cases y : aE a r c = -2
        · rw [if_pos y, if_pos ⟨hv, by omega, y⟩]
        · rw [if_neg y, if_neg (fun x => y x.2.2)]
      have cell := hE.2.1 _ c hl c0 (by omega)
      rw [← hr] at cell
      refine ⟨by omega, by omega, w, by omega, by omega, c0, by omega, fun z2 => ⟨⟨by omega, by omega⟩, ⟨by omega, by omega⟩, ⟨k, c + 1, ?_, k0, k1, by omega, by omega⟩, by omega⟩, fun z2 => ⟨⟨by omega, by omega⟩, ⟨by omega, by omega⟩, ⟨k, c + 1, ?_, k0, k1, by omega, by omega⟩, by omega⟩⟩
      · have q : ¬ aE a r c = -2 := by
          rcases cell with ⟨q1, -⟩ | ⟨q1, q2⟩
          · exact absurd q1 z2
          · have := TgO_num ho q1; omega
        rw [← hr, ec, cnN_skip (by rw [ej, ev, if_neg q])]
        rw [Int.add_zero]
      · have q : aE a r c = -2 := by
          rcases cell with ⟨-, q2⟩ | ⟨q1, -⟩
          · exact q2
          · have := q1.1; omega
        rw [← hr, ec, cnN_succ (by rw [ej, ev, if_pos q]; decide)]
        push_cast; rfl
  · simp (decide := true) only [↓E_Ta_countEmpty_0, ↓E_Ta_countEmpty_4, ↓E_Ta_countEmpty_14, ↓E_Ta_countEmpty_43, ↓E_Ta_countEmpty_44, ↓E_Ta_countEmpty_52, ↓E_Ta_countEmpty_58, ↓ce_Ta_get, ↓e_ci, ↓e_cl, ↓e_nul, ↓e_add, ↓e_sub, ↓e_mul, ↓e_ladd, ↓e_lmul, ↓e_div, ↓e_rem, ↓e_ldiv, ↓e_lrem, ↓e_zeq, ↓e_zne, ↓e_zlt, ↓e_zge, ↓e_zgt, ↓e_zle, ↓e_ceq, ↓e_cne, ↓e_clt, ↓e_cge, ↓e_cgt, ↓e_cle, ↓e_nn, ↓e_gI, ↓e_gR, ↓e_pI, ↓e_pZ, ↓e_pR, ↓e_ia, ↓e_ba, ↓e_za, ↓e_iS, ↓e_bS, ↓e_zS, ↓e_aa, ↓e_aS, ↓e_len, ↓e_and, ↓e_xor, ↓e_shr, ↓e_ushr, ↓e_lcmp, ↓e_i2b, ↓e_i2l, ↓e_l2i, ↓e_sw, ↓e_min, ↓e_max, ↓e_acp, ↓e_il_0, ↓e_al_0, ↓e_ll_0, ↓e_is_0n, ↓e_as_0n, ↓e_ls_0n, ↓e_inc_0n, ↓e_il_1, ↓e_al_1, ↓e_ll_1, ↓e_is_1i, ↓e_as_1i, ↓e_ls_1i, ↓e_inc_1i, ↓e_is_1o, ↓e_as_1o, ↓e_ls_1o, ↓e_inc_1o, ↓e_is_1n, ↓e_as_1n, ↓e_ls_1n, ↓e_inc_1n, ↓e_il_2, ↓e_al_2, ↓e_ll_2, ↓e_is_2i, ↓e_as_2i, ↓e_ls_2i, ↓e_inc_2i, ↓e_is_2o, ↓e_as_2o, ↓e_ls_2o, ↓e_inc_2o, ↓e_is_2n, ↓e_as_2n, ↓e_ls_2n, ↓e_inc_2n, ↓e_il_3, ↓e_al_3, ↓e_ll_3, ↓e_is_3i, ↓e_as_3i, ↓e_ls_3i, ↓e_inc_3i, ↓e_is_3o, ↓e_as_3o, ↓e_ls_3o, ↓e_inc_3o, ↓e_is_3n, ↓e_as_3n, ↓e_ls_3n, ↓e_inc_3n, ↓e_il_4, ↓e_al_4, ↓e_ll_4, ↓e_is_4i, ↓e_as_4i, ↓e_ls_4i, ↓e_inc_4i, ↓e_is_4o, ↓e_as_4o, ↓e_ls_4o, ↓e_inc_4o, ↓e_is_4n, ↓e_as_4n, ↓e_ls_4n, ↓e_inc_4n, ↓e_il_5, ↓e_al_5, ↓e_ll_5, ↓e_is_5i, ↓e_as_5i, ↓e_ls_5i, ↓e_inc_5i, ↓e_is_5o, ↓e_as_5o, ↓e_ls_5o, ↓e_inc_5o, ↓e_is_5n, ↓e_as_5n, ↓e_ls_5n, ↓e_inc_5n, ↓e_il_6, ↓e_al_6, ↓e_ll_6, ↓e_is_6i, ↓e_as_6i, ↓e_ls_6i, ↓e_inc_6i, ↓e_is_6o, ↓e_as_6o, ↓e_ls_6o, ↓e_inc_6o, ↓e_is_6n, ↓e_as_6n, ↓e_ls_6n, ↓e_inc_6n, ↓e_il_7, ↓e_al_7, ↓e_ll_7, ↓e_is_7i, ↓e_as_7i, ↓e_ls_7i, ↓e_inc_7i, ↓e_is_7o, ↓e_as_7o, ↓e_ls_7o, ↓e_inc_7o, ↓e_is_7n, ↓e_as_7n, ↓e_ls_7n, ↓e_inc_7n, ↓e_il_8, ↓e_al_8, ↓e_ll_8, ↓e_is_8i, ↓e_as_8i, ↓e_ls_8i, ↓e_inc_8i, ↓e_is_8o, ↓e_as_8o, ↓e_ls_8o, ↓e_inc_8o, ↓e_is_8n, ↓e_as_8n, ↓e_ls_8n, ↓e_inc_8n, ↓e_il_9, ↓e_al_9, ↓e_ll_9, ↓e_is_9i, ↓e_as_9i, ↓e_ls_9i, ↓e_inc_9i, ↓e_is_9o, ↓e_as_9o, ↓e_ls_9o, ↓e_inc_9o, ↓e_is_9n, ↓e_as_9n, ↓e_ls_9n, ↓e_inc_9n, ↓e_il_10, ↓e_al_10, ↓e_ll_10, ↓e_is_10i, ↓e_as_10i, ↓e_ls_10i, ↓e_inc_10i, ↓e_is_10o, ↓e_as_10o, ↓e_ls_10o, ↓e_inc_10o, ↓e_is_10n, ↓e_as_10n, ↓e_ls_10n, ↓e_inc_10n, ↓e_il_11, ↓e_al_11, ↓e_ll_11, ↓e_is_11i, ↓e_as_11i, ↓e_ls_11i, ↓e_inc_11i, ↓e_is_11o, ↓e_as_11o, ↓e_ls_11o, ↓e_inc_11o, ↓e_is_11n, ↓e_as_11n, ↓e_ls_11n, ↓e_inc_11n, ↓e_il_12, ↓e_al_12, ↓e_ll_12, ↓e_is_12i, ↓e_as_12i, ↓e_ls_12i, ↓e_inc_12i, ↓e_is_12o, ↓e_as_12o, ↓e_ls_12o, ↓e_inc_12o, ↓e_is_12n, ↓e_as_12n, ↓e_ls_12n, ↓e_inc_12n, ↓e_dup_i, ↓e_pop_i, ↓e_dup2_ii, ↓e_dup2_io, ↓e_dup_o, ↓e_pop_o, ↓e_dup2_oi, ↓e_dup2_oo, ↓e_ir, ↓e_zr, ↓e_br, ↓e_lr, ↓e_ar, ↓e_vr, ↓e_cut, ↓e_cS_0, ↓e_cV_1, ↓e_cS_1, ↓e_cV_2, ↓e_cS_2, ↓e_cV_3, ↓e_cS_3, ↓e_cV_4, ↓e_cS_4, ↓e_cV_5, ↓e_cS_5, ↓e_cV_6, ↓e_cS_6, ↓e_cV_7, ↓e_cS_7, ↓e_swn, ↓e_swc, ↓e_tls, ↓e_tln, E_Ta_countEmpty_0, E_Ta_countEmpty_4, E_Ta_countEmpty_14, E_Ta_countEmpty_43, E_Ta_countEmpty_44, E_Ta_countEmpty_52, E_Ta_countEmpty_58, ce_Ta_get, e_ci, e_cl, e_nul, e_add, e_sub, e_mul, e_ladd, e_lmul, e_div, e_rem, e_ldiv, e_lrem, e_zeq, e_zne, e_zlt, e_zge, e_zgt, e_zle, e_ceq, e_cne, e_clt, e_cge, e_cgt, e_cle, e_nn, e_gI, e_gR, e_pI, e_pZ, e_pR, e_ia, e_ba, e_za, e_iS, e_bS, e_zS, e_aa, e_aS, e_len, e_and, e_xor, e_shr, e_ushr, e_lcmp, e_i2b, e_i2l, e_l2i, e_sw, e_min, e_max, e_acp, e_il_0, e_al_0, e_ll_0, e_is_0n, e_as_0n, e_ls_0n, e_inc_0n, e_il_1, e_al_1, e_ll_1, e_is_1i, e_as_1i, e_ls_1i, e_inc_1i, e_is_1o, e_as_1o, e_ls_1o, e_inc_1o, e_is_1n, e_as_1n, e_ls_1n, e_inc_1n, e_il_2, e_al_2, e_ll_2, e_is_2i, e_as_2i, e_ls_2i, e_inc_2i, e_is_2o, e_as_2o, e_ls_2o, e_inc_2o, e_is_2n, e_as_2n, e_ls_2n, e_inc_2n, e_il_3, e_al_3, e_ll_3, e_is_3i, e_as_3i, e_ls_3i, e_inc_3i, e_is_3o, e_as_3o, e_ls_3o, e_inc_3o, e_is_3n, e_as_3n, e_ls_3n, e_inc_3n, e_il_4, e_al_4, e_ll_4, e_is_4i, e_as_4i, e_ls_4i, e_inc_4i, e_is_4o, e_as_4o, e_ls_4o, e_inc_4o, e_is_4n, e_as_4n, e_ls_4n, e_inc_4n, e_il_5, e_al_5, e_ll_5, e_is_5i, e_as_5i, e_ls_5i, e_inc_5i, e_is_5o, e_as_5o, e_ls_5o, e_inc_5o, e_is_5n, e_as_5n, e_ls_5n, e_inc_5n, e_il_6, e_al_6, e_ll_6, e_is_6i, e_as_6i, e_ls_6i, e_inc_6i, e_is_6o, e_as_6o, e_ls_6o, e_inc_6o, e_is_6n, e_as_6n, e_ls_6n, e_inc_6n, e_il_7, e_al_7, e_ll_7, e_is_7i, e_as_7i, e_ls_7i, e_inc_7i, e_is_7o, e_as_7o, e_ls_7o, e_inc_7o, e_is_7n, e_as_7n, e_ls_7n, e_inc_7n, e_il_8, e_al_8, e_ll_8, e_is_8i, e_as_8i, e_ls_8i, e_inc_8i, e_is_8o, e_as_8o, e_ls_8o, e_inc_8o, e_is_8n, e_as_8n, e_ls_8n, e_inc_8n, e_il_9, e_al_9, e_ll_9, e_is_9i, e_as_9i, e_ls_9i, e_inc_9i, e_is_9o, e_as_9o, e_ls_9o, e_inc_9o, e_is_9n, e_as_9n, e_ls_9n, e_inc_9n, e_il_10, e_al_10, e_ll_10, e_is_10i, e_as_10i, e_ls_10i, e_inc_10i, e_is_10o, e_as_10o, e_ls_10o, e_inc_10o, e_is_10n, e_as_10n, e_ls_10n, e_inc_10n, e_il_11, e_al_11, e_ll_11, e_is_11i, e_as_11i, e_ls_11i, e_inc_11i, e_is_11o, e_as_11o, e_ls_11o, e_inc_11o, e_is_11n, e_as_11n, e_ls_11n, e_inc_11n, e_il_12, e_al_12, e_ll_12, e_is_12i, e_as_12i, e_ls_12i, e_inc_12i, e_is_12o, e_as_12o, e_ls_12o, e_inc_12o, e_is_12n, e_as_12n, e_ls_12n, e_inc_12n, e_dup_i, e_pop_i, e_dup2_ii, e_dup2_io, e_dup_o, e_pop_o, e_dup2_oi, e_dup2_oo, e_ir, e_zr, e_br, e_lr, e_ar, e_vr, e_cut, e_cS_0, e_cV_1, e_cS_1, e_cV_2, e_cS_2, e_cV_3, e_cS_3, e_cV_4, e_cS_4, e_cV_5, e_cS_5, e_cV_6, e_cS_6, e_cV_7, e_cS_7, e_swn, e_swc, e_tls, e_tln, gI_sI, gI_sA, gR_sI, gR_sA, gI_sR, gR_sR, hN_sI, hN_sA, hN_sR, isO_sI, isO_sA, isO_sR, isAr_sI, isAr_sA, isAr_sR, hC_sI, hC_sA, hC_sR, hZ_sI, hZ_sA, hZ_sR, MW_sI, MW_sA, true_and, and_true, true_or, or_true, and_self, forall_const, imp_self, implies_true, if_true, if_false, false_and, and_false, false_or, or_false, not_false_eq_true, not_true_eq_false, sI_sI, entA, fitL, List.length_cons, List.length_nil, List.nil_append, List.cons_append, false_imp_iff, true_imp_iff, pn1, pn2, MW_sI, CW_sI, cr_Ho_0 w, cr_Ho_3 w, cr_Ho_4 w, cr_Ho_5 w, cr_Ho_6 w, cr_Ho_7 w, cr_Ho_8 w, cr_Ho_9 w, cr_Ho_13 w, cr_Ho_15 w, cr_Ho_16 w, cr_Ws_0 w, cr_Ss_0 w, cr_Re_0 w, cr_Re_1 w, cr_Re_2 w, cr_Re_3 w, cr_Ta_0 w, cr_Ta_1 w, cr_Ta_2 w, cr_Ta_3 w, cr_Ta_4 w, cr_Ta_5 w, cr_Ta_6 w, cr_Wa_0 w, cr_Wa_2 w, cr_Wa_3 w, cr_Wa_4 w, cr_Wa_5 w, cr_Wa_6 w, cr_Lo_0 w, cr_Lo_1 w, cr_Lo_2 w, cr_Lo_3 w, cr_Lo_4 w, cr_Sh_0 w, cr_Sh_1 w, cr_Sh_2 w, co_Ho w, ca_Ho_tape w, cl_Ho_tape, co_Ws w, co_Ss w, co_Ask w, co_Re w, co_Ta w, co_Fi w, co_Wa w, ca_Ho_told w, cl_Ho_told, co_Lo w, co_Sh w, ca_Ws_e w, cl_Ws_e, ca_Ss_e w, cl_Ss_e, ca_Re_sums w, cl_Re_sums, ca_Re_firsts w, cl_Re_firsts, co_Atom w, co_Raised w, ca_Ta_cells w, cl_Ta_cells, ca_Ta_numbers w, cl_Ta_numbers, ca_Ta_done w, cl_Ta_done, ca_Ta_order w, cl_Ta_order, ca_Ta_spare w, cl_Ta_spare, ca_Ta_parents w, cl_Ta_parents, ca_Ta_melting w, cl_Ta_melting, ca_Wa_queue w, cl_Wa_queue, ca_Wa_origins w, cl_Wa_origins, ca_Wa_vias w, cl_Wa_vias, ca_Wa_lengths w, cl_Wa_lengths, ca_Wa_seen w, cl_Wa_seen, co_Single w, ca_Lo_cells w, cl_Lo_cells, ca_Lo_kept w, cl_Lo_kept, ca_Lo_keptRows w, cl_Lo_keptRows, ca_Lo_names w, cl_Lo_names, ca_Lo_met w, cl_Lo_met, ca_Sh_cells w, cl_Sh_cells, ca_Sh_seen w, cl_Sh_seen, ca_Sh_queue w, cl_Sh_queue, CW_sI, CW_sA]
    refine ⟨0, none, ?_, by omega, by omega⟩
    have : cnN (isE L a) (10 * rwK (gI h pTa 12) (gI h pTa_numbers) (gI h pTa_order) (aS a 0) 0).toNat = cnN (isE L a) 0 := cnN_gap (Nat.zero_le _) (fun j j0 j1 => e0 j (rwK_0 ho hE hN _ (by omega) (by omega)))
    rw [this]
    rfl
/-- NEW -/
theorem TaG_new {F C Nu Dn Od Sp Pa F' C' Nu' Dn' Od' : Int → Int} {L Q s c : Int} {a : AT} (hT : TaG F C Nu Dn Od Sp Pa L a) (hW : WT L Q a) (L2 : L % 2 = 0) (L10 : L ≤ 10) (h3 : F 12 < 300) (hs : lfS Nu s) (c0 : 0 ≤ c) (c1 : c < L) (he : C (10 * s + c) = -2)
    (f12 : F' 12 = F 12 + 1) (f13 : F' 13 = F 13 + 1) (f14 : F' 14 = max (F 14) (F 12 + 1)) (f15 : F' 15 = F 15 + 1) (fj : ∀ j, 8 ≤ j → j < 12 ∨ 16 ≤ j → F' j = F j)
    (hNu : ∀ x, Nu' x = if x = Sp (299 - F 12) then F 15 else Nu x) (hDn : ∀ x, Dn' x = if x = Sp (299 - F 12) then 0 else Dn x) (hOr : ∀ k, Od' k = if k = F 12 then Sp (299 - F 12) else Od k)
    (hC : ∀ j, C' j = if j = 10 * Sp (299 - F 12) + oc c then s else if j = 10 * s + c then Sp (299 - F 12) else if 10 * Sp (299 - F 12) ≤ j ∧ j < 10 * Sp (299 - F 12) + 10 then -2 else C j) : TaG F' C' Nu' Dn' Od' Sp Pa L (newA a (Nu s) c) := by
  obtain ⟨⟨s1, s2, s3, s4, s5, s6, s7, s8, s9, s10, s11, s12⟩, ho, hE, hP⟩ := hT
  obtain ⟨o1, o2, o3, o4, o5, o6⟩ := id ho
  have n0 : 0 ≤ F 12 := by
    have := hW.2.2.2.2.2.1.1
    rw [s2]; omega
  obtain ⟨sl, hsl⟩ : ∃ sl, sl = Sp (299 - F 12) := ⟨_, rfl⟩
  have sp := o4 (299 - F 12) (by omega) (by omega)
  rw [← hsl] at sp hNu hDn hOr hC
  have hN : ∀ x, lfS Nu x → Nu x < F 15 := fun x hx => by rw [s1]; exact (hW.2.1 _ ((hE.1 _).mpr ⟨x, hx, rfl⟩)).2
  have N0 : 0 ≤ F 15 := by have := hW.2.2.2.2.1; rw [s1]; omega
  have ne : ∀ x, lfS Nu x → x ≠ sl := fun x hx e => hx.2.2 (by rw [e]; exact sp.2.2)
  have lf' : ∀ x, lfS Nu' x ↔ (x = sl ∨ lfS Nu x) := by
    intro x
    unfold lfS
    rw [hNu x]
    by_cases e : x = sl
    · rw [if_pos e]; exact ⟨fun _ => Or.inl e, fun _ => ⟨by omega, by omega, by omega⟩⟩
    · rw [if_neg e]; exact ⟨fun z => Or.inr z, fun z => z.resolve_left e⟩
  have nu_old : ∀ x, lfS Nu x → Nu' x = Nu x := fun x hx => by rw [hNu x, if_neg (ne x hx)]
  have nu_new : Nu' sl = F 15 := by rw [hNu sl, if_pos rfl]
  have o := oc_in L2 c0 c1
  refine ⟨⟨?_, ?_, ?_, ?_, ?_, ?_, ?_, ?_, ?_, ?_, ?_, ?_⟩, ⟨fun k k0 k1 => ?_, fun j k j0 jk k1 => ?_, fun x hx => ?_, fun k k0 k1 => ?_, fun j k j0 jk k1 => ?_, ?_⟩, ⟨fun r => ?_, fun x d hx d0 d1 => ?_, fun x hx => ?_⟩, hP.1, fun x x0 x1 => by rw [hDn x]; split; exact Or.inl rfl; exact hP.2 x x0 x1⟩
  · rw [f15, s1]; rfl
  · rw [f12, s2]; rfl
  · rw [f13, s3]; rfl
  · rw [f14, s4, s2]
    show _ = (if aS a 4 < aS a 1 + 1 then aS a 1 + 1 else aS a 4)
    split <;> omega
  · rw [fj 17 (by omega) (by omega), s5]; rfl
  · rw [fj 18 (by omega) (by omega), s6]; rfl
  · rw [fj 16 (by omega) (by omega), s7]; rfl
  · rw [fj 10 (by omega) (by omega), s8]; rfl
  · rw [fj 9 (by omega) (by omega), s9]; rfl
  · rw [fj 8 (by omega) (by omega)]; exact s10
  · intro z; rw [fj 8 (by omega) (by omega)]; exact s11 z
  · rw [fj 11 (by omega) (by omega)]; exact s12
  · rw [f12] at k1
    rw [hOr k]
    by_cases e : k = F 12
    · rw [if_pos e, nu_new]; exact ⟨sp.1, sp.2.1, N0⟩
    · rw [if_neg e, nu_old _ (TgO_lf ho k0 (by omega))]; exact o1 k k0 (by omega)
  · rw [f12] at k1
    rw [hOr k, hOr j, if_neg (show j ≠ F 12 by omega)]
    have lj := TgO_lf ho j0 (show j < F 12 by omega)
    rw [nu_old _ lj]
    by_cases e : k = F 12
    · rw [if_pos e, nu_new]; exact hN _ lj
    · rw [if_neg e, nu_old _ (TgO_lf ho (by omega) (by omega))]; exact o2 j k j0 jk (by omega)
  · rw [f12]
    rcases (lf' x).mp hx with e | hx
    · exact ⟨F 12, n0, by omega, by rw [hOr, if_pos rfl, e]⟩
    · obtain ⟨k, k0, k1, e⟩ := o3 x hx
      exact ⟨k, k0, by omega, by rw [hOr, if_neg (by omega), e]⟩
  · rw [f12] at k1
    have := o4 k k0 (by omega)
    refine ⟨this.1, this.2.1, ?_⟩
    rw [hNu, if_neg ?_]
    · exact this.2.2
    · rw [hsl]
      exact o5 k (299 - F 12) k0 (by omega) (by omega)
  · rw [f12] at k1
    exact o5 j k j0 jk (by omega)
  · rw [nu_old 0 ⟨by omega, by omega, by rw [o6]; decide⟩, o6]
  · show (if r = aS a 0 then (1 : Int) else aV a r) ≠ 0 ↔ _
    constructor
    · intro z
      by_cases e : r = aS a 0
      · exact ⟨sl, (lf' sl).mpr (Or.inl rfl), by rw [nu_new, s1, e]⟩
      · rw [if_neg e] at z
        obtain ⟨x, x1, x2⟩ := (hE.1 r).mp z
        exact ⟨x, (lf' x).mpr (Or.inr x1), by rw [nu_old x x1, x2]⟩
    · rintro ⟨x, x1, x2⟩
      rcases (lf' x).mp x1 with e | x1
      · rw [if_pos (by rw [← x2, e, nu_new, s1])]; decide
      · rw [nu_old x x1] at x2
        split
        · decide
        · exact (hE.1 r).mpr ⟨x, x1, x2⟩
  · show (C' (10 * x + d) = -2 ∧ putE (aE a) (Nu s) c (aS a 0) (Nu' x) d = -2) ∨ (lfS Nu' (C' (10 * x + d)) ∧ putE (aE a) (Nu s) c (aS a 0) (Nu' x) d = Nu' (C' (10 * x + d)))
    rw [hC]
    rcases (lf' x).mp hx with e | hx
    · rw [e, nu_new]
      by_cases q : d = oc c
      · rw [if_pos (by omega), q, s1, putE_1]
        exact Or.inr ⟨(lf' s).mpr (Or.inr hs), (nu_old s hs).symm⟩
      · have hne : sl ≠ s := fun z => ne s hs z.symm
        rw [if_neg (by omega), if_neg (by omega), if_pos (by omega)]
        refine Or.inl ⟨rfl, ?_⟩
        rw [putE_3 (fun z => q z.2) (fun z => by have := hN s hs; omega)]
        exact hW.2.2.1 _ _ (fun z => by have := (hW.2.1 _ z.1).2; omega)
    · have hne := ne x hx
      rw [if_neg (by omega), nu_old x hx]
      have hlt := hN x hx
      by_cases q : x = s ∧ d = c
      · rw [if_pos (by omega), q.1, q.2, putE_2]
        exact Or.inr ⟨(lf' sl).mpr (Or.inl rfl), by rw [nu_new, s1]⟩
      · rw [if_neg (by omega), if_neg (by omega), putE_3 (fun z => by omega) (fun z => q ⟨TgO_inj ho hx hs z.1, z.2⟩)]
        rcases hE.2.1 x d hx d0 d1 with z | ⟨z1, z2⟩
        · exact Or.inl z
        · exact Or.inr ⟨(lf' _).mpr (Or.inr z1), by rw [nu_old _ z1]; exact z2⟩
  · show Dn' x = aD a (Nu' x)
    rcases (lf' x).mp hx with e | hx
    · rw [e, hDn, if_pos rfl, nu_new]
      apply Eq.symm
      apply Classical.byContradiction
      intro z
      have := (hW.2.1 _ (hW.2.2.2.1 _ z).2).2
      omega
    · rw [hDn, if_neg (ne x hx), nu_old x hx]; exact hE.2.2 x hx
/-- PACK -/
theorem TaG_pk {F C Nu Dn Od Sp Pa F' Nu' : Int → Int} {L Q : Int} {a : AT} (hT : TaG F C Nu Dn Od Sp Pa L a) (hW : WT L Q a) (f15 : F' 15 = F 12) (f16 : F' 16 = F 16 + 1) (f8 : F' 8 = 0) (fj : ∀ j, 9 ≤ j → j < 15 ∨ 17 ≤ j → F' j = F j)
    (hNu : ∀ k, 0 ≤ k → k < F 12 → Nu' (Od k) = k) (hNo : ∀ s, (∀ k, 0 ≤ k → k < F 12 → Od k ≠ s) → Nu' s = Nu s) : TaG F' C Nu' Dn Od Sp Pa L (pkA a) := by
  obtain ⟨⟨s1, s2, s3, s4, s5, s6, s7, s8, s9, s10, s11, s12⟩, ho, hE, hP⟩ := hT
  obtain ⟨o1, o2, o3, o4, o5, o6⟩ := id ho
  have lf : ∀ x, lfS Nu' x ↔ lfS Nu x := by
    intro x
    by_cases z : ∃ k, 0 ≤ k ∧ k < F 12 ∧ Od k = x
    · obtain ⟨k, k0, k1, rfl⟩ := z
      refine ⟨fun _ => TgO_lf ho k0 k1, fun y => ⟨y.1, y.2.1, ?_⟩⟩
      rw [hNu k k0 k1]; omega
    · unfold lfS
      rw [hNo x (fun k k0 k1 e => z ⟨k, k0, k1, e⟩)]
  have rk' : ∀ k, 0 ≤ k → k < F 12 → rk a (Nu (Od k)) = k ∧ un a k = Nu (Od k) := by
    intro k k0 k1
    have e := TaG_rk ho hE k0 k1
    have hv : VV a (Nu (Od k)) := (hE.1 _).mpr ⟨_, TgO_lf ho k0 k1, rfl⟩
    have u := (rk_un hW hv).2.2
    have e' : rk a (Nu (Od k)) = k := e
    rw [e'] at u
    exact ⟨e', u⟩
  have f12 := fj 12 (by omega) (by omega)
  have z0 : ∃ k, 0 ≤ k ∧ k < F 12 ∧ Od k = 0 := o3 0 ⟨by omega, by omega, by rw [o6]; decide⟩
  refine ⟨⟨?_, ?_, ?_, ?_, ?_, ?_, ?_, ?_, ?_, ?_, ?_, ?_⟩, ⟨fun k k0 k1 => ?_, fun j k j0 jk k1 => ?_, fun x hx => ?_, fun k k0 k1 => ?_, fun j k j0 jk k1 => ?_, ?_⟩, ⟨fun r => ?_, fun x d hx d0 d1 => ?_, fun x hx => ?_⟩, hP⟩
  · rw [f15, s2]; rfl
  · rw [f12, s2]; rfl
  · rw [fj 13 (by omega) (by omega), s3]; rfl
  · rw [fj 14 (by omega) (by omega), s4]; rfl
  · rw [fj 17 (by omega) (by omega), s5]; rfl
  · rw [fj 18 (by omega) (by omega), s6]; rfl
  · rw [f16, s7]; rfl
  · rw [fj 10 (by omega) (by omega), s8]; rfl
  · rw [fj 9 (by omega) (by omega), s9]; rfl
  · exact Or.inl f8
  · intro _
    rw [f8]
    show _ ↔ (0 : Int) < 0
    omega
  · rw [fj 11 (by omega) (by omega)]; exact s12
  · rw [f12] at k1
    rw [hNu k k0 k1]
    have := o1 k k0 k1
    exact ⟨this.1, this.2.1, k0⟩
  · rw [f12] at k1
    rw [hNu j j0 (by omega), hNu k (by omega) k1]; exact jk
  · rw [f12]; exact o3 x ((lf x).mp hx)
  · rw [f12] at k1
    have := o4 k k0 k1
    refine ⟨this.1, this.2.1, ?_⟩
    rw [hNo _ (fun j j0 j1 e => ?_)]
    · exact this.2.2
    · have := (TgO_lf ho j0 j1).2.2
      rw [e] at this
      omega
  · rw [f12] at k1; exact o5 j k j0 jk k1
  · obtain ⟨k, k0, k1, e⟩ := z0
    have hk : k = 0 := by
      apply Classical.byContradiction
      intro z
      have := o2 0 k (by omega) (by omega) k1
      rw [e, o6] at this
      have := (o1 0 (by omega) (by omega)).2.2
      omega
    have := hNu k k0 k1
    rw [e, hk] at this
    exact this
  · show (if 0 ≤ r ∧ r < aS a 1 then (1 : Int) else 0) ≠ 0 ↔ _
    constructor
    · intro z
      have y : 0 ≤ r ∧ r < F 12 := by
        rw [s2]
        apply Classical.byContradiction
        intro x
        exact z (if_neg x)
      exact ⟨Od r, (lf _).mpr (TgO_lf ho y.1 y.2), hNu r y.1 y.2⟩
    · rintro ⟨x, x1, x2⟩
      obtain ⟨k, k0, k1, rfl⟩ := o3 x ((lf x).mp x1)
      rw [hNu k k0 k1] at x2
      rw [← x2, ← s2, if_pos ⟨k0, k1⟩]
      decide
  · obtain ⟨k, k0, k1, rfl⟩ := o3 x ((lf x).mp hx)
    obtain ⟨r1, r2⟩ := rk' k k0 k1
    show (C (10 * Od k + d) = -2 ∧ (if 0 ≤ Nu' (Od k) ∧ Nu' (Od k) < aS a 1 then (if aE a (un a (Nu' (Od k))) d = -2 then -2 else rk a (aE a (un a (Nu' (Od k))) d)) else -2) = -2) ∨ (lfS Nu' (C (10 * Od k + d)) ∧ (if 0 ≤ Nu' (Od k) ∧ Nu' (Od k) < aS a 1 then (if aE a (un a (Nu' (Od k))) d = -2 then -2 else rk a (aE a (un a (Nu' (Od k))) d)) else -2) = Nu' (C (10 * Od k + d)))
    rw [hNu k k0 k1, ← s2, if_pos ⟨k0, k1⟩, r2]
    rcases hE.2.1 _ d ((lf _).mp hx) d0 d1 with ⟨q1, q2⟩ | ⟨q1, q2⟩
    · exact Or.inl ⟨q1, by rw [if_pos q2]⟩
    · obtain ⟨j, j0, j1, e⟩ := o3 _ q1
      have n0 := TgO_num ho q1
      refine Or.inr ⟨(lf _).mpr q1, ?_⟩
      rw [if_neg (by omega), q2, ← e, (rk' j j0 j1).1, hNu j j0 j1]
  · obtain ⟨k, k0, k1, rfl⟩ := o3 x ((lf x).mp hx)
    obtain ⟨r1, r2⟩ := rk' k k0 k1
    show Dn (Od k) = if (0 ≤ Nu' (Od k) ∧ Nu' (Od k) < aS a 1) ∧ aD a (un a (Nu' (Od k))) ≠ 0 then 1 else 0
    rw [hNu k k0 k1, ← s2, r2, hE.2.2 _ ((lf _).mp hx)]
    by_cases z : aD a (Nu (Od k)) ≠ 0
    · rw [if_pos ⟨⟨k0, k1⟩, z⟩]; exact (hW.2.2.2.1 _ z).1
    · rw [if_neg (fun y => z y.2)]; exact Classical.byContradiction z
