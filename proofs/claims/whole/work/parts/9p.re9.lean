/-! THE COMPONENT: Reader: read -/
def Prq (b : Nat) (j : Int) : Prop := Prr b j ∨ (b = pRe ∧ (j = 5 ∨ j = 7))
def rdO (h h' : PH) (n m v : Int) : Prop := ∀ R, R = rsR (chR h n) n m bB (rs0 0) → (R.1 = -1 → v = 1 ∧ WR h' pSum0 (rpl R.2.2 0) ∧ rdI (rpl R.2.2 0) ∧ gI h' pRe 9 = 0 ∧ gI h' pRe 10 = -1) ∧ (R.1 ≠ -1 → v = 0 ∧ gI h' pRe 9 = R.1 ∧ gI h' pRe 10 = R.2.1)
def Ct_Re_read : CtT := fun av h post => match av with
  | [.inr (.inl (some p)), .inr (.inl (some q)), .inl n, .inl m] => p = pRe ∧ q = pHo_tape ∧ CW h ∧ 0 ≤ n ∧ n ≤ 400 ∧ 1 ≤ m ∧ m ≤ 5 ∧ ∀ h' v, FrQ Prq h h' → rdO h h' n m v → (v = 0 ∨ v = 1) → post (some (.inl v)) h'
  | _ => False
theorem ce_Re_read {p : Nat} {q : Nat} {n : Int} {m : Int} {h : PH} {post : TR} : Ct_Re_read [.inr (.inl (some p)), .inr (.inl (some q)), .inl n, .inl m] h post = (p = pRe ∧ q = pHo_tape ∧ CW h ∧ 0 ≤ n ∧ n ≤ 400 ∧ 1 ≤ m ∧ m ≤ 5 ∧ ∀ h' v, FrQ Prq h h' → rdO h h' n m v → (v = 0 ∨ v = 1) → post (some (.inl v)) h') := rfl
def B_Re_read_71 : TT := tt_zr
theorem E_Re_read_71 {K : TK} {R : TR} {ls : LSt} {st : List PV} {h : PH} : B_Re_read_71 K R ls st h = tt_zr K R ls st h := rfl
theorem S_Re_read_71 (lc lz : Nat) : Snd md_Re_read lc lz 71 (B_Re_read_71) := (snd_zr (dget dd_Re_read 39 rfl) rfl)
def B_Re_read_70 : TT := (tt_ci 0 (B_Re_read_71))
theorem E_Re_read_70 {K : TK} {R : TR} {ls : LSt} {st : List PV} {h : PH} : B_Re_read_70 K R ls st h = (tt_ci 0 (B_Re_read_71)) K R ls st h := rfl
theorem S_Re_read_70 (lc lz : Nat) : Snd md_Re_read lc lz 70 (B_Re_read_70) := (snd_iconst (n := 0) (dget dd_Re_read 38 rfl) (inR_d rfl) rfl (S_Re_read_71 lc lz))
def B_Re_read_66 : TT := (tt_ci 1 (B_Re_read_71))
theorem E_Re_read_66 {K : TK} {R : TR} {ls : LSt} {st : List PV} {h : PH} : B_Re_read_66 K R ls st h = (tt_ci 1 (B_Re_read_71)) K R ls st h := rfl
theorem S_Re_read_66 (lc lz : Nat) : Snd md_Re_read lc lz 66 (B_Re_read_66) := (snd_iconst (n := 1) (dget dd_Re_read 36 rfl) (inR_d rfl) rfl (snd_goto (tg := 71) (dget dd_Re_read 37 rfl) rfl (S_Re_read_71 lc lz)))
def B_Re_read_0 : TT := (tt_al 0 (tt_al 1 (tt_pR 2 4 (tt_al 0 (tt_il 2 (tt_al 1 (tt_len 1 (tt_min (tt_pI 2 5 (tt_al 0 (tt_il 3 (tt_pI 2 7 (tt_al 0 (tt_ci 0 (tt_pI 2 6 (tt_al 0 (tt_ci 0 (tt_pI 2 9 (tt_al 0 (tt_ci (-1) (tt_pI 2 10 (tt_al 0 (tt_ci 0 (tt_cV 2 2 (Ct_Re_readWord 60) (tt_zeq (B_Re_read_70) (tt_al 0 (tt_gI 2 6 (tt_al 0 (tt_gI 2 5 (tt_cge (B_Re_read_66) (tt_al 0 (tt_ci 1 (tt_al 0 (tt_gI 2 6 (tt_cV 2 3 Ct_Re_stop (tt_zeq (B_Re_read_70) (B_Re_read_66)))))))))))))))))))))))))))))))))))))
theorem E_Re_read_0 {K : TK} {R : TR} {ls : LSt} {st : List PV} {h : PH} : B_Re_read_0 K R ls st h = (tt_al 0 (tt_al 1 (tt_pR 2 4 (tt_al 0 (tt_il 2 (tt_al 1 (tt_len 1 (tt_min (tt_pI 2 5 (tt_al 0 (tt_il 3 (tt_pI 2 7 (tt_al 0 (tt_ci 0 (tt_pI 2 6 (tt_al 0 (tt_ci 0 (tt_pI 2 9 (tt_al 0 (tt_ci (-1) (tt_pI 2 10 (tt_al 0 (tt_ci 0 (tt_cV 2 2 (Ct_Re_readWord 60) (tt_zeq (B_Re_read_70) (tt_al 0 (tt_gI 2 6 (tt_al 0 (tt_gI 2 5 (tt_cge (B_Re_read_66) (tt_al 0 (tt_ci 1 (tt_al 0 (tt_gI 2 6 (tt_cV 2 3 Ct_Re_stop (tt_zeq (B_Re_read_70) (B_Re_read_66))))))))))))))))))))))))))))))))))))) K R ls st h := rfl
theorem S_Re_read_0 (lc lz : Nat) : Snd md_Re_read lc lz 0 (B_Re_read_0) := (snd_al_n (n := 0) (dget dd_Re_read 0 rfl) rfl (snd_al_n (n := 1) (dget dd_Re_read 1 rfl) rfl (snd_pR (kn := 4) fd_Re_30 rfl (dget dd_Re_read 2 rfl) (snd_al_n (n := 0) (dget dd_Re_read 3 rfl) rfl (snd_il_n (n := 2) (dget dd_Re_read 4 rfl) rfl (snd_al_n (n := 1) (dget dd_Re_read 5 rfl) rfl (snd_len (t := 1) (by decide) (dget dd_Re_read 6 rfl) inR_ln (snd_min (dget dd_Re_read 7 rfl) ml_Re_53 kmin_s kmath kmin_c (by decide) (snd_pI (kn := 5) fd_Re_34 rfl (dget dd_Re_read 8 rfl) (snd_al_n (n := 0) (dget dd_Re_read 9 rfl) rfl (snd_il_n (n := 3) (dget dd_Re_read 10 rfl) rfl (snd_pI (kn := 7) fd_Re_41 rfl (dget dd_Re_read 11 rfl) (snd_al_n (n := 0) (dget dd_Re_read 12 rfl) rfl (snd_iconst (n := 0) (dget dd_Re_read 13 rfl) (inR_d rfl) rfl (snd_pI (kn := 6) fd_Re_38 rfl (dget dd_Re_read 14 rfl) (snd_al_n (n := 0) (dget dd_Re_read 15 rfl) rfl (snd_iconst (n := 0) (dget dd_Re_read 16 rfl) (inR_d rfl) rfl (snd_pI (kn := 9) fd_Re_47 rfl (dget dd_Re_read 17 rfl) (snd_al_n (n := 0) (dget dd_Re_read 18 rfl) rfl (snd_iconst (n := -1) (dget dd_Re_read 19 rfl) (inR_d rfl) rfl (snd_pI (kn := 10) fd_Re_50 rfl (dget dd_Re_read 20 rfl) (snd_al_n (n := 0) (dget dd_Re_read 21 rfl) rfl (snd_iconst (n := 0) (dget dd_Re_read 22 rfl) (inR_d rfl) rfl (snd_cV (n := 1) (met_Re_readWord 60) (mi_Re_readWord _) ki_Re_readWord kv_Re_readWord ml_Re_59 rfl (by decide) (dget dd_Re_read 23 rfl) (snd_zeq (tg := 70) (dget dd_Re_read 24 rfl) rfl (S_Re_read_70 lc lz) (snd_al_n (n := 0) (dget dd_Re_read 25 rfl) rfl (snd_gI (kn := 6) fd_Re_38 rfl (dget dd_Re_read 26 rfl) (snd_al_n (n := 0) (dget dd_Re_read 27 rfl) rfl (snd_gI (kn := 5) fd_Re_34 rfl (dget dd_Re_read 28 rfl) (snd_cge (tg := 66) (dget dd_Re_read 29 rfl) rfl (S_Re_read_66 lc lz) (snd_al_n (n := 0) (dget dd_Re_read 30 rfl) rfl (snd_iconst (n := 1) (dget dd_Re_read 31 rfl) (inR_d rfl) rfl (snd_al_n (n := 0) (dget dd_Re_read 32 rfl) rfl (snd_gI (kn := 6) fd_Re_38 rfl (dget dd_Re_read 33 rfl) (snd_cV (n := 2) met_Re_stop mi_Re_stop ki_Re_stop kv_Re_stop ml_Re_63 rfl (by decide) (dget dd_Re_read 34 rfl) (snd_zeq (tg := 70) (dget dd_Re_read 35 rfl) rfl (S_Re_read_70 lc lz) (S_Re_read_66 lc lz)))))))))))))))))))))))))))))))))))))
theorem met_Re_read : MetP y_Re_read md_Re_read (fun _ => 0) (fun _ => 0) Ct_Re_read := by
  refine met0 (body := B_Re_read_0) (by decide) rfl rfl (fun lc lz => S_Re_read_0 lc lz) ?_
  intro av h post hc hH hav
  unfold Ct_Re_read at hc
  split at hc
  rotate_left
  · exact hc.elim
  rename_i p q n m
  obtain ⟨rfl, rfl, w, n0, n4, m1, m5, hp⟩ := hc
  refine ⟨Nat.le_of_ble_eq_true rfl, ?_⟩
  have mN : min n 400 = n := by omega
  obtain ⟨hA, eA⟩ : ∃ hA, hA = sI (sI (sI (sI (sI (sR h pRe 4 (some pHo_tape)) pRe 5 n) pRe 7 m) pRe 6 0) pRe 9 0) pRe 10 (-1) := ⟨_, rfl⟩
  have fA : FrQ Prq h hA := by
    rw [eA]
    refine FrQ_sI ?_ (FrQ_sI ?_ (FrQ_sI ?_ (FrQ_sI ?_ (FrQ_sI ?_ (FrQ_sR ?_ (FrQ_refl _ h))))))
    · exact Or.inl (Or.inl ⟨rfl, Or.inr (Or.inr (Or.inr rfl))⟩)
    · exact Or.inl (Or.inl ⟨rfl, Or.inr (Or.inr (Or.inl rfl))⟩)
    · exact Or.inl (Or.inl ⟨rfl, Or.inl rfl⟩)
    · exact Or.inr ⟨rfl, Or.inr rfl⟩
    · exact Or.inr ⟨rfl, Or.inl rfl⟩
    · exact Or.inr (Or.inl ⟨rfl, rfl⟩)
  have wA := FrQ_CW fA w
  have rcA : rC hA n m := by
    refine ⟨wA, ?_, ?_, n0, n4, ?_, m1, m5⟩
    · rw [eA]; simp (decide := true) only [gR_sI, gR_sR, if_true]
    · rw [eA]; rfl
    · rw [eA]; rfl
  have ecA : chR hA n = chR h n := by
    unfold chR
    rw [FrQ_arr fA (b := pHo_tape) (fun j z => by unfold Prq Prr at z; simp (decide := true) at z)]
  obtain ⟨ch, hch⟩ : ∃ ch, ch = chR h n := ⟨_, rfl⟩
  have hcE : ∀ j, n ≤ j → ch j = -1 := fun j hj => by rw [hch]; exact chR_end hj
  simp (decide := true) only [↓E_Re_read_0, ↓E_Re_read_66, ↓E_Re_read_70, ↓E_Re_read_71, ↓ce_Re_readWord, ↓ce_Re_stop, ↓e_ci, ↓e_cl, ↓e_nul, ↓e_add, ↓e_sub, ↓e_mul, ↓e_ladd, ↓e_lmul, ↓e_div, ↓e_rem, ↓e_ldiv, ↓e_lrem, ↓e_zeq, ↓e_zne, ↓e_zlt, ↓e_zge, ↓e_zgt, ↓e_zle, ↓e_ceq, ↓e_cne, ↓e_clt, ↓e_cge, ↓e_cgt, ↓e_cle, ↓e_nn, ↓e_gI, ↓e_gR, ↓e_pI, ↓e_pZ, ↓e_pR, ↓e_ia, ↓e_ba, ↓e_za, ↓e_iS, ↓e_bS, ↓e_zS, ↓e_aa, ↓e_aS, ↓e_len, ↓e_and, ↓e_xor, ↓e_shr, ↓e_ushr, ↓e_lcmp, ↓e_i2b, ↓e_i2l, ↓e_l2i, ↓e_sw, ↓e_min, ↓e_max, ↓e_acp, ↓e_il_0, ↓e_al_0, ↓e_ll_0, ↓e_is_0n, ↓e_as_0n, ↓e_ls_0n, ↓e_inc_0n, ↓e_il_1, ↓e_al_1, ↓e_ll_1, ↓e_is_1i, ↓e_as_1i, ↓e_ls_1i, ↓e_inc_1i, ↓e_is_1o, ↓e_as_1o, ↓e_ls_1o, ↓e_inc_1o, ↓e_is_1n, ↓e_as_1n, ↓e_ls_1n, ↓e_inc_1n, ↓e_il_2, ↓e_al_2, ↓e_ll_2, ↓e_is_2i, ↓e_as_2i, ↓e_ls_2i, ↓e_inc_2i, ↓e_is_2o, ↓e_as_2o, ↓e_ls_2o, ↓e_inc_2o, ↓e_is_2n, ↓e_as_2n, ↓e_ls_2n, ↓e_inc_2n, ↓e_il_3, ↓e_al_3, ↓e_ll_3, ↓e_is_3i, ↓e_as_3i, ↓e_ls_3i, ↓e_inc_3i, ↓e_is_3o, ↓e_as_3o, ↓e_ls_3o, ↓e_inc_3o, ↓e_is_3n, ↓e_as_3n, ↓e_ls_3n, ↓e_inc_3n, ↓e_il_4, ↓e_al_4, ↓e_ll_4, ↓e_is_4i, ↓e_as_4i, ↓e_ls_4i, ↓e_inc_4i, ↓e_is_4o, ↓e_as_4o, ↓e_ls_4o, ↓e_inc_4o, ↓e_is_4n, ↓e_as_4n, ↓e_ls_4n, ↓e_inc_4n, ↓e_il_5, ↓e_al_5, ↓e_ll_5, ↓e_is_5i, ↓e_as_5i, ↓e_ls_5i, ↓e_inc_5i, ↓e_is_5o, ↓e_as_5o, ↓e_ls_5o, ↓e_inc_5o, ↓e_is_5n, ↓e_as_5n, ↓e_ls_5n, ↓e_inc_5n, ↓e_il_6, ↓e_al_6, ↓e_ll_6, ↓e_is_6i, ↓e_as_6i, ↓e_ls_6i, ↓e_inc_6i, ↓e_is_6o, ↓e_as_6o, ↓e_ls_6o, ↓e_inc_6o, ↓e_is_6n, ↓e_as_6n, ↓e_ls_6n, ↓e_inc_6n, ↓e_il_7, ↓e_al_7, ↓e_ll_7, ↓e_is_7i, ↓e_as_7i, ↓e_ls_7i, ↓e_inc_7i, ↓e_is_7o, ↓e_as_7o, ↓e_ls_7o, ↓e_inc_7o, ↓e_is_7n, ↓e_as_7n, ↓e_ls_7n, ↓e_inc_7n, ↓e_il_8, ↓e_al_8, ↓e_ll_8, ↓e_is_8i, ↓e_as_8i, ↓e_ls_8i, ↓e_inc_8i, ↓e_is_8o, ↓e_as_8o, ↓e_ls_8o, ↓e_inc_8o, ↓e_is_8n, ↓e_as_8n, ↓e_ls_8n, ↓e_inc_8n, ↓e_il_9, ↓e_al_9, ↓e_ll_9, ↓e_is_9i, ↓e_as_9i, ↓e_ls_9i, ↓e_inc_9i, ↓e_is_9o, ↓e_as_9o, ↓e_ls_9o, ↓e_inc_9o, ↓e_is_9n, ↓e_as_9n, ↓e_ls_9n, ↓e_inc_9n, ↓e_il_10, ↓e_al_10, ↓e_ll_10, ↓e_is_10i, ↓e_as_10i, ↓e_ls_10i, ↓e_inc_10i, ↓e_is_10o, ↓e_as_10o, ↓e_ls_10o, ↓e_inc_10o, ↓e_is_10n, ↓e_as_10n, ↓e_ls_10n, ↓e_inc_10n, ↓e_il_11, ↓e_al_11, ↓e_ll_11, ↓e_is_11i, ↓e_as_11i, ↓e_ls_11i, ↓e_inc_11i, ↓e_is_11o, ↓e_as_11o, ↓e_ls_11o, ↓e_inc_11o, ↓e_is_11n, ↓e_as_11n, ↓e_ls_11n, ↓e_inc_11n, ↓e_il_12, ↓e_al_12, ↓e_ll_12, ↓e_is_12i, ↓e_as_12i, ↓e_ls_12i, ↓e_inc_12i, ↓e_is_12o, ↓e_as_12o, ↓e_ls_12o, ↓e_inc_12o, ↓e_is_12n, ↓e_as_12n, ↓e_ls_12n, ↓e_inc_12n, ↓e_dup_i, ↓e_pop_i, ↓e_dup2_ii, ↓e_dup2_io, ↓e_dup_o, ↓e_pop_o, ↓e_dup2_oi, ↓e_dup2_oo, ↓e_ir, ↓e_zr, ↓e_br, ↓e_lr, ↓e_ar, ↓e_vr, ↓e_cut, ↓e_cS_0, ↓e_cV_1, ↓e_cS_1, ↓e_cV_2, ↓e_cS_2, ↓e_cV_3, ↓e_cS_3, ↓e_cV_4, ↓e_cS_4, ↓e_cV_5, ↓e_cS_5, ↓e_cV_6, ↓e_cS_6, ↓e_cV_7, ↓e_cS_7, ↓e_swn, ↓e_swc, ↓e_tls, ↓e_tln, E_Re_read_0, E_Re_read_66, E_Re_read_70, E_Re_read_71, ce_Re_readWord, ce_Re_stop, e_ci, e_cl, e_nul, e_add, e_sub, e_mul, e_ladd, e_lmul, e_div, e_rem, e_ldiv, e_lrem, e_zeq, e_zne, e_zlt, e_zge, e_zgt, e_zle, e_ceq, e_cne, e_clt, e_cge, e_cgt, e_cle, e_nn, e_gI, e_gR, e_pI, e_pZ, e_pR, e_ia, e_ba, e_za, e_iS, e_bS, e_zS, e_aa, e_aS, e_len, e_and, e_xor, e_shr, e_ushr, e_lcmp, e_i2b, e_i2l, e_l2i, e_sw, e_min, e_max, e_acp, e_il_0, e_al_0, e_ll_0, e_is_0n, e_as_0n, e_ls_0n, e_inc_0n, e_il_1, e_al_1, e_ll_1, e_is_1i, e_as_1i, e_ls_1i, e_inc_1i, e_is_1o, e_as_1o, e_ls_1o, e_inc_1o, e_is_1n, e_as_1n, e_ls_1n, e_inc_1n, e_il_2, e_al_2, e_ll_2, e_is_2i, e_as_2i, e_ls_2i, e_inc_2i, e_is_2o, e_as_2o, e_ls_2o, e_inc_2o, e_is_2n, e_as_2n, e_ls_2n, e_inc_2n, e_il_3, e_al_3, e_ll_3, e_is_3i, e_as_3i, e_ls_3i, e_inc_3i, e_is_3o, e_as_3o, e_ls_3o, e_inc_3o, e_is_3n, e_as_3n, e_ls_3n, e_inc_3n, e_il_4, e_al_4, e_ll_4, e_is_4i, e_as_4i, e_ls_4i, e_inc_4i, e_is_4o, e_as_4o, e_ls_4o, e_inc_4o, e_is_4n, e_as_4n, e_ls_4n, e_inc_4n, e_il_5, e_al_5, e_ll_5, e_is_5i, e_as_5i, e_ls_5i, e_inc_5i, e_is_5o, e_as_5o, e_ls_5o, e_inc_5o, e_is_5n, e_as_5n, e_ls_5n, e_inc_5n, e_il_6, e_al_6, e_ll_6, e_is_6i, e_as_6i, e_ls_6i, e_inc_6i, e_is_6o, e_as_6o, e_ls_6o, e_inc_6o, e_is_6n, e_as_6n, e_ls_6n, e_inc_6n, e_il_7, e_al_7, e_ll_7, e_is_7i, e_as_7i, e_ls_7i, e_inc_7i, e_is_7o, e_as_7o, e_ls_7o, e_inc_7o, e_is_7n, e_as_7n, e_ls_7n, e_inc_7n, e_il_8, e_al_8, e_ll_8, e_is_8i, e_as_8i, e_ls_8i, e_inc_8i, e_is_8o, e_as_8o, e_ls_8o, e_inc_8o, e_is_8n, e_as_8n, e_ls_8n, e_inc_8n, e_il_9, e_al_9, e_ll_9, e_is_9i, e_as_9i, e_ls_9i, e_inc_9i, e_is_9o, e_as_9o, e_ls_9o, e_inc_9o, e_is_9n, e_as_9n, e_ls_9n, e_inc_9n, e_il_10, e_al_10, e_ll_10, e_is_10i, e_as_10i, e_ls_10i, e_inc_10i, e_is_10o, e_as_10o, e_ls_10o, e_inc_10o, e_is_10n, e_as_10n, e_ls_10n, e_inc_10n, e_il_11, e_al_11, e_ll_11, e_is_11i, e_as_11i, e_ls_11i, e_inc_11i, e_is_11o, e_as_11o, e_ls_11o, e_inc_11o, e_is_11n, e_as_11n, e_ls_11n, e_inc_11n, e_il_12, e_al_12, e_ll_12, e_is_12i, e_as_12i, e_ls_12i, e_inc_12i, e_is_12o, e_as_12o, e_ls_12o, e_inc_12o, e_is_12n, e_as_12n, e_ls_12n, e_inc_12n, e_dup_i, e_pop_i, e_dup2_ii, e_dup2_io, e_dup_o, e_pop_o, e_dup2_oi, e_dup2_oo, e_ir, e_zr, e_br, e_lr, e_ar, e_vr, e_cut, e_cS_0, e_cV_1, e_cS_1, e_cV_2, e_cS_2, e_cV_3, e_cS_3, e_cV_4, e_cS_4, e_cV_5, e_cS_5, e_cV_6, e_cS_6, e_cV_7, e_cS_7, e_swn, e_swc, e_tls, e_tln, gI_sI, gI_sA, gR_sI, gR_sA, gI_sR, gR_sR, hN_sI, hN_sA, hN_sR, isO_sI, isO_sA, isO_sR, isAr_sI, isAr_sA, isAr_sR, hC_sI, hC_sA, hC_sR, hZ_sI, hZ_sA, hZ_sR, MW_sI, MW_sA, true_and, and_true, true_or, or_true, and_self, forall_const, imp_self, implies_true, if_true, if_false, false_and, and_false, false_or, or_false, not_false_eq_true, not_true_eq_false, sI_sI, entA, fitL, List.length_cons, List.length_nil, List.nil_append, List.cons_append, false_imp_iff, true_imp_iff, pn1, pn2, MW_sI, CW_sI, cr_Ho_0 w, cr_Ho_3 w, cr_Ho_4 w, cr_Ho_5 w, cr_Ho_6 w, cr_Ho_7 w, cr_Ho_8 w, cr_Ho_9 w, cr_Ho_13 w, cr_Ho_15 w, cr_Ho_16 w, cr_Ws_0 w, cr_Ss_0 w, cr_Re_0 w, cr_Re_1 w, cr_Re_2 w, cr_Re_3 w, cr_Ta_0 w, cr_Ta_1 w, cr_Ta_2 w, cr_Ta_3 w, cr_Ta_4 w, cr_Ta_5 w, cr_Ta_6 w, cr_Wa_0 w, cr_Wa_2 w, cr_Wa_3 w, cr_Wa_4 w, cr_Wa_5 w, cr_Wa_6 w, cr_Lo_0 w, cr_Lo_1 w, cr_Lo_2 w, cr_Lo_3 w, cr_Lo_4 w, cr_Sh_0 w, cr_Sh_1 w, cr_Sh_2 w, co_Ho w, ca_Ho_tape w, cl_Ho_tape, co_Ws w, co_Ss w, co_Ask w, co_Re w, co_Ta w, co_Fi w, co_Wa w, ca_Ho_told w, cl_Ho_told, co_Lo w, co_Sh w, ca_Ws_e w, cl_Ws_e, ca_Ss_e w, cl_Ss_e, ca_Re_sums w, cl_Re_sums, ca_Re_firsts w, cl_Re_firsts, co_Atom w, co_Raised w, ca_Ta_cells w, cl_Ta_cells, ca_Ta_numbers w, cl_Ta_numbers, ca_Ta_done w, cl_Ta_done, ca_Ta_order w, cl_Ta_order, ca_Ta_spare w, cl_Ta_spare, ca_Ta_parents w, cl_Ta_parents, ca_Ta_melting w, cl_Ta_melting, ca_Wa_queue w, cl_Wa_queue, ca_Wa_origins w, cl_Wa_origins, ca_Wa_vias w, cl_Wa_vias, ca_Wa_lengths w, cl_Wa_lengths, ca_Wa_seen w, cl_Wa_seen, co_Single w, ca_Lo_cells w, cl_Lo_cells, ca_Lo_kept w, cl_Lo_kept, ca_Lo_keptRows w, cl_Lo_keptRows, ca_Lo_names w, cl_Lo_names, ca_Lo_met w, cl_Lo_met, ca_Sh_cells w, cl_Sh_cells, ca_Sh_seen w, cl_Sh_seen, ca_Sh_queue w, cl_Sh_queue, CW_sI, CW_sA, mN]
  rw [← eA]
  refine ⟨fun x hx => by cases hx; exact (ca_Ho_tape w).1, n, m, 0, rs0 0, rfl, by omega, rcA, rfl, rfl, rfl, Int.le_refl _, n0, rfl, fun i hi => absurd hi (Nat.not_lt_zero i), fun z => absurd (show (0 : Int) = 3 from z) (by decide), by omega, fun h1 v f1 o => ?_⟩
  unfold wdO at o
  rw [ecA, ← hch] at o
  have f2 : FrQ Prq h h1 := FrQ_trans fA (FrQ_mono (fun _ _ z => Or.inl z) (FrQ_of f1))
  have w1 := FrQ_CW f2 w
  have rc1 := rC_fr f1 rcA
  refine ⟨fun v0 => ?_, fun v0 => ?_⟩
  · obtain ⟨-, t, t1, t2, t3, t4, t5⟩ := o.resolve_left (fun z => by rw [v0] at z; exact absurd z.1 (by decide))
    refine ⟨hp h1 0 f2 (fun R hR => ?_) (Or.inl rfl), f2.2.2.2.1, f2.2.2.2.2⟩
    rw [← hch, rsR_all hcE m1 m5 n0 n4 t1 t2] at hR
    rw [hR]
    exact ⟨fun z => absurd z t3, fun _ => ⟨rfl, t4, t5⟩⟩
  · obtain ⟨-, s', y1, y2, y3, y4, y5, y6, y7, y8, y9, y10, y11⟩ := o.resolve_right (fun z => v0 z.1)
    have l2 : rl s' = 0 := y2.1
    have b0 : rbg s' (rl s') ≠ 0 := by rw [l2]; rcases y4 with z | z <;> omega
    have bg : rbg s' (rl s') < 2 → ¬ bgF m (ch (gI h1 pRe 6)) := by
      rw [l2, y7]; intro z
      rcases y4 with y | y
      · omega
      · exact y.2
    have op : rop s' (rl s') = 0 := by rw [l2, y3.1]; rfl
    have r0 : rat (rs0 0) = 0 := rfl
    have ks := skA_le (ch := ch) y6
    refine ⟨co_Re w1, co_Re w1, ?_⟩
    rw [rc1.2.2.1]
    refine ⟨fun z => ?_, fun z => ?_⟩
    · have hs := st_end (m := m) y7 b0 bg (by rw [op, hcE _ z]; rfl) op
      refine ⟨hp h1 1 f2 (fun R hR => ?_) (Or.inr rfl), f2.2.2.2.1, f2.2.2.2.2⟩
      rw [← hch, rsR_all hcE m1 m5 n0 n4 y1 (by rw [hs]; show (-1 : Int) ≠ 0; decide), hs] at hR
      rw [hR]
      refine ⟨fun _ => ⟨rfl, y10.1, y10.2, ?_, ?_⟩, fun x => absurd rfl x⟩
      · rw [y11.1, eA]; rfl
      · rw [y11.2, eA]; rfl
    · have cn : ch (gI h1 pRe 6) ≠ -1 := by
        rw [hch]; unfold chR
        rw [if_pos (by omega)]; omega
      have hs := st_form (m := m) y7 (fun x => b0 x.1) bg (Or.inr (by rw [op]; exact cn))
      have f3 : FrQ Prq h (sI (sI h1 pRe 9 1) pRe 10 (gI h1 pRe 6)) := FrQ_trans fA (FrQ_mono (fun _ _ z => Or.inl z) (FrQ_of (Prr_stop f1)))
      refine ⟨co_Re w1, co_Re w1, w1, hp _ 0 f3 (fun R hR => ?_) (Or.inl rfl), f3.2.2.2.1, f3.2.2.2.2⟩
      rw [← hch, rsR_all hcE m1 m5 n0 n4 y1 (by rw [hs]; show (1 : Int) ≠ 0; decide), hs] at hR
      rw [hR]
      exact ⟨fun x => absurd (show (1 : Int) = -1 from x) (by decide), fun _ => ⟨rfl, rfl, rfl⟩⟩
