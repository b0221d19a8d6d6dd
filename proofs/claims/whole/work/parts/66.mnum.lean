/-! THE MODEL: number, factor -/
def chT (h : PH) : Int → Int := fun j => if 0 ≤ j ∧ j < gI h pMo 8 then gI h pMo_text j % 256 else -1
def skA (ch : Int → Int) (sz at' : Int) : Int := lsF (fun j => if ch j = 32 then 0 else 1) (sz - at').toNat at'
def dgE (ch : Int → Int) (sz at' : Int) : Int := lsF (fun j => if 48 ≤ ch j ∧ ch j ≤ 57 then 0 else 1) (sz - at').toNat at'
def nvF (ch : Int → Int) (at' : Int) : Nat → Int
  | 0 => 0
  | k + 1 => if 99 < nvF ch at' k then nvF ch at' k else 10 * nvF ch at' k + ch (at' + k) - 48
theorem skA_le {ch : Int → Int} {sz at' : Int} (h : at' ≤ sz) : at' ≤ skA ch sz at' ∧ skA ch sz at' ≤ sz := by
  have := lsF_le (g := fun j => if ch j = 32 then 0 else 1) (n := (sz - at').toNat) (x := at')
  unfold skA
  omega
theorem dgE_le {ch : Int → Int} {sz at' : Int} (h : at' ≤ sz) : at' ≤ dgE ch sz at' ∧ dgE ch sz at' ≤ sz := by
  have := lsF_le (g := fun j => if 48 ≤ ch j ∧ ch j ≤ 57 then 0 else 1) (n := (sz - at').toNat) (x := at')
  unfold dgE
  omega
theorem chT_at {h : PH} {j : Int} (hj : 0 ≤ j) : (if j < gI h pMo 8 then gI h pMo_text j % 256 else -1) = chT h j := by
  unfold chT
  by_cases q : j < gI h pMo 8
  · rw [if_pos q, if_pos ⟨hj, q⟩]
  · rw [if_neg q, if_neg (fun z => q z.2)]
theorem nvF_nn {ch : Int → Int} {at' : Int} : ∀ {k : Nat}, (∀ j : Nat, j < k → 48 ≤ ch (at' + j) ∧ ch (at' + j) ≤ 57) → 0 ≤ nvF ch at' k ∧ nvF ch at' k ≤ 999
  | 0, _ => by show (0 : Int) ≤ 0 ∧ (0 : Int) ≤ 999; omega
  | k + 1, h => by
    have ih := nvF_nn (ch := ch) (at' := at') (k := k) (fun j hj => h j (by omega))
    have hk := h k (by omega)
    show 0 ≤ (if 99 < nvF ch at' k then nvF ch at' k else 10 * nvF ch at' k + ch (at' + k) - 48) ∧ (if 99 < nvF ch at' k then nvF ch at' k else 10 * nvF ch at' k + ch (at' + k) - 48) ≤ 999
    split <;> omega
def nmV (ch : Int → Int) (sz at' : Int) : Int := nvF ch at' (dgE ch sz at' - at').toNat
def nmH (h : PH) (e v : Int) : PH := if e = gI h pMo 19 then sI (sI (sI h pMo 19 e) pMo 3 1) pMo 2 e else if 99 < v then sI (sI (sI h pMo 19 e) pMo 3 4) pMo 2 (gI h pMo 19) else sI h pMo 19 e
def Ct_Mo_number : CtT := fun av h post => match av with
  | [.inr (.inl (some t))] => t = pMo ∧ MW h ∧ 0 ≤ gI h pMo 19 ∧ gI h pMo 19 ≤ gI h pMo 8 ∧ gI h pMo 8 ≤ 400 ∧ gI h pMo 3 = 0 ∧ post (some (.inl (nmV (chT h) (gI h pMo 8) (gI h pMo 19)))) (nmH h (dgE (chT h) (gI h pMo 8) (gI h pMo 19)) (nmV (chT h) (gI h pMo 8) (gI h pMo 19)))
  | _ => False
theorem ce_Mo_number {t : Nat} {h : PH} {post : TR} : Ct_Mo_number [.inr (.inl (some t))] h post = (t = pMo ∧ MW h ∧ 0 ≤ gI h pMo 19 ∧ gI h pMo 19 ≤ gI h pMo 8 ∧ gI h pMo 8 ≤ 400 ∧ gI h pMo 3 = 0 ∧ post (some (.inl (nmV (chT h) (gI h pMo 8) (gI h pMo 19)))) (nmH h (dgE (chT h) (gI h pMo 8) (gI h pMo 19)) (nmV (chT h) (gI h pMo 8) (gI h pMo 19)))) := rfl
def B_Mo_number_93 : TT := (tt_il 2 tt_ir)
theorem E_Mo_number_93 {K : TK} {R : TR} {ls : LSt} {st : List PV} {h : PH} : B_Mo_number_93 K R ls st h = (tt_il 2 tt_ir) K R ls st h := rfl
theorem S_Mo_number_93 (lc lz : Nat) : Snd md_Mo_number lc lz 93 (B_Mo_number_93) := (snd_il_n (n := 2) (dget dd_Mo_number 51 rfl) rfl (snd_ir (dget dd_Mo_number 52 rfl) rfl))
def B_Mo_number_81 : TT := (tt_il 2 (tt_ci 99 (tt_cle (B_Mo_number_93) (tt_al 0 (tt_ci 4 (tt_il 1 (tt_cV 9 3 Ct_Mo_wrong (B_Mo_number_93))))))))
theorem E_Mo_number_81 {K : TK} {R : TR} {ls : LSt} {st : List PV} {h : PH} : B_Mo_number_81 K R ls st h = (tt_il 2 (tt_ci 99 (tt_cle (B_Mo_number_93) (tt_al 0 (tt_ci 4 (tt_il 1 (tt_cV 9 3 Ct_Mo_wrong (B_Mo_number_93)))))))) K R ls st h := rfl
theorem S_Mo_number_81 (lc lz : Nat) : Snd md_Mo_number lc lz 81 (B_Mo_number_81) := (snd_il_n (n := 2) (dget dd_Mo_number 44 rfl) rfl (snd_bipush (n := 99) (dget dd_Mo_number 45 rfl) (inR_d rfl) (by decide) (snd_cle (tg := 93) (dget dd_Mo_number 46 rfl) rfl (S_Mo_number_93 lc lz) (snd_al_n (n := 0) (dget dd_Mo_number 47 rfl) rfl (snd_iconst (n := 4) (dget dd_Mo_number 48 rfl) (inR_d rfl) rfl (snd_il_n (n := 1) (dget dd_Mo_number 49 rfl) rfl (snd_cV (n := 2) met_Mo_wrong mi_Mo_wrong ki_Mo_wrong kv_Mo_wrong ml_Mo_196 rfl (by decide) (dget dd_Mo_number 50 rfl) (S_Mo_number_93 lc lz))))))))
def B_Mo_number_61 : TT := (tt_al 0 (tt_gI 9 19 (tt_il 1 (tt_cne (B_Mo_number_81) (tt_al 0 (tt_ci 1 (tt_al 0 (tt_gI 9 19 (tt_cV 9 3 Ct_Mo_wrong (B_Mo_number_93))))))))))
theorem E_Mo_number_61 {K : TK} {R : TR} {ls : LSt} {st : List PV} {h : PH} : B_Mo_number_61 K R ls st h = (tt_al 0 (tt_gI 9 19 (tt_il 1 (tt_cne (B_Mo_number_81) (tt_al 0 (tt_ci 1 (tt_al 0 (tt_gI 9 19 (tt_cV 9 3 Ct_Mo_wrong (B_Mo_number_93)))))))))) K R ls st h := rfl
theorem S_Mo_number_61 (lc lz : Nat) : Snd md_Mo_number lc lz 61 (B_Mo_number_61) := (snd_al_n (n := 0) (dget dd_Mo_number 34 rfl) rfl (snd_gI (kn := 19) fd_Mo_162 rfl (dget dd_Mo_number 35 rfl) (snd_il_n (n := 1) (dget dd_Mo_number 36 rfl) rfl (snd_cne (tg := 81) (dget dd_Mo_number 37 rfl) rfl (S_Mo_number_81 lc lz) (snd_al_n (n := 0) (dget dd_Mo_number 38 rfl) rfl (snd_iconst (n := 1) (dget dd_Mo_number 39 rfl) (inR_d rfl) rfl (snd_al_n (n := 0) (dget dd_Mo_number 40 rfl) rfl (snd_gI (kn := 19) fd_Mo_162 rfl (dget dd_Mo_number 41 rfl) (snd_cV (n := 2) met_Mo_wrong mi_Mo_wrong ki_Mo_wrong kv_Mo_wrong ml_Mo_196 rfl (by decide) (dget dd_Mo_number 42 rfl) (snd_goto (tg := 93) (dget dd_Mo_number 43 rfl) rfl (S_Mo_number_93 lc lz)))))))))))
def B_Mo_number_47 : TT := (tt_is 2 (tt_al 0 (tt_dup (tt_gI 9 19 (tt_ci 1 (tt_add (tt_pI 9 19 (tt_cut 7))))))))
theorem E_Mo_number_47 {K : TK} {R : TR} {ls : LSt} {st : List PV} {h : PH} : B_Mo_number_47 K R ls st h = (tt_is 2 (tt_al 0 (tt_dup (tt_gI 9 19 (tt_ci 1 (tt_add (tt_pI 9 19 (tt_cut 7)))))))) K R ls st h := rfl
theorem S_Mo_number_47 (lc lz : Nat) : Snd md_Mo_number lc lz 47 (B_Mo_number_47) := (snd_is_n (n := 2) (dget dd_Mo_number 26 rfl) rfl (snd_al_n (n := 0) (dget dd_Mo_number 27 rfl) rfl (snd_dup (dget dd_Mo_number 28 rfl) (snd_gI (kn := 19) fd_Mo_162 rfl (dget dd_Mo_number 29 rfl) (snd_iconst (n := 1) (dget dd_Mo_number 30 rfl) (inR_d rfl) rfl (snd_add (dget dd_Mo_number 31 rfl) (snd_pI (kn := 19) fd_Mo_162 rfl (dget dd_Mo_number 32 rfl) (snd_goto (tg := 7) (dget dd_Mo_number 33 rfl) rfl snd_cut))))))))
def B_Mo_number_35 : TT := (tt_ci 10 (tt_il 2 (tt_mul (tt_al 0 (tt_cV 9 1 Ct_Mo_look (tt_add (tt_ci 48 (tt_sub (B_Mo_number_47)))))))))
theorem E_Mo_number_35 {K : TK} {R : TR} {ls : LSt} {st : List PV} {h : PH} : B_Mo_number_35 K R ls st h = (tt_ci 10 (tt_il 2 (tt_mul (tt_al 0 (tt_cV 9 1 Ct_Mo_look (tt_add (tt_ci 48 (tt_sub (B_Mo_number_47))))))))) K R ls st h := rfl
theorem S_Mo_number_35 (lc lz : Nat) : Snd md_Mo_number lc lz 35 (B_Mo_number_35) := (snd_bipush (n := 10) (dget dd_Mo_number 18 rfl) (inR_d rfl) (by decide) (snd_il_n (n := 2) (dget dd_Mo_number 19 rfl) rfl (snd_mul (dget dd_Mo_number 20 rfl) (snd_al_n (n := 0) (dget dd_Mo_number 21 rfl) rfl (snd_cV (n := 0) met_Mo_look mi_Mo_look ki_Mo_look kv_Mo_look ml_Mo_168 rfl (by decide) (dget dd_Mo_number 22 rfl) (snd_add (dget dd_Mo_number 23 rfl) (snd_bipush (n := 48) (dget dd_Mo_number 24 rfl) (inR_d rfl) (by decide) (snd_sub (dget dd_Mo_number 25 rfl) (S_Mo_number_47 lc lz)))))))))
def B_Mo_number_7 : TT := (tt_al 0 (tt_cV 9 1 Ct_Mo_look (tt_ci 48 (tt_clt (B_Mo_number_61) (tt_al 0 (tt_cV 9 1 Ct_Mo_look (tt_ci 57 (tt_cgt (B_Mo_number_61) (tt_il 2 (tt_ci 99 (tt_cle (B_Mo_number_35) (tt_il 2 (B_Mo_number_47)))))))))))))
theorem E_Mo_number_7 {K : TK} {R : TR} {ls : LSt} {st : List PV} {h : PH} : B_Mo_number_7 K R ls st h = (tt_al 0 (tt_cV 9 1 Ct_Mo_look (tt_ci 48 (tt_clt (B_Mo_number_61) (tt_al 0 (tt_cV 9 1 Ct_Mo_look (tt_ci 57 (tt_cgt (B_Mo_number_61) (tt_il 2 (tt_ci 99 (tt_cle (B_Mo_number_35) (tt_il 2 (B_Mo_number_47))))))))))))) K R ls st h := rfl
theorem S_Mo_number_7 (lc lz : Nat) : Snd md_Mo_number lc lz 7 (B_Mo_number_7) := (snd_al_n (n := 0) (dget dd_Mo_number 5 rfl) rfl (snd_cV (n := 0) met_Mo_look mi_Mo_look ki_Mo_look kv_Mo_look ml_Mo_168 rfl (by decide) (dget dd_Mo_number 6 rfl) (snd_bipush (n := 48) (dget dd_Mo_number 7 rfl) (inR_d rfl) (by decide) (snd_clt (tg := 61) (dget dd_Mo_number 8 rfl) rfl (S_Mo_number_61 lc lz) (snd_al_n (n := 0) (dget dd_Mo_number 9 rfl) rfl (snd_cV (n := 0) met_Mo_look mi_Mo_look ki_Mo_look kv_Mo_look ml_Mo_168 rfl (by decide) (dget dd_Mo_number 10 rfl) (snd_bipush (n := 57) (dget dd_Mo_number 11 rfl) (inR_d rfl) (by decide) (snd_cgt (tg := 61) (dget dd_Mo_number 12 rfl) rfl (S_Mo_number_61 lc lz) (snd_il_n (n := 2) (dget dd_Mo_number 13 rfl) rfl (snd_bipush (n := 99) (dget dd_Mo_number 14 rfl) (inR_d rfl) (by decide) (snd_cle (tg := 35) (dget dd_Mo_number 15 rfl) rfl (S_Mo_number_35 lc lz) (snd_il_n (n := 2) (dget dd_Mo_number 16 rfl) rfl (snd_goto (tg := 47) (dget dd_Mo_number 17 rfl) rfl (S_Mo_number_47 lc lz))))))))))))))
def B_Mo_number_0 : TT := (tt_al 0 (tt_gI 9 19 (tt_is 1 (tt_ci 0 (tt_is 2 (tt_cut 7))))))
theorem E_Mo_number_0 {K : TK} {R : TR} {ls : LSt} {st : List PV} {h : PH} : B_Mo_number_0 K R ls st h = (tt_al 0 (tt_gI 9 19 (tt_is 1 (tt_ci 0 (tt_is 2 (tt_cut 7)))))) K R ls st h := rfl
theorem S_Mo_number_0 (lc lz : Nat) : Snd md_Mo_number lc lz 0 (B_Mo_number_0) := (snd_al_n (n := 0) (dget dd_Mo_number 0 rfl) rfl (snd_gI (kn := 19) fd_Mo_162 rfl (dget dd_Mo_number 1 rfl) (snd_is_n (n := 1) (dget dd_Mo_number 2 rfl) rfl (snd_iconst (n := 0) (dget dd_Mo_number 3 rfl) (inR_d rfl) rfl (snd_is_n (n := 2) (dget dd_Mo_number 4 rfl) rfl snd_cut)))))
theorem met_Mo_number : MetP y_Mo_number md_Mo_number (fun _ => 0) (fun _ => 0) Ct_Mo_number := by
  refine metL1 (body := B_Mo_number_0) (B1 := B_Mo_number_7) (by decide) rfl rfl (fun lc lz => S_Mo_number_0 lc lz) (fun lc lz => S_Mo_number_7 lc lz) ?_
  intro av h post hc hH hav
  unfold Ct_Mo_number at hc
  split at hc
  rotate_left
  · exact hc.elim
  rename_i t
  obtain ⟨rfl, w, p0, p1, p2, p3, hp⟩ := hc
  refine ⟨Nat.le_of_ble_eq_true rfl, ?_⟩
  obtain ⟨f, hf⟩ : ∃ f, f = gI h pMo 19 := ⟨_, rfl⟩
  obtain ⟨ch, hch⟩ : ∃ ch, ch = chT h := ⟨_, rfl⟩
  rw [← hf, ← hch] at hp
  rw [← hf] at p0 p1
  refine ⟨fun ls h' => ∃ k : Nat, ls = [some (.inr (.inl (some pMo))), some (.inl f), some (.inl (nvF ch f k))] ∧ f + k ≤ gI h pMo 8 ∧ h' = sI h pMo 19 (f + k) ∧ (∀ j : Nat, j < k → 48 ≤ ch (f + j) ∧ ch (f + j) ≤ 57), fun _ _ h' => (400 - gI h' pMo 19).toNat, ?_, ?_⟩
  · rintro ls h' ⟨k, rfl, hk, rfl, hd⟩
    have nb := nvF_nn hd
    have ec : (if f + (k : Int) < gI h pMo 8 then gI h pMo_text (f + k) % 256 else -1) = ch (f + k) := by rw [hch]; exact chT_at (by omega)
    simp (decide := true) only [↓E_Mo_number_0, ↓E_Mo_number_7, ↓E_Mo_number_35, ↓E_Mo_number_47, ↓E_Mo_number_61, ↓E_Mo_number_81, ↓E_Mo_number_93, ↓ce_Mo_look, ↓ce_Mo_wrong, ↓e_ci, ↓e_cl, ↓e_nul, ↓e_add, ↓e_sub, ↓e_mul, ↓e_ladd, ↓e_lmul, ↓e_div, ↓e_rem, ↓e_ldiv, ↓e_lrem, ↓e_zeq, ↓e_zne, ↓e_zlt, ↓e_zge, ↓e_zgt, ↓e_zle, ↓e_ceq, ↓e_cne, ↓e_clt, ↓e_cge, ↓e_cgt, ↓e_cle, ↓e_nn, ↓e_gI, ↓e_gR, ↓e_pI, ↓e_pZ, ↓e_pR, ↓e_ia, ↓e_ba, ↓e_za, ↓e_iS, ↓e_bS, ↓e_zS, ↓e_aa, ↓e_aS, ↓e_len, ↓e_and, ↓e_xor, ↓e_shr, ↓e_ushr, ↓e_lcmp, ↓e_i2b, ↓e_i2l, ↓e_l2i, ↓e_sw, ↓e_min, ↓e_max, ↓e_acp, ↓e_il_0, ↓e_al_0, ↓e_ll_0, ↓e_is_0n, ↓e_as_0n, ↓e_ls_0n, ↓e_inc_0n, ↓e_il_1, ↓e_al_1, ↓e_ll_1, ↓e_is_1i, ↓e_as_1i, ↓e_ls_1i, ↓e_inc_1i, ↓e_is_1o, ↓e_as_1o, ↓e_ls_1o, ↓e_inc_1o, ↓e_is_1n, ↓e_as_1n, ↓e_ls_1n, ↓e_inc_1n, ↓e_il_2, ↓e_al_2, ↓e_ll_2, ↓e_is_2i, ↓e_as_2i, ↓e_ls_2i, ↓e_inc_2i, ↓e_is_2o, ↓e_as_2o, ↓e_ls_2o, ↓e_inc_2o, ↓e_is_2n, ↓e_as_2n, ↓e_ls_2n, ↓e_inc_2n, ↓e_il_3, ↓e_al_3, ↓e_ll_3, ↓e_is_3i, ↓e_as_3i, ↓e_ls_3i, ↓e_inc_3i, ↓e_is_3o, ↓e_as_3o, ↓e_ls_3o, ↓e_inc_3o, ↓e_is_3n, ↓e_as_3n, ↓e_ls_3n, ↓e_inc_3n, ↓e_il_4, ↓e_al_4, ↓e_ll_4, ↓e_is_4i, ↓e_as_4i, ↓e_ls_4i, ↓e_inc_4i, ↓e_is_4o, ↓e_as_4o, ↓e_ls_4o, ↓e_inc_4o, ↓e_is_4n, ↓e_as_4n, ↓e_ls_4n, ↓e_inc_4n, ↓e_il_5, ↓e_al_5, ↓e_ll_5, ↓e_is_5i, ↓e_as_5i, ↓e_ls_5i, ↓e_inc_5i, ↓e_is_5o, ↓e_as_5o, ↓e_ls_5o, ↓e_inc_5o, ↓e_is_5n, ↓e_as_5n, ↓e_ls_5n, ↓e_inc_5n, ↓e_il_6, ↓e_al_6, ↓e_ll_6, ↓e_is_6i, ↓e_as_6i, ↓e_ls_6i, ↓e_inc_6i, ↓e_is_6o, ↓e_as_6o, ↓e_ls_6o, ↓e_inc_6o, ↓e_is_6n, ↓e_as_6n, ↓e_ls_6n, ↓e_inc_6n, ↓e_il_7, ↓e_al_7, ↓e_ll_7, ↓e_is_7i, ↓e_as_7i, ↓e_ls_7i, ↓e_inc_7i, ↓e_is_7o, ↓e_as_7o, ↓e_ls_7o, ↓e_inc_7o, ↓e_is_7n, ↓e_as_7n, ↓e_ls_7n, ↓e_inc_7n, ↓e_il_8, ↓e_al_8, ↓e_ll_8, ↓e_is_8i, ↓e_as_8i, ↓e_ls_8i, ↓e_inc_8i, ↓e_is_8o, ↓e_as_8o, ↓e_ls_8o, ↓e_inc_8o, ↓e_is_8n, ↓e_as_8n, ↓e_ls_8n, ↓e_inc_8n, ↓e_il_9, ↓e_al_9, ↓e_ll_9, ↓e_is_9i, ↓e_as_9i, ↓e_ls_9i, ↓e_inc_9i, ↓e_is_9o, ↓e_as_9o, ↓e_ls_9o, ↓e_inc_9o, ↓e_is_9n, ↓e_as_9n, ↓e_ls_9n, ↓e_inc_9n, ↓e_il_10, ↓e_al_10, ↓e_ll_10, ↓e_is_10i, ↓e_as_10i, ↓e_ls_10i, ↓e_inc_10i, ↓e_is_10o, ↓e_as_10o, ↓e_ls_10o, ↓e_inc_10o, ↓e_is_10n, ↓e_as_10n, ↓e_ls_10n, ↓e_inc_10n, ↓e_il_11, ↓e_al_11, ↓e_ll_11, ↓e_is_11i, ↓e_as_11i, ↓e_ls_11i, ↓e_inc_11i, ↓e_is_11o, ↓e_as_11o, ↓e_ls_11o, ↓e_inc_11o, ↓e_is_11n, ↓e_as_11n, ↓e_ls_11n, ↓e_inc_11n, ↓e_il_12, ↓e_al_12, ↓e_ll_12, ↓e_is_12i, ↓e_as_12i, ↓e_ls_12i, ↓e_inc_12i, ↓e_is_12o, ↓e_as_12o, ↓e_ls_12o, ↓e_inc_12o, ↓e_is_12n, ↓e_as_12n, ↓e_ls_12n, ↓e_inc_12n, ↓e_dup_i, ↓e_pop_i, ↓e_dup2_ii, ↓e_dup2_io, ↓e_dup_o, ↓e_pop_o, ↓e_dup2_oi, ↓e_dup2_oo, ↓e_ir, ↓e_zr, ↓e_br, ↓e_lr, ↓e_ar, ↓e_vr, ↓e_cut, ↓e_cS_0, ↓e_cV_1, ↓e_cS_1, ↓e_cV_2, ↓e_cS_2, ↓e_cV_3, ↓e_cS_3, ↓e_cV_4, ↓e_cS_4, ↓e_cV_5, ↓e_cS_5, ↓e_cV_6, ↓e_cS_6, ↓e_cV_7, ↓e_cS_7, ↓e_swn, ↓e_swc, ↓e_tls, ↓e_tln, E_Mo_number_0, E_Mo_number_7, E_Mo_number_35, E_Mo_number_47, E_Mo_number_61, E_Mo_number_81, E_Mo_number_93, ce_Mo_look, ce_Mo_wrong, e_ci, e_cl, e_nul, e_add, e_sub, e_mul, e_ladd, e_lmul, e_div, e_rem, e_ldiv, e_lrem, e_zeq, e_zne, e_zlt, e_zge, e_zgt, e_zle, e_ceq, e_cne, e_clt, e_cge, e_cgt, e_cle, e_nn, e_gI, e_gR, e_pI, e_pZ, e_pR, e_ia, e_ba, e_za, e_iS, e_bS, e_zS, e_aa, e_aS, e_len, e_and, e_xor, e_shr, e_ushr, e_lcmp, e_i2b, e_i2l, e_l2i, e_sw, e_min, e_max, e_acp, e_il_0, e_al_0, e_ll_0, e_is_0n, e_as_0n, e_ls_0n, e_inc_0n, e_il_1, e_al_1, e_ll_1, e_is_1i, e_as_1i, e_ls_1i, e_inc_1i, e_is_1o, e_as_1o, e_ls_1o, e_inc_1o, e_is_1n, e_as_1n, e_ls_1n, e_inc_1n, e_il_2, e_al_2, e_ll_2, e_is_2i, e_as_2i, e_ls_2i, e_inc_2i, e_is_2o, e_as_2o, e_ls_2o, e_inc_2o, e_is_2n, e_as_2n, e_ls_2n, e_inc_2n, e_il_3, e_al_3, e_ll_3, e_is_3i, e_as_3i, e_ls_3i, e_inc_3i, e_is_3o, e_as_3o, e_ls_3o, e_inc_3o, e_is_3n, e_as_3n, e_ls_3n, e_inc_3n, e_il_4, e_al_4, e_ll_4, e_is_4i, e_as_4i, e_ls_4i, e_inc_4i, e_is_4o, e_as_4o, e_ls_4o, e_inc_4o, e_is_4n, e_as_4n, e_ls_4n, e_inc_4n, e_il_5, e_al_5, e_ll_5, e_is_5i, e_as_5i, e_ls_5i, e_inc_5i, e_is_5o, e_as_5o, e_ls_5o, e_inc_5o, e_is_5n, e_as_5n, e_ls_5n, e_inc_5n, e_il_6, e_al_6, e_ll_6, e_is_6i, e_as_6i, e_ls_6i, e_inc_6i, e_is_6o, e_as_6o, e_ls_6o, e_inc_6o, e_is_6n, e_as_6n, e_ls_6n, e_inc_6n, e_il_7, e_al_7, e_ll_7, e_is_7i, e_as_7i, e_ls_7i, e_inc_7i, e_is_7o, e_as_7o, e_ls_7o, e_inc_7o, e_is_7n, e_as_7n, e_ls_7n, e_inc_7n, e_il_8, e_al_8, e_ll_8, e_is_8i, e_as_8i, e_ls_8i, e_inc_8i, e_is_8o, e_as_8o, e_ls_8o, e_inc_8o, e_is_8n, e_as_8n, e_ls_8n, e_inc_8n, e_il_9, e_al_9, e_ll_9, e_is_9i, e_as_9i, e_ls_9i, e_inc_9i, e_is_9o, e_as_9o, e_ls_9o, e_inc_9o, e_is_9n, e_as_9n, e_ls_9n, e_inc_9n, e_il_10, e_al_10, e_ll_10, e_is_10i, e_as_10i, e_ls_10i, e_inc_10i, e_is_10o, e_as_10o, e_ls_10o, e_inc_10o, e_is_10n, e_as_10n, e_ls_10n, e_inc_10n, e_il_11, e_al_11, e_ll_11, e_is_11i, e_as_11i, e_ls_11i, e_inc_11i, e_is_11o, e_as_11o, e_ls_11o, e_inc_11o, e_is_11n, e_as_11n, e_ls_11n, e_inc_11n, e_il_12, e_al_12, e_ll_12, e_is_12i, e_as_12i, e_ls_12i, e_inc_12i, e_is_12o, e_as_12o, e_ls_12o, e_inc_12o, e_is_12n, e_as_12n, e_ls_12n, e_inc_12n, e_dup_i, e_pop_i, e_dup2_ii, e_dup2_io, e_dup_o, e_pop_o, e_dup2_oi, e_dup2_oo, e_ir, e_zr, e_br, e_lr, e_ar, e_vr, e_cut, e_cS_0, e_cV_1, e_cS_1, e_cV_2, e_cS_2, e_cV_3, e_cS_3, e_cV_4, e_cS_4, e_cV_5, e_cS_5, e_cV_6, e_cS_6, e_cV_7, e_cS_7, e_swn, e_swc, e_tls, e_tln, gI_sI, gI_sA, gR_sI, gR_sA, gI_sR, gR_sR, hN_sI, hN_sA, hN_sR, isO_sI, isO_sA, isO_sR, isAr_sI, isAr_sA, isAr_sR, hC_sI, hC_sA, hC_sR, hZ_sI, hZ_sA, hZ_sR, MW_sI, MW_sA, true_and, and_true, true_or, or_true, and_self, forall_const, imp_self, implies_true, if_true, if_false, false_and, and_false, false_or, or_false, not_false_eq_true, not_true_eq_false, sI_sI, entA, fitL, List.length_cons, List.length_nil, List.nil_append, List.cons_append, false_imp_iff, true_imp_iff, mr_tape w, mr_text w, mr_words w, mr_wordSize w, mr_subs w, mr_subSize w, mr_asked w, mr_pile w, mr_pileSize w, mr_opened w, mr_openedAt w, mr_begun w, mr_cells w, mr_keptCells w, mr_name w, mr_isLeft w, mr_isDone w, mr_keptLeft w, mr_keptDone w, mr_state w, mr_keptState w, mr_newOf w, mr_oldOf w, mr_spare w, mr_spareDone w, mr_out w, mr_metFrom w, mr_metBy w, mr_far w, mr_low w, mr_lows w, mr_lowSize w, mr_triedRow w, mr_triedColumn w, mr_triedValue w, mr_triedRows w, mr_sheet w, ma_tape w, ma_text w, ma_words w, ma_wordSize w, ma_subs w, ma_subSize w, ma_asked w, ma_pile w, ma_pileSize w, ma_opened w, ma_openedAt w, ma_begun w, ma_cells w, ma_keptCells w, ma_name w, ma_isLeft w, ma_isDone w, ma_keptLeft w, ma_keptDone w, ma_state w, ma_keptState w, ma_newOf w, ma_oldOf w, ma_spare w, ma_spareDone w, ma_out w, ma_metFrom w, ma_metBy w, ma_far w, ma_low w, ma_lows w, ma_lowSize w, ma_triedRow w, ma_triedColumn w, ma_triedValue w, ma_triedRows w, ma_sheet w, ml_tape, ml_text, ml_words, ml_wordSize, ml_subs, ml_subSize, ml_asked, ml_pile, ml_pileSize, ml_opened, ml_openedAt, ml_begun, ml_cells, ml_keptCells, ml_name, ml_isLeft, ml_isDone, ml_keptLeft, ml_keptDone, ml_state, ml_keptState, ml_newOf, ml_oldOf, ml_spare, ml_spareDone, ml_out, ml_metFrom, ml_metBy, ml_far, ml_low, ml_lows, ml_lowSize, ml_triedRow, ml_triedColumn, ml_triedValue, ml_triedRows, ml_sheet, mo_O w, ec, p3]
    have out : ¬ (48 ≤ ch (f + k) ∧ ch (f + k) ≤ 57) → (¬ f + (k : Int) = f → (nvF ch f k ≤ 99 → post (some (.inl (nvF ch f k))) (sI h pMo 19 (f + k))) ∧ (¬ nvF ch f k ≤ 99 → MW h ∧ post (some (.inl (nvF ch f k))) (sI (sI (sI h pMo 19 (f + k)) pMo 3 4) pMo 2 f))) ∧ (f + (k : Int) = f → MW h ∧ post (some (.inl (nvF ch f k))) (sI (sI (sI h pMo 19 (f + k)) pMo 3 1) pMo 2 (f + k))) := by
      intro z
      have e1 : dgE ch (gI h pMo 8) f = f + k := by
        refine lsF_eq (by omega) (by omega) (fun j a b => ?_) (fun _ => ?_)
        · refine if_pos ?_
          have := hd (j - f).toNat (by omega)
          rw [show f + (((j - f).toNat : Nat) : Int) = j by omega] at this
          exact this
        · rw [if_neg z]; decide
      have e2 : nmV ch (gI h pMo 8) f = nvF ch f k := by
        unfold nmV
        rw [e1, show (f + (k : Int) - f).toNat = k by omega]
      rw [e1, e2] at hp
      unfold nmH at hp
      rw [← hf] at hp
      refine ⟨fun q => ⟨fun q2 => ?_, fun q2 => ⟨w, ?_⟩⟩, fun q => ⟨w, ?_⟩⟩
      · rw [if_neg q, if_neg (by omega)] at hp; exact hp
      · rw [if_neg q, if_pos (by omega)] at hp; exact hp
      · rw [if_pos q] at hp; exact hp
    refine ⟨w, by omega, p2, fun q => out (by omega), fun q => ⟨w, by omega, p2, fun q2 => out (by omega), fun q2 => ?_⟩⟩
    have hlt : f + (k : Int) < gI h pMo 8 := by
      apply Classical.byContradiction
      intro z
      have : ch (f + k) = -1 := by rw [hch]; exact if_neg (fun t => z t.2)
      omega
    have nd : ∀ j : Nat, j < k + 1 → 48 ≤ ch (f + j) ∧ ch (f + j) ≤ 57 := by
      intro j hj
      by_cases e : j = k
      · rw [e]; omega
      · exact hd j (by omega)
    have ns : nvF ch f (k + 1) = if 99 < nvF ch f k then nvF ch f k else 10 * nvF ch f k + ch (f + k) - 48 := rfl
    have ea : f + (k : Int) + 1 = f + ((k + 1 : Nat) : Int) := by omega
    refine ⟨fun q3 => ⟨⟨by omega, by omega⟩, w, by omega, p2, ⟨by omega, by omega⟩, ⟨by omega, by omega⟩, ⟨by omega, by omega⟩, ⟨k + 1, by rw [ns, if_neg (by omega)], by omega, by rw [ea], nd⟩, by omega⟩, fun q3 => ⟨⟨by omega, by omega⟩, ⟨k + 1, by rw [ns, if_pos (by omega)], by omega, by rw [ea], nd⟩, by omega⟩⟩
  · simp (decide := true) only [↓E_Mo_number_0, ↓E_Mo_number_7, ↓E_Mo_number_35, ↓E_Mo_number_47, ↓E_Mo_number_61, ↓E_Mo_number_81, ↓E_Mo_number_93, ↓ce_Mo_look, ↓ce_Mo_wrong, ↓e_ci, ↓e_cl, ↓e_nul, ↓e_add, ↓e_sub, ↓e_mul, ↓e_ladd, ↓e_lmul, ↓e_div, ↓e_rem, ↓e_ldiv, ↓e_lrem, ↓e_zeq, ↓e_zne, ↓e_zlt, ↓e_zge, ↓e_zgt, ↓e_zle, ↓e_ceq, ↓e_cne, ↓e_clt, ↓e_cge, ↓e_cgt, ↓e_cle, ↓e_nn, ↓e_gI, ↓e_gR, ↓e_pI, ↓e_pZ, ↓e_pR, ↓e_ia, ↓e_ba, ↓e_za, ↓e_iS, ↓e_bS, ↓e_zS, ↓e_aa, ↓e_aS, ↓e_len, ↓e_and, ↓e_xor, ↓e_shr, ↓e_ushr, ↓e_lcmp, ↓e_i2b, ↓e_i2l, ↓e_l2i, ↓e_sw, ↓e_min, ↓e_max, ↓e_acp, ↓e_il_0, ↓e_al_0, ↓e_ll_0, ↓e_is_0n, ↓e_as_0n, ↓e_ls_0n, ↓e_inc_0n, ↓e_il_1, ↓e_al_1, ↓e_ll_1, ↓e_is_1i, ↓e_as_1i, ↓e_ls_1i, ↓e_inc_1i, ↓e_is_1o, ↓e_as_1o, ↓e_ls_1o, ↓e_inc_1o, ↓e_is_1n, ↓e_as_1n, ↓e_ls_1n, ↓e_inc_1n, ↓e_il_2, ↓e_al_2, ↓e_ll_2, ↓e_is_2i, ↓e_as_2i, ↓e_ls_2i, ↓e_inc_2i, ↓e_is_2o, ↓e_as_2o, ↓e_ls_2o, ↓e_inc_2o, ↓e_is_2n, ↓e_as_2n, ↓e_ls_2n, ↓e_inc_2n, ↓e_il_3, ↓e_al_3, ↓e_ll_3, ↓e_is_3i, ↓e_as_3i, ↓e_ls_3i, ↓e_inc_3i, ↓e_is_3o, ↓e_as_3o, ↓e_ls_3o, ↓e_inc_3o, ↓e_is_3n, ↓e_as_3n, ↓e_ls_3n, ↓e_inc_3n, ↓e_il_4, ↓e_al_4, ↓e_ll_4, ↓e_is_4i, ↓e_as_4i, ↓e_ls_4i, ↓e_inc_4i, ↓e_is_4o, ↓e_as_4o, ↓e_ls_4o, ↓e_inc_4o, ↓e_is_4n, ↓e_as_4n, ↓e_ls_4n, ↓e_inc_4n, ↓e_il_5, ↓e_al_5, ↓e_ll_5, ↓e_is_5i, ↓e_as_5i, ↓e_ls_5i, ↓e_inc_5i, ↓e_is_5o, ↓e_as_5o, ↓e_ls_5o, ↓e_inc_5o, ↓e_is_5n, ↓e_as_5n, ↓e_ls_5n, ↓e_inc_5n, ↓e_il_6, ↓e_al_6, ↓e_ll_6, ↓e_is_6i, ↓e_as_6i, ↓e_ls_6i, ↓e_inc_6i, ↓e_is_6o, ↓e_as_6o, ↓e_ls_6o, ↓e_inc_6o, ↓e_is_6n, ↓e_as_6n, ↓e_ls_6n, ↓e_inc_6n, ↓e_il_7, ↓e_al_7, ↓e_ll_7, ↓e_is_7i, ↓e_as_7i, ↓e_ls_7i, ↓e_inc_7i, ↓e_is_7o, ↓e_as_7o, ↓e_ls_7o, ↓e_inc_7o, ↓e_is_7n, ↓e_as_7n, ↓e_ls_7n, ↓e_inc_7n, ↓e_il_8, ↓e_al_8, ↓e_ll_8, ↓e_is_8i, ↓e_as_8i, ↓e_ls_8i, ↓e_inc_8i, ↓e_is_8o, ↓e_as_8o, ↓e_ls_8o, ↓e_inc_8o, ↓e_is_8n, ↓e_as_8n, ↓e_ls_8n, ↓e_inc_8n, ↓e_il_9, ↓e_al_9, ↓e_ll_9, ↓e_is_9i, ↓e_as_9i, ↓e_ls_9i, ↓e_inc_9i, ↓e_is_9o, ↓e_as_9o, ↓e_ls_9o, ↓e_inc_9o, ↓e_is_9n, ↓e_as_9n, ↓e_ls_9n, ↓e_inc_9n, ↓e_il_10, ↓e_al_10, ↓e_ll_10, ↓e_is_10i, ↓e_as_10i, ↓e_ls_10i, ↓e_inc_10i, ↓e_is_10o, ↓e_as_10o, ↓e_ls_10o, ↓e_inc_10o, ↓e_is_10n, ↓e_as_10n, ↓e_ls_10n, ↓e_inc_10n, ↓e_il_11, ↓e_al_11, ↓e_ll_11, ↓e_is_11i, ↓e_as_11i, ↓e_ls_11i, ↓e_inc_11i, ↓e_is_11o, ↓e_as_11o, ↓e_ls_11o, ↓e_inc_11o, ↓e_is_11n, ↓e_as_11n, ↓e_ls_11n, ↓e_inc_11n, ↓e_il_12, ↓e_al_12, ↓e_ll_12, ↓e_is_12i, ↓e_as_12i, ↓e_ls_12i, ↓e_inc_12i, ↓e_is_12o, ↓e_as_12o, ↓e_ls_12o, ↓e_inc_12o, ↓e_is_12n, ↓e_as_12n, ↓e_ls_12n, ↓e_inc_12n, ↓e_dup_i, ↓e_pop_i, ↓e_dup2_ii, ↓e_dup2_io, ↓e_dup_o, ↓e_pop_o, ↓e_dup2_oi, ↓e_dup2_oo, ↓e_ir, ↓e_zr, ↓e_br, ↓e_lr, ↓e_ar, ↓e_vr, ↓e_cut, ↓e_cS_0, ↓e_cV_1, ↓e_cS_1, ↓e_cV_2, ↓e_cS_2, ↓e_cV_3, ↓e_cS_3, ↓e_cV_4, ↓e_cS_4, ↓e_cV_5, ↓e_cS_5, ↓e_cV_6, ↓e_cS_6, ↓e_cV_7, ↓e_cS_7, ↓e_swn, ↓e_swc, ↓e_tls, ↓e_tln, E_Mo_number_0, E_Mo_number_7, E_Mo_number_35, E_Mo_number_47, E_Mo_number_61, E_Mo_number_81, E_Mo_number_93, ce_Mo_look, ce_Mo_wrong, e_ci, e_cl, e_nul, e_add, e_sub, e_mul, e_ladd, e_lmul, e_div, e_rem, e_ldiv, e_lrem, e_zeq, e_zne, e_zlt, e_zge, e_zgt, e_zle, e_ceq, e_cne, e_clt, e_cge, e_cgt, e_cle, e_nn, e_gI, e_gR, e_pI, e_pZ, e_pR, e_ia, e_ba, e_za, e_iS, e_bS, e_zS, e_aa, e_aS, e_len, e_and, e_xor, e_shr, e_ushr, e_lcmp, e_i2b, e_i2l, e_l2i, e_sw, e_min, e_max, e_acp, e_il_0, e_al_0, e_ll_0, e_is_0n, e_as_0n, e_ls_0n, e_inc_0n, e_il_1, e_al_1, e_ll_1, e_is_1i, e_as_1i, e_ls_1i, e_inc_1i, e_is_1o, e_as_1o, e_ls_1o, e_inc_1o, e_is_1n, e_as_1n, e_ls_1n, e_inc_1n, e_il_2, e_al_2, e_ll_2, e_is_2i, e_as_2i, e_ls_2i, e_inc_2i, e_is_2o, e_as_2o, e_ls_2o, e_inc_2o, e_is_2n, e_as_2n, e_ls_2n, e_inc_2n, e_il_3, e_al_3, e_ll_3, e_is_3i, e_as_3i, e_ls_3i, e_inc_3i, e_is_3o, e_as_3o, e_ls_3o, e_inc_3o, e_is_3n, e_as_3n, e_ls_3n, e_inc_3n, e_il_4, e_al_4, e_ll_4, e_is_4i, e_as_4i, e_ls_4i, e_inc_4i, e_is_4o, e_as_4o, e_ls_4o, e_inc_4o, e_is_4n, e_as_4n, e_ls_4n, e_inc_4n, e_il_5, e_al_5, e_ll_5, e_is_5i, e_as_5i, e_ls_5i, e_inc_5i, e_is_5o, e_as_5o, e_ls_5o, e_inc_5o, e_is_5n, e_as_5n, e_ls_5n, e_inc_5n, e_il_6, e_al_6, e_ll_6, e_is_6i, e_as_6i, e_ls_6i, e_inc_6i, e_is_6o, e_as_6o, e_ls_6o, e_inc_6o, e_is_6n, e_as_6n, e_ls_6n, e_inc_6n, e_il_7, e_al_7, e_ll_7, e_is_7i, e_as_7i, e_ls_7i, e_inc_7i, e_is_7o, e_as_7o, e_ls_7o, e_inc_7o, e_is_7n, e_as_7n, e_ls_7n, e_inc_7n, e_il_8, e_al_8, e_ll_8, e_is_8i, e_as_8i, e_ls_8i, e_inc_8i, e_is_8o, e_as_8o, e_ls_8o, e_inc_8o, e_is_8n, e_as_8n, e_ls_8n, e_inc_8n, e_il_9, e_al_9, e_ll_9, e_is_9i, e_as_9i, e_ls_9i, e_inc_9i, e_is_9o, e_as_9o, e_ls_9o, e_inc_9o, e_is_9n, e_as_9n, e_ls_9n, e_inc_9n, e_il_10, e_al_10, e_ll_10, e_is_10i, e_as_10i, e_ls_10i, e_inc_10i, e_is_10o, e_as_10o, e_ls_10o, e_inc_10o, e_is_10n, e_as_10n, e_ls_10n, e_inc_10n, e_il_11, e_al_11, e_ll_11, e_is_11i, e_as_11i, e_ls_11i, e_inc_11i, e_is_11o, e_as_11o, e_ls_11o, e_inc_11o, e_is_11n, e_as_11n, e_ls_11n, e_inc_11n, e_il_12, e_al_12, e_ll_12, e_is_12i, e_as_12i, e_ls_12i, e_inc_12i, e_is_12o, e_as_12o, e_ls_12o, e_inc_12o, e_is_12n, e_as_12n, e_ls_12n, e_inc_12n, e_dup_i, e_pop_i, e_dup2_ii, e_dup2_io, e_dup_o, e_pop_o, e_dup2_oi, e_dup2_oo, e_ir, e_zr, e_br, e_lr, e_ar, e_vr, e_cut, e_cS_0, e_cV_1, e_cS_1, e_cV_2, e_cS_2, e_cV_3, e_cS_3, e_cV_4, e_cS_4, e_cV_5, e_cS_5, e_cV_6, e_cS_6, e_cV_7, e_cS_7, e_swn, e_swc, e_tls, e_tln, gI_sI, gI_sA, gR_sI, gR_sA, gI_sR, gR_sR, hN_sI, hN_sA, hN_sR, isO_sI, isO_sA, isO_sR, isAr_sI, isAr_sA, isAr_sR, hC_sI, hC_sA, hC_sR, hZ_sI, hZ_sA, hZ_sR, MW_sI, MW_sA, true_and, and_true, true_or, or_true, and_self, forall_const, imp_self, implies_true, if_true, if_false, false_and, and_false, false_or, or_false, not_false_eq_true, not_true_eq_false, sI_sI, entA, fitL, List.length_cons, List.length_nil, List.nil_append, List.cons_append, false_imp_iff, true_imp_iff, mr_tape w, mr_text w, mr_words w, mr_wordSize w, mr_subs w, mr_subSize w, mr_asked w, mr_pile w, mr_pileSize w, mr_opened w, mr_openedAt w, mr_begun w, mr_cells w, mr_keptCells w, mr_name w, mr_isLeft w, mr_isDone w, mr_keptLeft w, mr_keptDone w, mr_state w, mr_keptState w, mr_newOf w, mr_oldOf w, mr_spare w, mr_spareDone w, mr_out w, mr_metFrom w, mr_metBy w, mr_far w, mr_low w, mr_lows w, mr_lowSize w, mr_triedRow w, mr_triedColumn w, mr_triedValue w, mr_triedRows w, mr_sheet w, ma_tape w, ma_text w, ma_words w, ma_wordSize w, ma_subs w, ma_subSize w, ma_asked w, ma_pile w, ma_pileSize w, ma_opened w, ma_openedAt w, ma_begun w, ma_cells w, ma_keptCells w, ma_name w, ma_isLeft w, ma_isDone w, ma_keptLeft w, ma_keptDone w, ma_state w, ma_keptState w, ma_newOf w, ma_oldOf w, ma_spare w, ma_spareDone w, ma_out w, ma_metFrom w, ma_metBy w, ma_far w, ma_low w, ma_lows w, ma_lowSize w, ma_triedRow w, ma_triedColumn w, ma_triedValue w, ma_triedRows w, ma_sheet w, ml_tape, ml_text, ml_words, ml_wordSize, ml_subs, ml_subSize, ml_asked, ml_pile, ml_pileSize, ml_opened, ml_openedAt, ml_begun, ml_cells, ml_keptCells, ml_name, ml_isLeft, ml_isDone, ml_keptLeft, ml_keptDone, ml_state, ml_keptState, ml_newOf, ml_oldOf, ml_spare, ml_spareDone, ml_out, ml_metFrom, ml_metBy, ml_far, ml_low, ml_lows, ml_lowSize, ml_triedRow, ml_triedColumn, ml_triedValue, ml_triedRows, ml_sheet, mo_O w]
    refine ⟨0, by rw [hf]; rfl, by omega, ?_, fun j hj => by omega⟩
    rw [hf, show gI h pMo 19 + ((0 : Nat) : Int) = gI h pMo 19 by omega]
    exact sI_id.symm
/-- powers one by one; none more once it is too long -/
def pwW (u : List Int) : Nat → List Int
  | 0 => []
  | k + 1 => if 40 < (pwW u k).length then pwW u k else jnW (pwW u k) u
theorem pwW_len {u : List Int} : ∀ {k : Nat}, (pwW u k).length ≤ 40 + u.length
  | 0 => Nat.zero_le _
  | k + 1 => by
    have ih := pwW_len (u := u) (k := k)
    show (if 40 < (pwW u k).length then pwW u k else jnW (pwW u k) u).length ≤ _
    split
    · exact ih
    · have := jnW_len (u := u) (w := pwW u k)
      omega
theorem pwW_in {P : Int → Prop} {u : List Int} (hu : ∀ x, x ∈ u → P x) : ∀ {k : Nat}, ∀ x, x ∈ pwW u k → P x
  | 0, x, hx => by simp [pwW] at hx
  | k + 1, x, hx => by
    have hx' : x ∈ (if 40 < (pwW u k).length then pwW u k else jnW (pwW u k) u) := hx
    split at hx'
    · exact pwW_in hu x hx'
    · exact jnW_in (pwW_in hu) hu x hx'
theorem pwW_stay {u : List Int} {k : Nat} (h : 40 < (pwW u k).length) : ∀ n, k ≤ n → pwW u n = pwW u k := by
  intro n
  induction n with
  | zero => intro z; rw [Nat.le_zero.mp z]
  | succ n ih =>
    intro z
    by_cases e : k = n + 1
    · rw [e]
    · have := ih (by omega)
      show (if 40 < (pwW u n).length then pwW u n else _) = _
      rw [this, if_pos h]
/-- a FACTOR's power: what word, how often, where reading stands; a fault with its place -/
def prF (ch : Int → Int) (sz at' : Int) (u : List Int) : Int × Int × List Int × Int × Int :=
  if ch (skA ch sz at') = 94 then
    (if ch (skA ch sz (skA ch sz at' + 1)) = 45 then
      (if dgE ch sz (skA ch sz (skA ch sz (skA ch sz at' + 1) + 1)) = skA ch sz (skA ch sz (skA ch sz at' + 1) + 1) then (1, skA ch sz (skA ch sz (skA ch sz at' + 1) + 1), [], 0, 0)
       else if 99 < nmV ch sz (skA ch sz (skA ch sz (skA ch sz at' + 1) + 1)) then (4, skA ch sz (skA ch sz (skA ch sz at' + 1) + 1), [], 0, 0)
       else (0, 0, trn u, nmV ch sz (skA ch sz (skA ch sz (skA ch sz at' + 1) + 1)), dgE ch sz (skA ch sz (skA ch sz (skA ch sz at' + 1) + 1))))
     else
      (if dgE ch sz (skA ch sz (skA ch sz at' + 1)) = skA ch sz (skA ch sz at' + 1) then (1, skA ch sz (skA ch sz at' + 1), [], 0, 0)
       else if 99 < nmV ch sz (skA ch sz (skA ch sz at' + 1)) then (4, skA ch sz (skA ch sz at' + 1), [], 0, 0)
       else (0, 0, u, nmV ch sz (skA ch sz (skA ch sz at' + 1)), dgE ch sz (skA ch sz (skA ch sz at' + 1)))))
  else (0, 0, u, 1, skA ch sz at')
/-- a FACTOR joined to what stands so far -/
def faF (ch : Int → Int) (sz at' : Int) (u s : List Int) (pl : Int) : Int × Int × List Int × Int :=
  if (prF ch sz at' u).1 ≠ 0 then ((prF ch sz at' u).1, (prF ch sz at' u).2.1, [], 0)
  else if 40 < (pwW (prF ch sz at' u).2.2.1 (prF ch sz at' u).2.2.2.1.toNat).length then (2, pl, [], 0)
  else if 40 < (jnW s (pwW (prF ch sz at' u).2.2.1 (prF ch sz at' u).2.2.2.1.toNat)).length then (2, pl, [], 0)
  else (0, 0, jnW s (pwW (prF ch sz at' u).2.2.1 (prF ch sz at' u).2.2.2.1.toNat), (prF ch sz at' u).2.2.2.2)
