/-! THE COMPONENT: Walker: how many cycles of a length -/
def Pcc (b : Nat) (j : Int) : Prop := b = pWa_seen ∨ Pw pSingle b j
theorem ld_one {a : AT} {c : Int} : ldA a [c] = fun r => aE a r c := by
  funext r
  rw [← lwF_ld]
  show (if aE a r c = -2 then -2 else aE a r c) = aE a r c
  split
  · rename_i q; exact q.symm
  · rfl
noncomputable def iC (v f : Int → Int) (l : Int) (S : Int → Prop) (r : Int) : Int := if pB (v r ≠ 0 ∧ S r ∧ (cyN f r : Int) = l) then 1 else 0
theorem iC_ne {v f : Int → Int} {l : Int} {S : Int → Prop} {r : Int} : iC v f l S r ≠ 0 ↔ v r ≠ 0 ∧ S r ∧ (cyN f r : Int) = l := by
  unfold iC
  by_cases q : v r ≠ 0 ∧ S r ∧ (cyN f r : Int) = l
  · rw [pB_t q]; exact ⟨fun _ => q, fun _ => by decide⟩
  · rw [pB_f q]; exact ⟨fun z => absurd rfl z, fun z => absurd z q⟩
theorem iC_add {v f : Int → Int} {l : Int} {S : Int → Prop} {N : Nat} (h : Pmt v N f) (hinv : ∀ r, v r ≠ 0 → (S (f r) ↔ S r)) {r0 : Int} (v0 : v r0 ≠ 0) (n0 : ¬ S r0) : (cnN (iC v f l (fun r => S r ∨ ∃ j, r = itB f j r0)) N : Int) = cnN (iC v f l S) N + if (cyN f r0 : Int) = l then l else 0 := by
  have hnS : ∀ i, ¬ S (itB f i r0) := by
    intro i
    induction i with
    | zero => exact n0
    | succ i ih => exact fun y => ih ((hinv _ (itB_v h v0 i)).mp y)
  by_cases q : (cyN f r0 : Int) = l
  · rw [if_pos q, cnN_list (l := orb f r0 (cyN f r0)) (g := iC v f l S) (orb_nd h v0) (fun x hx => ?_) (fun j j0 j1 hj => ?_), orb_len]
    · push_cast; omega
    · obtain ⟨j, rfl⟩ := (orb_all h v0).mp hx
      have hv := itB_v h v0 j
      have hb := h.1 _ hv
      refine ⟨hb.1, hb.2.1, iC_ne.mpr ⟨hv, Or.inr ⟨j, rfl⟩, by rw [cyN_orb h v0]; exact q⟩, ?_⟩
      apply Classical.byContradiction
      intro z
      exact hnS j (iC_ne.mp z).2.1
    · rw [iC_ne, iC_ne]
      have : ¬ ∃ i, j = itB f i r0 := fun z => hj ((orb_all h v0).mpr z)
      exact ⟨fun z => ⟨z.1, z.2.1.resolve_right this, z.2.2⟩, fun z => ⟨z.1, Or.inl z.2.1, z.2.2⟩⟩
  · rw [if_neg q, cnN_same (g := iC v f l S) (fun j j0 j1 => ?_)]
    · omega
    · rw [iC_ne, iC_ne]
      refine ⟨fun z => ⟨z.1, z.2.1.resolve_right ?_, z.2.2⟩, fun z => ⟨z.1, Or.inl z.2.1, z.2.2⟩⟩
      rintro ⟨i, rfl⟩
      rw [cyN_orb h v0] at z
      exact q z.2.2
theorem inv_add {v f : Int → Int} {S : Int → Prop} {N : Nat} (h : Pmt v N f) (hinv : ∀ r, v r ≠ 0 → (S (f r) ↔ S r)) {r0 : Int} (v0 : v r0 ≠ 0) {r : Int} (hr : v r ≠ 0) : ((S (f r) ∨ ∃ j, f r = itB f j r0) ↔ (S r ∨ ∃ j, r = itB f j r0)) := by
  rw [hinv r hr, orb_inv h v0 hr]
def Ct_Wa_countCycles : CtT := fun av h post => match av with
  | [.inr (.inl (some p)), .inr (.inl (some t)), .inl c, .inl l] => p = pWa ∧ t = pTa ∧ CW h ∧ ∃ (L Q : Int) (a : AT), TaR h L a ∧ WT L Q a ∧ L ≤ 10 ∧ (∀ r c, VV a r → 0 ≤ c → c < L → aE a r c ≠ -2) ∧ 0 ≤ c ∧ c < L ∧ ∀ h', FrP Pcc h h' → post (some (.inl (ccV (aV a) (fun r => aE a r c) (aN a) l))) h'
  | _ => False
theorem ce_Wa_countCycles {p : Nat} {t : Nat} {c : Int} {l : Int} {h : PH} {post : TR} : Ct_Wa_countCycles [.inr (.inl (some p)), .inr (.inl (some t)), .inl c, .inl l] h post = (p = pWa ∧ t = pTa ∧ CW h ∧ ∃ (L Q : Int) (a : AT), TaR h L a ∧ WT L Q a ∧ L ≤ 10 ∧ (∀ r c, VV a r → 0 ≤ c → c < L → aE a r c ≠ -2) ∧ 0 ≤ c ∧ c < L ∧ ∀ h', FrP Pcc h h' → post (some (.inl (ccV (aV a) (fun r => aE a r c) (aN a) l))) h') := rfl
def B_Wa_countCycles_79 : TT := (tt_il 4 tt_ir)
theorem E_Wa_countCycles_79 {K : TK} {R : TR} {ls : LSt} {st : List PV} {h : PH} : B_Wa_countCycles_79 K R ls st h = (tt_il 4 tt_ir) K R ls st h := rfl
theorem S_Wa_countCycles_79 (lc lz : Nat) : Snd md_Wa_countCycles lc lz 79 (B_Wa_countCycles_79) := (snd_il (dget dd_Wa_countCycles 40 rfl) (snd_ir (dget dd_Wa_countCycles 41 rfl) rfl))
def B_Wa_countCycles_70 : TT := (tt_add (tt_is 4 (tt_inc 5 1 (tt_cut 26))))
theorem E_Wa_countCycles_70 {K : TK} {R : TR} {ls : LSt} {st : List PV} {h : PH} : B_Wa_countCycles_70 K R ls st h = (tt_add (tt_is 4 (tt_inc 5 1 (tt_cut 26)))) K R ls st h := rfl
theorem S_Wa_countCycles_70 (lc lz : Nat) : Snd md_Wa_countCycles lc lz 70 (B_Wa_countCycles_70) := (snd_add (dget dd_Wa_countCycles 36 rfl) (snd_is (dget dd_Wa_countCycles 37 rfl) (snd_inc (dget dd_Wa_countCycles 38 rfl) (snd_goto (tg := 26) (dget dd_Wa_countCycles 39 rfl) rfl snd_cut))))
def B_Wa_countCycles_69 : TT := (tt_ci 0 (B_Wa_countCycles_70))
theorem E_Wa_countCycles_69 {K : TK} {R : TR} {ls : LSt} {st : List PV} {h : PH} : B_Wa_countCycles_69 K R ls st h = (tt_ci 0 (B_Wa_countCycles_70)) K R ls st h := rfl
theorem S_Wa_countCycles_69 (lc lz : Nat) : Snd md_Wa_countCycles lc lz 69 (B_Wa_countCycles_69) := (snd_iconst (n := 0) (dget dd_Wa_countCycles 35 rfl) (inR_d rfl) rfl (S_Wa_countCycles_70 lc lz))
def B_Wa_countCycles_26 : TT := (tt_il 5 (tt_al 1 (tt_gI 4 12 (tt_cge (B_Wa_countCycles_79) (tt_al 0 (tt_al 1 (tt_al 0 (tt_gR 5 6 (tt_al 1 (tt_il 5 (tt_cV 4 2 Ct_Ta_slotInOrder (tt_cV 5 4 Ct_Wa_roundOf (tt_is 6 (tt_il 4 (tt_il 6 (tt_zle (B_Wa_countCycles_69) (tt_il 6 (tt_il 3 (tt_cne (B_Wa_countCycles_69) (tt_ci 1 (B_Wa_countCycles_70)))))))))))))))))))))
theorem E_Wa_countCycles_26 {K : TK} {R : TR} {ls : LSt} {st : List PV} {h : PH} : B_Wa_countCycles_26 K R ls st h = (tt_il 5 (tt_al 1 (tt_gI 4 12 (tt_cge (B_Wa_countCycles_79) (tt_al 0 (tt_al 1 (tt_al 0 (tt_gR 5 6 (tt_al 1 (tt_il 5 (tt_cV 4 2 Ct_Ta_slotInOrder (tt_cV 5 4 Ct_Wa_roundOf (tt_is 6 (tt_il 4 (tt_il 6 (tt_zle (B_Wa_countCycles_69) (tt_il 6 (tt_il 3 (tt_cne (B_Wa_countCycles_69) (tt_ci 1 (B_Wa_countCycles_70))))))))))))))))))))) K R ls st h := rfl
theorem S_Wa_countCycles_26 (lc lz : Nat) : Snd md_Wa_countCycles lc lz 26 (B_Wa_countCycles_26) := (snd_il (dget dd_Wa_countCycles 14 rfl) (snd_al_n (n := 1) (dget dd_Wa_countCycles 15 rfl) rfl (snd_gI (kn := 12) fd_Wa_66 rfl (dget dd_Wa_countCycles 16 rfl) (snd_cge (tg := 79) (dget dd_Wa_countCycles 17 rfl) rfl (S_Wa_countCycles_79 lc lz) (snd_al_n (n := 0) (dget dd_Wa_countCycles 18 rfl) rfl (snd_al_n (n := 1) (dget dd_Wa_countCycles 19 rfl) rfl (snd_al_n (n := 0) (dget dd_Wa_countCycles 20 rfl) rfl (snd_gR (kn := 6) fd_Wa_37 rfl (dget dd_Wa_countCycles 21 rfl) (snd_al_n (n := 1) (dget dd_Wa_countCycles 22 rfl) rfl (snd_il (dget dd_Wa_countCycles 23 rfl) (snd_cV (n := 1) met_Ta_slotInOrder mi_Ta_slotInOrder ki_Ta_slotInOrder kv_Ta_slotInOrder ml_Wa_69 rfl (by decide) (dget dd_Wa_countCycles 24 rfl) (snd_cV (n := 3) met_Wa_roundOf mi_Wa_roundOf ki_Wa_roundOf kv_Wa_roundOf ml_Wa_87 rfl (by decide) (dget dd_Wa_countCycles 25 rfl) (snd_is (dget dd_Wa_countCycles 26 rfl) (snd_il (dget dd_Wa_countCycles 27 rfl) (snd_il (dget dd_Wa_countCycles 28 rfl) (snd_zle (tg := 69) (dget dd_Wa_countCycles 29 rfl) rfl (S_Wa_countCycles_69 lc lz) (snd_il (dget dd_Wa_countCycles 30 rfl) (snd_il_n (n := 3) (dget dd_Wa_countCycles 31 rfl) rfl (snd_cne (tg := 69) (dget dd_Wa_countCycles 32 rfl) rfl (S_Wa_countCycles_69 lc lz) (snd_iconst (n := 1) (dget dd_Wa_countCycles 33 rfl) (inR_d rfl) rfl (snd_goto (tg := 70) (dget dd_Wa_countCycles 34 rfl) rfl (S_Wa_countCycles_70 lc lz))))))))))))))))))))))
def B_Wa_countCycles_0 : TT := (tt_al 0 (tt_gR 5 6 (tt_cV 6 1 Ct_Wo_clear (tt_al 0 (tt_gR 5 6 (tt_il 2 (tt_cV 6 2 Ct_Wo_join (tt_pop (tt_al 0 (tt_cV 5 1 Ct_Wa_forgetSeen (tt_ci 0 (tt_is 4 (tt_ci 0 (tt_is 5 (tt_cut 26)))))))))))))))
theorem E_Wa_countCycles_0 {K : TK} {R : TR} {ls : LSt} {st : List PV} {h : PH} : B_Wa_countCycles_0 K R ls st h = (tt_al 0 (tt_gR 5 6 (tt_cV 6 1 Ct_Wo_clear (tt_al 0 (tt_gR 5 6 (tt_il 2 (tt_cV 6 2 Ct_Wo_join (tt_pop (tt_al 0 (tt_cV 5 1 Ct_Wa_forgetSeen (tt_ci 0 (tt_is 4 (tt_ci 0 (tt_is 5 (tt_cut 26))))))))))))))) K R ls st h := rfl
theorem S_Wa_countCycles_0 (lc lz : Nat) : Snd md_Wa_countCycles lc lz 0 (B_Wa_countCycles_0) := (snd_al_n (n := 0) (dget dd_Wa_countCycles 0 rfl) rfl (snd_gR (kn := 6) fd_Wa_37 rfl (dget dd_Wa_countCycles 1 rfl) (snd_cV (n := 0) met_Wo_clear mi_Wo_clear ki_Wo_clear kv_Wo_clear ml_Wa_80 rfl (by decide) (dget dd_Wa_countCycles 2 rfl) (snd_al_n (n := 0) (dget dd_Wa_countCycles 3 rfl) rfl (snd_gR (kn := 6) fd_Wa_37 rfl (dget dd_Wa_countCycles 4 rfl) (snd_il_n (n := 2) (dget dd_Wa_countCycles 5 rfl) rfl (snd_cV (n := 1) met_Wo_join mi_Wo_join ki_Wo_join kv_Wo_join ml_Wa_83 rfl (by decide) (dget dd_Wa_countCycles 6 rfl) (snd_pop (dget dd_Wa_countCycles 7 rfl) (snd_al_n (n := 0) (dget dd_Wa_countCycles 8 rfl) rfl (snd_cV (n := 0) met_Wa_forgetSeen mi_Wa_forgetSeen ki_Wa_forgetSeen kv_Wa_forgetSeen ml_Wa_41 rfl (by decide) (dget dd_Wa_countCycles 9 rfl) (snd_iconst (n := 0) (dget dd_Wa_countCycles 10 rfl) (inR_d rfl) rfl (snd_is (dget dd_Wa_countCycles 11 rfl) (snd_iconst (n := 0) (dget dd_Wa_countCycles 12 rfl) (inR_d rfl) rfl (snd_is (dget dd_Wa_countCycles 13 rfl) snd_cut))))))))))))))
theorem met_Wa_countCycles : MetP y_Wa_countCycles md_Wa_countCycles (fun _ => 0) (fun _ => 0) Ct_Wa_countCycles := by
  refine metL1 (body := B_Wa_countCycles_0) (B1 := B_Wa_countCycles_26) (by decide) rfl rfl (fun lc lz => S_Wa_countCycles_0 lc lz) (fun lc lz => S_Wa_countCycles_26 lc lz) ?_
  intro av h post hc hH hav
  unfold Ct_Wa_countCycles at hc
  split at hc
  rotate_left
  · exact hc.elim
  rename_i p t c l
  obtain ⟨rfl, rfl, w, L, Q, a, hT, hW, L10, hfull, c0, c1, hp⟩ := hc
  refine ⟨Nat.le_of_ble_eq_true rfl, ?_⟩
  obtain ⟨tS, tO, tE, tP⟩ := id hT
  have huL : ∀ d, d ∈ [c] → 0 ≤ d ∧ d < L := fun d hd => by rw [List.mem_singleton.mp hd]; exact ⟨c0, c1⟩
  have hPm := ld_Pmt hW hfull huL
  obtain ⟨Nu, hNu⟩ : ∃ Nu, Nu = gI h pTa_numbers := ⟨_, rfl⟩
  obtain ⟨Or', hOr⟩ : ∃ Or', Or' = gI h pTa_order := ⟨_, rfl⟩
  obtain ⟨n, hn⟩ : ∃ n, n = gI h pTa 12 := ⟨_, rfl⟩
  obtain ⟨f, hf⟩ : ∃ f, f = ldA a [c] := ⟨_, rfl⟩
  rw [← hNu] at tO tE
  rw [← hOr, ← hn] at tO
  rw [← ld_one, ← hf] at hp
  rw [← hf] at hPm
  have n300 : 1 ≤ n ∧ n ≤ 300 := by
    have g := hW.2.2.2.2.2.1
    have e : n = aS a 1 := by rw [hn, tS.2.1]
    obtain ⟨j, j0, j1, -⟩ := tO.2.2.1 0 ⟨by omega, by omega, by rw [tO.2.2.2.2.2]; decide⟩
    omega
  have hv : ∀ t, lfS Nu t → aV a (Nu t) ≠ 0 := fun t ht => (tE.1 _).mpr ⟨t, ht, rfl⟩
  have wS : wP pSingle := ⟨by decide, by decide⟩
  have keep : ∀ h1, FrP Pcc h h1 → gI h1 pTa_numbers = Nu ∧ gI h1 pTa_order = Or' ∧ gI h1 pTa 12 = n ∧ TaR h1 L a := by
    intro h1 f1
    have e : ∀ b j, b < pWa → ¬ Pcc b j := fun b j hb z => by
      rcases z with rfl | ⟨rfl, -⟩ | rfl <;> exact absurd hb (by decide)
    refine ⟨?_, ?_, ?_, (TaR_fr f1 (fun b j z b0 b1 => e b j ?_ z)).mpr hT⟩
    · rw [FrP_arr f1 (fun j => e _ _ (by decide))]; exact hNu.symm
    · rw [FrP_arr f1 (fun j => e _ _ (by decide))]; exact hOr.symm
    · rw [f1.1 _ _ (e _ _ (by decide))]; exact hn.symm
    · have : pTa + 9 = pWa := by decide
      omega
  refine ⟨fun ls h' => ∃ (cnt k : Int) (x6 : Option PV) (S : Int → Prop), ls = [some (.inr (.inl (some pWa))), some (.inr (.inl (some pTa))), some (.inl c), some (.inl l), some (.inl cnt), some (.inl k), x6] ∧ 0 ≤ k ∧ k ≤ n ∧ 0 ≤ cnt ∧ cnt ≤ k ∧ FrP Pcc h h' ∧ WR h' pSingle [c] ∧ snR h' Nu S ∧ (∀ r, aV a r ≠ 0 → (S (f r) ↔ S r)) ∧ (∀ j, 0 ≤ j → j < k → S (Nu (Or' j))) ∧ (1 ≤ l → cnt * l = cnN (iC (aV a) f l S) (aN a)) ∧ (l < 1 → cnt = 0), fun _ ls _ => (1000 - locI ls 5).toNat, ?_, ?_⟩
  · rintro ls h1 ⟨cnt, k, x6, S, rfl, k0, k1, b0, b1, f1, hw, hS, hinv, hall, hc1, hc2⟩
    have w1 := FrP_CW f1 w
    obtain ⟨e1, e2, e3, hT1⟩ := keep h1 f1
    simp (decide := true) only [↓E_Wa_countCycles_0, ↓E_Wa_countCycles_26, ↓E_Wa_countCycles_69, ↓E_Wa_countCycles_70, ↓E_Wa_countCycles_79, ↓ce_Wo_clear, ↓ce_Wo_join, ↓ce_Wa_forgetSeen, ↓ce_Ta_slotInOrder, ↓ce_Wa_roundOf, ↓e_ci, ↓e_cl, ↓e_nul, ↓e_add, ↓e_sub, ↓e_mul, ↓e_ladd, ↓e_lmul, ↓e_div, ↓e_rem, ↓e_ldiv, ↓e_lrem, ↓e_zeq, ↓e_zne, ↓e_zlt, ↓e_zge, ↓e_zgt, ↓e_zle, ↓e_ceq, ↓e_cne, ↓e_clt, ↓e_cge, ↓e_cgt, ↓e_cle, ↓e_nn, ↓e_gI, ↓e_gR, ↓e_pI, ↓e_pZ, ↓e_pR, ↓e_ia, ↓e_ba, ↓e_za, ↓e_iS, ↓e_bS, ↓e_zS, ↓e_aa, ↓e_aS, ↓e_len, ↓e_and, ↓e_xor, ↓e_shr, ↓e_ushr, ↓e_lcmp, ↓e_i2b, ↓e_i2l, ↓e_l2i, ↓e_sw, ↓e_min, ↓e_max, ↓e_acp, ↓e_il_0, ↓e_al_0, ↓e_ll_0, ↓e_is_0n, ↓e_as_0n, ↓e_ls_0n, ↓e_inc_0n, ↓e_il_1, ↓e_al_1, ↓e_ll_1, ↓e_is_1i, ↓e_as_1i, ↓e_ls_1i, ↓e_inc_1i, ↓e_is_1o, ↓e_as_1o, ↓e_ls_1o, ↓e_inc_1o, ↓e_is_1n, ↓e_as_1n, ↓e_ls_1n, ↓e_inc_1n, ↓e_il_2, ↓e_al_2, ↓e_ll_2, ↓e_is_2i, ↓e_as_2i, ↓e_ls_2i, ↓e_inc_2i, ↓e_is_2o, ↓e_as_2o, ↓e_ls_2o, ↓e_inc_2o, ↓e_is_2n, ↓e_as_2n, ↓e_ls_2n, ↓e_inc_2n, ↓e_il_3, ↓e_al_3, ↓e_ll_3, ↓e_is_3i, ↓e_as_3i, ↓e_ls_3i, ↓e_inc_3i, ↓e_is_3o, ↓e_as_3o, ↓e_ls_3o, ↓e_inc_3o, ↓e_is_3n, ↓e_as_3n, ↓e_ls_3n, ↓e_inc_3n, ↓e_il_4, ↓e_al_4, ↓e_ll_4, ↓e_is_4i, ↓e_as_4i, ↓e_ls_4i, ↓e_inc_4i, ↓e_is_4o, ↓e_as_4o, ↓e_ls_4o, ↓e_inc_4o, ↓e_is_4n, ↓e_as_4n, ↓e_ls_4n, ↓e_inc_4n, ↓e_il_5, ↓e_al_5, ↓e_ll_5, ↓e_is_5i, ↓e_as_5i, ↓e_ls_5i, ↓e_inc_5i, ↓e_is_5o, ↓e_as_5o, ↓e_ls_5o, ↓e_inc_5o, ↓e_is_5n, ↓e_as_5n, ↓e_ls_5n, ↓e_inc_5n, ↓e_il_6, ↓e_al_6, ↓e_ll_6, ↓e_is_6i, ↓e_as_6i, ↓e_ls_6i, ↓e_inc_6i, ↓e_is_6o, ↓e_as_6o, ↓e_ls_6o, ↓e_inc_6o, ↓e_is_6n, ↓e_as_6n, ↓e_ls_6n, ↓e_inc_6n, ↓e_il_7, ↓e_al_7, ↓e_ll_7, ↓e_is_7i, ↓e_as_7i, ↓e_ls_7i, ↓e_inc_7i, ↓e_is_7o, ↓e_as_7o, ↓e_ls_7o, ↓e_inc_7o, ↓e_is_7n, ↓e_as_7n, ↓e_ls_7n, ↓e_inc_7n, ↓e_il_8, ↓e_al_8, ↓e_ll_8, ↓e_is_8i, ↓e_as_8i, ↓e_ls_8i, ↓e_inc_8i, ↓e_is_8o, ↓e_as_8o, ↓e_ls_8o, ↓e_inc_8o, ↓e_is_8n, ↓e_as_8n, ↓e_ls_8n, ↓e_inc_8n, ↓e_il_9, ↓e_al_9, ↓e_ll_9, ↓e_is_9i, ↓e_as_9i, ↓e_ls_9i, ↓e_inc_9i, ↓e_is_9o, ↓e_as_9o, ↓e_ls_9o, ↓e_inc_9o, ↓e_is_9n, ↓e_as_9n, ↓e_ls_9n, ↓e_inc_9n, ↓e_il_10, ↓e_al_10, ↓e_ll_10, ↓e_is_10i, ↓e_as_10i, ↓e_ls_10i, ↓e_inc_10i, ↓e_is_10o, ↓e_as_10o, ↓e_ls_10o, ↓e_inc_10o, ↓e_is_10n, ↓e_as_10n, ↓e_ls_10n, ↓e_inc_10n, ↓e_il_11, ↓e_al_11, ↓e_ll_11, ↓e_is_11i, ↓e_as_11i, ↓e_ls_11i, ↓e_inc_11i, ↓e_is_11o, ↓e_as_11o, ↓e_ls_11o, ↓e_inc_11o, ↓e_is_11n, ↓e_as_11n, ↓e_ls_11n, ↓e_inc_11n, ↓e_il_12, ↓e_al_12, ↓e_ll_12, ↓e_is_12i, ↓e_as_12i, ↓e_ls_12i, ↓e_inc_12i, ↓e_is_12o, ↓e_as_12o, ↓e_ls_12o, ↓e_inc_12o, ↓e_is_12n, ↓e_as_12n, ↓e_ls_12n, ↓e_inc_12n, ↓e_dup_i, ↓e_pop_i, ↓e_dup2_ii, ↓e_dup2_io, ↓e_dup_o, ↓e_pop_o, ↓e_dup2_oi, ↓e_dup2_oo, ↓e_ir, ↓e_zr, ↓e_br, ↓e_lr, ↓e_ar, ↓e_vr, ↓e_cut, ↓e_cS_0, ↓e_cV_1, ↓e_cS_1, ↓e_cV_2, ↓e_cS_2, ↓e_cV_3, ↓e_cS_3, ↓e_cV_4, ↓e_cS_4, ↓e_cV_5, ↓e_cS_5, ↓e_cV_6, ↓e_cS_6, ↓e_cV_7, ↓e_cS_7, ↓e_swn, ↓e_swc, ↓e_tls, ↓e_tln, E_Wa_countCycles_0, E_Wa_countCycles_26, E_Wa_countCycles_69, E_Wa_countCycles_70, E_Wa_countCycles_79, ce_Wo_clear, ce_Wo_join, ce_Wa_forgetSeen, ce_Ta_slotInOrder, ce_Wa_roundOf, e_ci, e_cl, e_nul, e_add, e_sub, e_mul, e_ladd, e_lmul, e_div, e_rem, e_ldiv, e_lrem, e_zeq, e_zne, e_zlt, e_zge, e_zgt, e_zle, e_ceq, e_cne, e_clt, e_cge, e_cgt, e_cle, e_nn, e_gI, e_gR, e_pI, e_pZ, e_pR, e_ia, e_ba, e_za, e_iS, e_bS, e_zS, e_aa, e_aS, e_len, e_and, e_xor, e_shr, e_ushr, e_lcmp, e_i2b, e_i2l, e_l2i, e_sw, e_min, e_max, e_acp, e_il_0, e_al_0, e_ll_0, e_is_0n, e_as_0n, e_ls_0n, e_inc_0n, e_il_1, e_al_1, e_ll_1, e_is_1i, e_as_1i, e_ls_1i, e_inc_1i, e_is_1o, e_as_1o, e_ls_1o, e_inc_1o, e_is_1n, e_as_1n, e_ls_1n, e_inc_1n, e_il_2, e_al_2, e_ll_2, e_is_2i, e_as_2i, e_ls_2i, e_inc_2i, e_is_2o, e_as_2o, e_ls_2o, e_inc_2o, e_is_2n, e_as_2n, e_ls_2n, e_inc_2n, e_il_3, e_al_3, e_ll_3, e_is_3i, e_as_3i, e_ls_3i, e_inc_3i, e_is_3o, e_as_3o, e_ls_3o, e_inc_3o, e_is_3n, e_as_3n, e_ls_3n, e_inc_3n, e_il_4, e_al_4, e_ll_4, e_is_4i, e_as_4i, e_ls_4i, e_inc_4i, e_is_4o, e_as_4o, e_ls_4o, e_inc_4o, e_is_4n, e_as_4n, e_ls_4n, e_inc_4n, e_il_5, e_al_5, e_ll_5, e_is_5i, e_as_5i, e_ls_5i, e_inc_5i, e_is_5o, e_as_5o, e_ls_5o, e_inc_5o, e_is_5n, e_as_5n, e_ls_5n, e_inc_5n, e_il_6, e_al_6, e_ll_6, e_is_6i, e_as_6i, e_ls_6i, e_inc_6i, e_is_6o, e_as_6o, e_ls_6o, e_inc_6o, e_is_6n, e_as_6n, e_ls_6n, e_inc_6n, e_il_7, e_al_7, e_ll_7, e_is_7i, e_as_7i, e_ls_7i, e_inc_7i, e_is_7o, e_as_7o, e_ls_7o, e_inc_7o, e_is_7n, e_as_7n, e_ls_7n, e_inc_7n, e_il_8, e_al_8, e_ll_8, e_is_8i, e_as_8i, e_ls_8i, e_inc_8i, e_is_8o, e_as_8o, e_ls_8o, e_inc_8o, e_is_8n, e_as_8n, e_ls_8n, e_inc_8n, e_il_9, e_al_9, e_ll_9, e_is_9i, e_as_9i, e_ls_9i, e_inc_9i, e_is_9o, e_as_9o, e_ls_9o, e_inc_9o, e_is_9n, e_as_9n, e_ls_9n, e_inc_9n, e_il_10, e_al_10, e_ll_10, e_is_10i, e_as_10i, e_ls_10i, e_inc_10i, e_is_10o, e_as_10o, e_ls_10o, e_inc_10o, e_is_10n, e_as_10n, e_ls_10n, e_inc_10n, e_il_11, e_al_11, e_ll_11, e_is_11i, e_as_11i, e_ls_11i, e_inc_11i, e_is_11o, e_as_11o, e_ls_11o, e_inc_11o, e_is_11n, e_as_11n, e_ls_11n, e_inc_11n, e_il_12, e_al_12, e_ll_12, e_is_12i, e_as_12i, e_ls_12i, e_inc_12i, e_is_12o, e_as_12o, e_ls_12o, e_inc_12o, e_is_12n, e_as_12n, e_ls_12n, e_inc_12n, e_dup_i, e_pop_i, e_dup2_ii, e_dup2_io, e_dup_o, e_pop_o, e_dup2_oi, e_dup2_oo, e_ir, e_zr, e_br, e_lr, e_ar, e_vr, e_cut, e_cS_0, e_cV_1, e_cS_1, e_cV_2, e_cS_2, e_cV_3, e_cS_3, e_cV_4, e_cS_4, e_cV_5, e_cS_5, e_cV_6, e_cS_6, e_cV_7, e_cS_7, e_swn, e_swc, e_tls, e_tln, gI_sI, gI_sA, gR_sI, gR_sA, gI_sR, gR_sR, hN_sI, hN_sA, hN_sR, isO_sI, isO_sA, isO_sR, isAr_sI, isAr_sA, isAr_sR, hC_sI, hC_sA, hC_sR, hZ_sI, hZ_sA, hZ_sR, MW_sI, MW_sA, true_and, and_true, true_or, or_true, and_self, forall_const, imp_self, implies_true, if_true, if_false, false_and, and_false, false_or, or_false, not_false_eq_true, not_true_eq_false, sI_sI, entA, fitL, List.length_cons, List.length_nil, List.nil_append, List.cons_append, false_imp_iff, true_imp_iff, pn1, pn2, MW_sI, CW_sI, cr_Ho_0 w1, cr_Ho_3 w1, cr_Ho_4 w1, cr_Ho_5 w1, cr_Ho_6 w1, cr_Ho_7 w1, cr_Ho_8 w1, cr_Ho_9 w1, cr_Ho_13 w1, cr_Ho_15 w1, cr_Ho_16 w1, cr_Ws_0 w1, cr_Ss_0 w1, cr_Re_0 w1, cr_Re_1 w1, cr_Re_2 w1, cr_Re_3 w1, cr_Ta_0 w1, cr_Ta_1 w1, cr_Ta_2 w1, cr_Ta_3 w1, cr_Ta_4 w1, cr_Ta_5 w1, cr_Ta_6 w1, cr_Wa_0 w1, cr_Wa_2 w1, cr_Wa_3 w1, cr_Wa_4 w1, cr_Wa_5 w1, cr_Wa_6 w1, cr_Lo_0 w1, cr_Lo_1 w1, cr_Lo_2 w1, cr_Lo_3 w1, cr_Lo_4 w1, cr_Sh_0 w1, cr_Sh_1 w1, cr_Sh_2 w1, co_Ho w1, ca_Ho_tape w1, cl_Ho_tape, co_Ws w1, co_Ss w1, co_Ask w1, co_Re w1, co_Ta w1, co_Fi w1, co_Wa w1, ca_Ho_told w1, cl_Ho_told, co_Lo w1, co_Sh w1, ca_Ws_e w1, cl_Ws_e, ca_Ss_e w1, cl_Ss_e, ca_Re_sums w1, cl_Re_sums, ca_Re_firsts w1, cl_Re_firsts, co_Atom w1, co_Raised w1, ca_Ta_cells w1, cl_Ta_cells, ca_Ta_numbers w1, cl_Ta_numbers, ca_Ta_done w1, cl_Ta_done, ca_Ta_order w1, cl_Ta_order, ca_Ta_spare w1, cl_Ta_spare, ca_Ta_parents w1, cl_Ta_parents, ca_Ta_melting w1, cl_Ta_melting, ca_Wa_queue w1, cl_Wa_queue, ca_Wa_origins w1, cl_Wa_origins, ca_Wa_vias w1, cl_Wa_vias, ca_Wa_lengths w1, cl_Wa_lengths, ca_Wa_seen w1, cl_Wa_seen, co_Single w1, ca_Lo_cells w1, cl_Lo_cells, ca_Lo_kept w1, cl_Lo_kept, ca_Lo_keptRows w1, cl_Lo_keptRows, ca_Lo_names w1, cl_Lo_names, ca_Lo_met w1, cl_Lo_met, ca_Sh_cells w1, cl_Sh_cells, ca_Sh_seen w1, cl_Sh_seen, ca_Sh_queue w1, cl_Sh_queue, CW_sI, CW_sA, e1, e2, e3, locI, nth]
    refine ⟨fun z => ⟨?_, f1.2.2.2.1, f1.2.2.2.2⟩, fun z => ?_⟩
    · have e : cnt = ccV (aV a) f (aN a) l := by
        unfold ccV
        by_cases q : l < 1
        · rw [if_pos q]; exact hc2 q
        · rw [if_neg q, ← cnN_same (f := iC (aV a) f l S) (fun j j0 j1 => ?_), ← hc1 (by omega)]
          · exact (Int.mul_ediv_cancel cnt (by omega)).symm
          · rw [iC_ne]
            constructor
            · intro z2
              rw [if_pos ⟨z2.1, z2.2.2⟩]; decide
            · intro z2
              have z3 : aV a j ≠ 0 ∧ (cyN f j : Int) = l := Classical.byContradiction fun y => z2 (if_neg y)
              obtain ⟨s, hs, es⟩ := (tE.1 j).mp z3.1
              obtain ⟨i, i0, i1, rfl⟩ := tO.2.2.1 s hs
              exact ⟨z3.1, by rw [← es]; exact hall i i0 (by omega), z3.2⟩
      rw [e]; exact hp h1 f1
    · have hk : k < n := by omega
      have lo := TgO_lf tO k0 hk
      have v0 := hv _ lo
      have cs := cyN_spec hPm v0
      rw [if_pos ⟨k0, hk⟩]
      refine ⟨w1, n300.2, w1, wS, [c], L, Q, a, S, hw, hT1, hW, L10, huL, hfull, lo, hS, fun r hr => by rw [← hf]; exact hinv r hr, fun y => ⟨⟨by omega, by omega⟩, ⟨by omega, by omega⟩, ⟨cnt, k + 1, some (.inl 0), S, ?_, by omega, by omega, b0, by omega, f1, hw, hS, hinv, fun j j0 j1 => ?_, hc1, hc2⟩, by omega⟩, fun y h2 f2 hS2 => ?_⟩
      · rw [Int.add_zero]
      · by_cases e : j = k
        · rw [e]; exact y
        · exact hall j j0 (by omega)
      · rw [← hf] at hS2 ⊢
        have f3 : FrP Pcc h h2 := FrP_trans f1 (FrP_mono (fun _ _ z => Or.inl z) f2)
        have hw2 : WR h2 pSingle [c] := (WR_fr f2 (by unfold Psn; decide) (fun j => by unfold Psn; decide)).mpr hw
        have hall2 : ∀ j, 0 ≤ j → j < k + 1 → (S (Nu (Or' j)) ∨ ∃ i, Nu (Or' j) = itB f i (Nu (Or' k))) := by
          intro j j0 j1
          by_cases e : j = k
          · rw [e]; exact Or.inr ⟨0, rfl⟩
          · exact Or.inl (hall j j0 (by omega))
        have hadd := iC_add (l := l) hPm hinv v0 y
        have cpos := cs.1.1
        refine ⟨fun y2 => by omega, fun y2 => ⟨fun y3 => ⟨⟨by omega, by omega⟩, ⟨by omega, by omega⟩, ⟨cnt, k + 1, some (.inl (cyN f (Nu (Or' k)) : Int)), _, ?_, by omega, by omega, b0, by omega, f3, hw2, hS2, fun r hr => inv_add hPm hinv v0 hr, hall2, fun l1 => ?_, hc2⟩, by omega⟩, fun y3 => ⟨⟨by omega, by omega⟩, ⟨by omega, by omega⟩, ⟨cnt + 1, k + 1, _, _, rfl, by omega, by omega, by omega, by omega, f3, hw2, hS2, fun r hr => inv_add hPm hinv v0 hr, hall2, fun l1 => ?_, fun l1 => by omega⟩, by omega⟩⟩⟩
        · rw [Int.add_zero]
        · rw [hadd, if_neg y3, hc1 l1]; omega
        · rw [hadd, if_pos y3, ← hc1 l1, Int.add_mul]; omega
  · simp (decide := true) only [↓E_Wa_countCycles_0, ↓E_Wa_countCycles_26, ↓E_Wa_countCycles_69, ↓E_Wa_countCycles_70, ↓E_Wa_countCycles_79, ↓ce_Wo_clear, ↓ce_Wo_join, ↓ce_Wa_forgetSeen, ↓ce_Ta_slotInOrder, ↓ce_Wa_roundOf, ↓e_ci, ↓e_cl, ↓e_nul, ↓e_add, ↓e_sub, ↓e_mul, ↓e_ladd, ↓e_lmul, ↓e_div, ↓e_rem, ↓e_ldiv, ↓e_lrem, ↓e_zeq, ↓e_zne, ↓e_zlt, ↓e_zge, ↓e_zgt, ↓e_zle, ↓e_ceq, ↓e_cne, ↓e_clt, ↓e_cge, ↓e_cgt, ↓e_cle, ↓e_nn, ↓e_gI, ↓e_gR, ↓e_pI, ↓e_pZ, ↓e_pR, ↓e_ia, ↓e_ba, ↓e_za, ↓e_iS, ↓e_bS, ↓e_zS, ↓e_aa, ↓e_aS, ↓e_len, ↓e_and, ↓e_xor, ↓e_shr, ↓e_ushr, ↓e_lcmp, ↓e_i2b, ↓e_i2l, ↓e_l2i, ↓e_sw, ↓e_min, ↓e_max, ↓e_acp, ↓e_il_0, ↓e_al_0, ↓e_ll_0, ↓e_is_0n, ↓e_as_0n, ↓e_ls_0n, ↓e_inc_0n, ↓e_il_1, ↓e_al_1, ↓e_ll_1, ↓e_is_1i, ↓e_as_1i, ↓e_ls_1i, ↓e_inc_1i, ↓e_is_1o, ↓e_as_1o, ↓e_ls_1o, ↓e_inc_1o, ↓e_is_1n, ↓e_as_1n, ↓e_ls_1n, ↓e_inc_1n, ↓e_il_2, ↓e_al_2, ↓e_ll_2, ↓e_is_2i, ↓e_as_2i, ↓e_ls_2i, ↓e_inc_2i, ↓e_is_2o, ↓e_as_2o, ↓e_ls_2o, ↓e_inc_2o, ↓e_is_2n, ↓e_as_2n, ↓e_ls_2n, ↓e_inc_2n, ↓e_il_3, ↓e_al_3, ↓e_ll_3, ↓e_is_3i, ↓e_as_3i, ↓e_ls_3i, ↓e_inc_3i, ↓e_is_3o, ↓e_as_3o, ↓e_ls_3o, ↓e_inc_3o, ↓e_is_3n, ↓e_as_3n, ↓e_ls_3n, ↓e_inc_3n, ↓e_il_4, ↓e_al_4, ↓e_ll_4, ↓e_is_4i, ↓e_as_4i, ↓e_ls_4i, ↓e_inc_4i, ↓e_is_4o, ↓e_as_4o, ↓e_ls_4o, ↓e_inc_4o, ↓e_is_4n, ↓e_as_4n, ↓e_ls_4n, ↓e_inc_4n, ↓e_il_5, ↓e_al_5, ↓e_ll_5, ↓e_is_5i, ↓e_as_5i, ↓e_ls_5i, ↓e_inc_5i, ↓e_is_5o, ↓e_as_5o, ↓e_ls_5o, ↓e_inc_5o, ↓e_is_5n, ↓e_as_5n, ↓e_ls_5n, ↓e_inc_5n, ↓e_il_6, ↓e_al_6, ↓e_ll_6, ↓e_is_6i, ↓e_as_6i, ↓e_ls_6i, ↓e_inc_6i, ↓e_is_6o, ↓e_as_6o, ↓e_ls_6o, ↓e_inc_6o, ↓e_is_6n, ↓e_as_6n, ↓e_ls_6n, ↓e_inc_6n, ↓e_il_7, ↓e_al_7, ↓e_ll_7, ↓e_is_7i, ↓e_as_7i, ↓e_ls_7i, ↓e_inc_7i, ↓e_is_7o, ↓e_as_7o, ↓e_ls_7o, ↓e_inc_7o, ↓e_is_7n, ↓e_as_7n, ↓e_ls_7n, ↓e_inc_7n, ↓e_il_8, ↓e_al_8, ↓e_ll_8, ↓e_is_8i, ↓e_as_8i, ↓e_ls_8i, ↓e_inc_8i, ↓e_is_8o, ↓e_as_8o, ↓e_ls_8o, ↓e_inc_8o, ↓e_is_8n, ↓e_as_8n, ↓e_ls_8n, ↓e_inc_8n, ↓e_il_9, ↓e_al_9, ↓e_ll_9, ↓e_is_9i, ↓e_as_9i, ↓e_ls_9i, ↓e_inc_9i, ↓e_is_9o, ↓e_as_9o, ↓e_ls_9o, ↓e_inc_9o, ↓e_is_9n, ↓e_as_9n, ↓e_ls_9n, ↓e_inc_9n, ↓e_il_10, ↓e_al_10, ↓e_ll_10, ↓e_is_10i, ↓e_as_10i, ↓e_ls_10i, ↓e_inc_10i, ↓e_is_10o, ↓e_as_10o, ↓e_ls_10o, ↓e_inc_10o, ↓e_is_10n, ↓e_as_10n, ↓e_ls_10n, ↓e_inc_10n, ↓e_il_11, ↓e_al_11, ↓e_ll_11, ↓e_is_11i, ↓e_as_11i, ↓e_ls_11i, ↓e_inc_11i, ↓e_is_11o, ↓e_as_11o, ↓e_ls_11o, ↓e_inc_11o, ↓e_is_11n, ↓e_as_11n, ↓e_ls_11n, ↓e_inc_11n, ↓e_il_12, ↓e_al_12, ↓e_ll_12, ↓e_is_12i, ↓e_as_12i, ↓e_ls_12i, ↓e_inc_12i, ↓e_is_12o, ↓e_as_12o, ↓e_ls_12o, ↓e_inc_12o, ↓e_is_12n, ↓e_as_12n, ↓e_ls_12n, ↓e_inc_12n, ↓e_dup_i, ↓e_pop_i, ↓e_dup2_ii, ↓e_dup2_io, ↓e_dup_o, ↓e_pop_o, ↓e_dup2_oi, ↓e_dup2_oo, ↓e_ir, ↓e_zr, ↓e_br, ↓e_lr, ↓e_ar, ↓e_vr, ↓e_cut, ↓e_cS_0, ↓e_cV_1, ↓e_cS_1, ↓e_cV_2, ↓e_cS_2, ↓e_cV_3, ↓e_cS_3, ↓e_cV_4, ↓e_cS_4, ↓e_cV_5, ↓e_cS_5, ↓e_cV_6, ↓e_cS_6, ↓e_cV_7, ↓e_cS_7, ↓e_swn, ↓e_swc, ↓e_tls, ↓e_tln, E_Wa_countCycles_0, E_Wa_countCycles_26, E_Wa_countCycles_69, E_Wa_countCycles_70, E_Wa_countCycles_79, ce_Wo_clear, ce_Wo_join, ce_Wa_forgetSeen, ce_Ta_slotInOrder, ce_Wa_roundOf, e_ci, e_cl, e_nul, e_add, e_sub, e_mul, e_ladd, e_lmul, e_div, e_rem, e_ldiv, e_lrem, e_zeq, e_zne, e_zlt, e_zge, e_zgt, e_zle, e_ceq, e_cne, e_clt, e_cge, e_cgt, e_cle, e_nn, e_gI, e_gR, e_pI, e_pZ, e_pR, e_ia, e_ba, e_za, e_iS, e_bS, e_zS, e_aa, e_aS, e_len, e_and, e_xor, e_shr, e_ushr, e_lcmp, e_i2b, e_i2l, e_l2i, e_sw, e_min, e_max, e_acp, e_il_0, e_al_0, e_ll_0, e_is_0n, e_as_0n, e_ls_0n, e_inc_0n, e_il_1, e_al_1, e_ll_1, e_is_1i, e_as_1i, e_ls_1i, e_inc_1i, e_is_1o, e_as_1o, e_ls_1o, e_inc_1o, e_is_1n, e_as_1n, e_ls_1n, e_inc_1n, e_il_2, e_al_2, e_ll_2, e_is_2i, e_as_2i, e_ls_2i, e_inc_2i, e_is_2o, e_as_2o, e_ls_2o, e_inc_2o, e_is_2n, e_as_2n, e_ls_2n, e_inc_2n, e_il_3, e_al_3, e_ll_3, e_is_3i, e_as_3i, e_ls_3i, e_inc_3i, e_is_3o, e_as_3o, e_ls_3o, e_inc_3o, e_is_3n, e_as_3n, e_ls_3n, e_inc_3n, e_il_4, e_al_4, e_ll_4, e_is_4i, e_as_4i, e_ls_4i, e_inc_4i, e_is_4o, e_as_4o, e_ls_4o, e_inc_4o, e_is_4n, e_as_4n, e_ls_4n, e_inc_4n, e_il_5, e_al_5, e_ll_5, e_is_5i, e_as_5i, e_ls_5i, e_inc_5i, e_is_5o, e_as_5o, e_ls_5o, e_inc_5o, e_is_5n, e_as_5n, e_ls_5n, e_inc_5n, e_il_6, e_al_6, e_ll_6, e_is_6i, e_as_6i, e_ls_6i, e_inc_6i, e_is_6o, e_as_6o, e_ls_6o, e_inc_6o, e_is_6n, e_as_6n, e_ls_6n, e_inc_6n, e_il_7, e_al_7, e_ll_7, e_is_7i, e_as_7i, e_ls_7i, e_inc_7i, e_is_7o, e_as_7o, e_ls_7o, e_inc_7o, e_is_7n, e_as_7n, e_ls_7n, e_inc_7n, e_il_8, e_al_8, e_ll_8, e_is_8i, e_as_8i, e_ls_8i, e_inc_8i, e_is_8o, e_as_8o, e_ls_8o, e_inc_8o, e_is_8n, e_as_8n, e_ls_8n, e_inc_8n, e_il_9, e_al_9, e_ll_9, e_is_9i, e_as_9i, e_ls_9i, e_inc_9i, e_is_9o, e_as_9o, e_ls_9o, e_inc_9o, e_is_9n, e_as_9n, e_ls_9n, e_inc_9n, e_il_10, e_al_10, e_ll_10, e_is_10i, e_as_10i, e_ls_10i, e_inc_10i, e_is_10o, e_as_10o, e_ls_10o, e_inc_10o, e_is_10n, e_as_10n, e_ls_10n, e_inc_10n, e_il_11, e_al_11, e_ll_11, e_is_11i, e_as_11i, e_ls_11i, e_inc_11i, e_is_11o, e_as_11o, e_ls_11o, e_inc_11o, e_is_11n, e_as_11n, e_ls_11n, e_inc_11n, e_il_12, e_al_12, e_ll_12, e_is_12i, e_as_12i, e_ls_12i, e_inc_12i, e_is_12o, e_as_12o, e_ls_12o, e_inc_12o, e_is_12n, e_as_12n, e_ls_12n, e_inc_12n, e_dup_i, e_pop_i, e_dup2_ii, e_dup2_io, e_dup_o, e_pop_o, e_dup2_oi, e_dup2_oo, e_ir, e_zr, e_br, e_lr, e_ar, e_vr, e_cut, e_cS_0, e_cV_1, e_cS_1, e_cV_2, e_cS_2, e_cV_3, e_cS_3, e_cV_4, e_cS_4, e_cV_5, e_cS_5, e_cV_6, e_cS_6, e_cV_7, e_cS_7, e_swn, e_swc, e_tls, e_tln, gI_sI, gI_sA, gR_sI, gR_sA, gI_sR, gR_sR, hN_sI, hN_sA, hN_sR, isO_sI, isO_sA, isO_sR, isAr_sI, isAr_sA, isAr_sR, hC_sI, hC_sA, hC_sR, hZ_sI, hZ_sA, hZ_sR, MW_sI, MW_sA, true_and, and_true, true_or, or_true, and_self, forall_const, imp_self, implies_true, if_true, if_false, false_and, and_false, false_or, or_false, not_false_eq_true, not_true_eq_false, sI_sI, entA, fitL, List.length_cons, List.length_nil, List.nil_append, List.cons_append, false_imp_iff, true_imp_iff, pn1, pn2, MW_sI, CW_sI, cr_Ho_0 w, cr_Ho_3 w, cr_Ho_4 w, cr_Ho_5 w, cr_Ho_6 w, cr_Ho_7 w, cr_Ho_8 w, cr_Ho_9 w, cr_Ho_13 w, cr_Ho_15 w, cr_Ho_16 w, cr_Ws_0 w, cr_Ss_0 w, cr_Re_0 w, cr_Re_1 w, cr_Re_2 w, cr_Re_3 w, cr_Ta_0 w, cr_Ta_1 w, cr_Ta_2 w, cr_Ta_3 w, cr_Ta_4 w, cr_Ta_5 w, cr_Ta_6 w, cr_Wa_0 w, cr_Wa_2 w, cr_Wa_3 w, cr_Wa_4 w, cr_Wa_5 w, cr_Wa_6 w, cr_Lo_0 w, cr_Lo_1 w, cr_Lo_2 w, cr_Lo_3 w, cr_Lo_4 w, cr_Sh_0 w, cr_Sh_1 w, cr_Sh_2 w, co_Ho w, ca_Ho_tape w, cl_Ho_tape, co_Ws w, co_Ss w, co_Ask w, co_Re w, co_Ta w, co_Fi w, co_Wa w, ca_Ho_told w, cl_Ho_told, co_Lo w, co_Sh w, ca_Ws_e w, cl_Ws_e, ca_Ss_e w, cl_Ss_e, ca_Re_sums w, cl_Re_sums, ca_Re_firsts w, cl_Re_firsts, co_Atom w, co_Raised w, ca_Ta_cells w, cl_Ta_cells, ca_Ta_numbers w, cl_Ta_numbers, ca_Ta_done w, cl_Ta_done, ca_Ta_order w, cl_Ta_order, ca_Ta_spare w, cl_Ta_spare, ca_Ta_parents w, cl_Ta_parents, ca_Ta_melting w, cl_Ta_melting, ca_Wa_queue w, cl_Wa_queue, ca_Wa_origins w, cl_Wa_origins, ca_Wa_vias w, cl_Wa_vias, ca_Wa_lengths w, cl_Wa_lengths, ca_Wa_seen w, cl_Wa_seen, co_Single w, ca_Lo_cells w, cl_Lo_cells, ca_Lo_kept w, cl_Lo_kept, ca_Lo_keptRows w, cl_Lo_keptRows, ca_Lo_names w, cl_Lo_names, ca_Lo_met w, cl_Lo_met, ca_Sh_cells w, cl_Sh_cells, ca_Sh_seen w, cl_Sh_seen, ca_Sh_queue w, cl_Sh_queue, CW_sI, CW_sA]
    have ej : jn [] c = [c] := rfl
    have el : lnA (pSingle + 1) = 1 := rfl
    refine ⟨w, wS, w, wS, [], ⟨rfl, by rw [el]; decide, fun k hk => absurd hk (Nat.not_lt_zero k), fun d hd => absurd hd (by simp)⟩, c0, by omega, fun _ h1 f1 hw => ?_, fun z => absurd (show ((jn [] c).length : Int) ≤ lnA (pSingle + 1) by rw [ej, el]; exact Int.le_refl 1) z⟩
    rw [ej] at hw
    have f1' : FrP Pcc h h1 := FrP_trans (FrP_sI (Or.inr (Or.inl ⟨rfl, rfl⟩)) (FrP_refl _ h)) (FrP_mono (fun _ _ z => Or.inr z) f1)
    have w1 := FrP_CW f1' w
    refine ⟨co_Wa w1, w1, fun h2 f2 hz => ⟨0, 0, none, fun _ => False, rfl, by omega, by omega, by omega, by omega, FrP_trans f1' (FrP_mono (fun _ _ z => Or.inl z) f2), (WR_fr f2 (by unfold Psn; decide) (fun j => by unfold Psn; decide)).mpr hw, fun t ht => ?_, fun r _ => Iff.rfl, fun j j0 j1 => by omega, fun _ => ?_, fun _ => rfl⟩⟩
    · rw [hz t ht.1 ht.2.1]; exact ⟨fun z => absurd rfl z, fun z => z.elim⟩
    · rw [Int.zero_mul, cnN_same (g := fun _ => 0) (fun j j0 j1 => ?_)]
      · have : ∀ m, cnN (fun _ => 0) m = 0 := by
          intro m
          induction m with
          | zero => rfl
          | succ m ih => rw [cnN_skip rfl, ih]
        rw [this]; rfl
      · rw [iC_ne]; exact ⟨fun z => z.2.1.elim, fun z => absurd rfl z⟩
