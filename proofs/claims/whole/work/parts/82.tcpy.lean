/-! THE COMPONENT: Table: renumberAs, copyFrom -/
theorem TaG_rn {F C Nu Dn Od Sp Pa F' Nu' Od' : Int → Int} {L Q : Int} {a : AT} (hT : TaG F C Nu Dn Od Sp Pa L a) (hW : WT L Q a) (hf : ∀ r c, VV a r → 0 ≤ c → c < L → aE a r c ≠ -2) (h6 : aS a 6 ≠ 0) (f15 : F' 15 = F 12) (fj : ∀ j, 8 ≤ j → j ≠ 15 → F' j = F j)
    (hq : ∀ k, 0 ≤ k → k < F 12 → lfS Nu (Od' k) ∧ Nu (Od' k) = wf (msA L a) k) (hNu : ∀ k, 0 ≤ k → k < F 12 → Nu' (Od' k) = k) (hNo : ∀ s, (∀ k, 0 ≤ k → k < F 12 → Od' k ≠ s) → Nu' s = Nu s) : TaG F' C Nu' Dn Od' Sp Pa L (rnA L a) := by
  obtain ⟨⟨s1, s2, s3, s4, s5, s6, s7, s8, s9, s10, s11, s12⟩, ho, hE, hP⟩ := hT
  obtain ⟨o1, o2, o3, o4, o5, o6⟩ := id ho
  obtain ⟨m1, m2, m3, m4⟩ := ms_all hW hf
  have hlen : ((msA L a).length : Int) = F 12 := by rw [s2]; exact m3
  have cov : ∀ s, lfS Nu s → ∃ k, 0 ≤ k ∧ k < F 12 ∧ Od' k = s := by
    intro s hs
    have hv : VV a (Nu s) := (hE.1 _).mpr ⟨s, hs, rfl⟩
    have hm := (m1 _).mpr hv
    have hi := ixF_lt hm
    have ha := ixF_at hm
    refine ⟨ixF (msA L a) (Nu s), by omega, by omega, ?_⟩
    obtain ⟨q1, q2⟩ := hq (ixF (msA L a) (Nu s)) (by omega) (by omega)
    rw [ha] at q2
    exact TgO_inj ho q1 hs q2
  have lf : ∀ x, lfS Nu' x ↔ lfS Nu x := by
    intro x
    by_cases z : ∃ k, 0 ≤ k ∧ k < F 12 ∧ Od' k = x
    · obtain ⟨k, k0, k1, rfl⟩ := z
      refine ⟨fun _ => (hq k k0 k1).1, fun y => ⟨y.1, y.2.1, ?_⟩⟩
      rw [hNu k k0 k1]; omega
    · unfold lfS
      rw [hNo x (fun k k0 k1 e => z ⟨k, k0, k1, e⟩)]
  have f12 := fj 12 (by omega) (by omega)
  have n1 : 0 < F 12 := by
    obtain ⟨k, k0, k1, -⟩ := o3 0 ⟨by omega, by omega, by rw [o6]; decide⟩
    omega
  refine ⟨⟨?_, ?_, ?_, ?_, ?_, ?_, ?_, ?_, ?_, ?_, ?_, ?_⟩, ⟨fun k k0 k1 => ?_, fun j k j0 jk k1 => ?_, fun x hx => ?_, fun k k0 k1 => ?_, fun j k j0 jk k1 => ?_, ?_⟩, ⟨fun r => ?_, fun x d hx d0 d1 => ?_, fun x hx => ?_⟩, hP⟩
  · rw [f15, ← hlen]; rfl
  · rw [f12, s2]; rfl
  · rw [fj 13 (by omega) (by omega), s3]; rfl
  · rw [fj 14 (by omega) (by omega), s4]; rfl
  · rw [fj 17 (by omega) (by omega), s5]; rfl
  · rw [fj 18 (by omega) (by omega), s6]; rfl
  · rw [fj 16 (by omega) (by omega), s7]; rfl
  · rw [fj 10 (by omega) (by omega), s8]; rfl
  · rw [fj 9 (by omega) (by omega), s9]; rfl
  · rw [fj 8 (by omega) (by omega)]; exact s10
  · intro z; exact absurd z h6
  · rw [fj 11 (by omega) (by omega)]; exact s12
  · rw [f12] at k1
    rw [hNu k k0 k1]
    have := (hq k k0 k1).1
    exact ⟨this.1, this.2.1, k0⟩
  · rw [f12] at k1
    rw [hNu j j0 (by omega), hNu k (by omega) k1]; exact jk
  · rw [f12]; exact cov x ((lf x).mp hx)
  · rw [f12] at k1
    have := o4 k k0 k1
    refine ⟨this.1, this.2.1, ?_⟩
    rw [hNo _ (fun j j0 j1 e => ?_)]
    · exact this.2.2
    · have := ((hq j j0 j1).1).2.2
      rw [e] at this
      omega
  · rw [f12] at k1; exact o5 j k j0 jk k1
  · obtain ⟨q1, q2⟩ := hq 0 (by omega) n1
    rw [m4] at q2
    have e : Od' 0 = 0 := TgO_inj ho q1 ⟨by omega, by omega, by rw [o6]; decide⟩ (by rw [q2, o6])
    have := hNu 0 (by omega) n1
    rw [e] at this
    exact this
  · rw [VV_rn, hlen]
    constructor
    · intro z
      exact ⟨Od' r, (lf _).mpr (hq r z.1 z.2).1, hNu r z.1 z.2⟩
    · rintro ⟨x, x1, x2⟩
      obtain ⟨k, k0, k1, rfl⟩ := cov x ((lf x).mp x1)
      rw [hNu k k0 k1] at x2
      rw [← x2]; exact ⟨k0, k1⟩
  · obtain ⟨k, k0, k1, rfl⟩ := cov x ((lf x).mp hx)
    obtain ⟨q1, q2⟩ := hq k k0 k1
    have hv : VV a (Nu (Od' k)) := (hE.1 _).mpr ⟨_, q1, rfl⟩
    rcases hE.2.1 _ d q1 d0 d1 with ⟨-, z⟩ | ⟨z1, z2⟩
    · exact absurd z (hf _ _ hv d0 d1)
    · refine Or.inr ⟨(lf _).mpr z1, ?_⟩
      show (if (0 ≤ Nu' (Od' k) ∧ Nu' (Od' k) < ((msA L a).length : Int)) ∧ 0 ≤ d ∧ d < L then (ixF (msA L a) (aE a (wf (msA L a) (Nu' (Od' k))) d) : Int) else -2) = Nu' (C (10 * Od' k + d))
      rw [hNu k k0 k1, if_pos ⟨⟨k0, by omega⟩, d0, d1⟩, ← q2, z2]
      obtain ⟨j, j0, j1, e⟩ := cov _ z1
      rw [← e, hNu j j0 j1, (hq j j0 j1).2]
      have := ixF_wf (l := msA L a) (i := j.toNat) m2 (by omega)
      rw [show ((j.toNat : Nat) : Int) = j by omega] at this
      rw [this]; omega
  · obtain ⟨k, k0, k1, rfl⟩ := cov x ((lf x).mp hx)
    obtain ⟨q1, q2⟩ := hq k k0 k1
    show Dn (Od' k) = if (0 ≤ Nu' (Od' k) ∧ Nu' (Od' k) < ((msA L a).length : Int)) ∧ aD a (wf (msA L a) (Nu' (Od' k))) ≠ 0 then 1 else 0
    rw [hNu k k0 k1, ← q2, hE.2.2 _ q1]
    by_cases z : aD a (Nu (Od' k)) ≠ 0
    · rw [if_pos ⟨⟨k0, by omega⟩, z⟩]; exact (hW.2.2.2.1 _ z).1
    · rw [if_neg (fun y => z y.2)]; exact Classical.byContradiction z
def Ct_Ta_renumberAs : CtT := fun av h post => match av with
  | [.inr (.inl (some p)), .inr (.inl (some b)), .inl n] => p = pTa ∧ b = pWa_queue ∧ CW h ∧ ∃ (L Q : Int) (a : AT), TaR h L a ∧ WT L Q a ∧ (∀ r c, VV a r → 0 ≤ c → c < L → aE a r c ≠ -2) ∧ aS a 6 ≠ 0 ∧ n = gI h pTa 12 ∧ (∀ k, 0 ≤ k → k < n → lfS (gI h pTa_numbers) (gI h pWa_queue k) ∧ gI h pTa_numbers (gI h pWa_queue k) = wf (msA L a) k) ∧ ∀ h', FrP Pt h h' → TaR h' L (rnA L a) → post none h'
  | _ => False
theorem ce_Ta_renumberAs {p : Nat} {b : Nat} {n : Int} {h : PH} {post : TR} : Ct_Ta_renumberAs [.inr (.inl (some p)), .inr (.inl (some b)), .inl n] h post = (p = pTa ∧ b = pWa_queue ∧ CW h ∧ ∃ (L Q : Int) (a : AT), TaR h L a ∧ WT L Q a ∧ (∀ r c, VV a r → 0 ≤ c → c < L → aE a r c ≠ -2) ∧ aS a 6 ≠ 0 ∧ n = gI h pTa 12 ∧ (∀ k, 0 ≤ k → k < n → lfS (gI h pTa_numbers) (gI h pWa_queue k) ∧ gI h pTa_numbers (gI h pWa_queue k) = wf (msA L a) k) ∧ ∀ h', FrP Pt h h' → TaR h' L (rnA L a) → post none h') := rfl
def B_Ta_renumberAs_46 : TT := (tt_al 0 (tt_il 2 (tt_pI 4 15 tt_vr)))
theorem E_Ta_renumberAs_46 {K : TK} {R : TR} {ls : LSt} {st : List PV} {h : PH} : B_Ta_renumberAs_46 K R ls st h = (tt_al 0 (tt_il 2 (tt_pI 4 15 tt_vr))) K R ls st h := rfl
theorem S_Ta_renumberAs_46 (lc lz : Nat) : Snd md_Ta_renumberAs lc lz 46 (B_Ta_renumberAs_46) := (snd_al_n (n := 0) (dget dd_Ta_renumberAs 30 rfl) rfl (snd_il_n (n := 2) (dget dd_Ta_renumberAs 31 rfl) rfl (snd_pI (kn := 15) fd_Ta_60 rfl (dget dd_Ta_renumberAs 32 rfl) (snd_vr (dget dd_Ta_renumberAs 33 rfl) rfl))))
def B_Ta_renumberAs_17 : TT := (tt_il 3 (tt_il 2 (tt_cge (B_Ta_renumberAs_46) (tt_al 0 (tt_gR 4 3 (tt_il 3 (tt_al 1 (tt_il 3 (tt_ia (tt_iS (tt_al 0 (tt_gR 4 1 (tt_al 1 (tt_il 3 (tt_ia (tt_il 3 (tt_iS (tt_inc 3 1 (tt_cut 17)))))))))))))))))))
theorem E_Ta_renumberAs_17 {K : TK} {R : TR} {ls : LSt} {st : List PV} {h : PH} : B_Ta_renumberAs_17 K R ls st h = (tt_il 3 (tt_il 2 (tt_cge (B_Ta_renumberAs_46) (tt_al 0 (tt_gR 4 3 (tt_il 3 (tt_al 1 (tt_il 3 (tt_ia (tt_iS (tt_al 0 (tt_gR 4 1 (tt_al 1 (tt_il 3 (tt_ia (tt_il 3 (tt_iS (tt_inc 3 1 (tt_cut 17))))))))))))))))))) K R ls st h := rfl
theorem S_Ta_renumberAs_17 (lc lz : Nat) : Snd md_Ta_renumberAs lc lz 17 (B_Ta_renumberAs_17) := (snd_il_n (n := 3) (dget dd_Ta_renumberAs 11 rfl) rfl (snd_il_n (n := 2) (dget dd_Ta_renumberAs 12 rfl) rfl (snd_cge (tg := 46) (dget dd_Ta_renumberAs 13 rfl) rfl (S_Ta_renumberAs_46 lc lz) (snd_al_n (n := 0) (dget dd_Ta_renumberAs 14 rfl) rfl (snd_gR (kn := 3) fd_Ta_22 rfl (dget dd_Ta_renumberAs 15 rfl) (snd_il_n (n := 3) (dget dd_Ta_renumberAs 16 rfl) rfl (snd_al_n (n := 1) (dget dd_Ta_renumberAs 17 rfl) rfl (snd_il_n (n := 3) (dget dd_Ta_renumberAs 18 rfl) rfl (snd_ia (dget dd_Ta_renumberAs 19 rfl) (snd_iS (dget dd_Ta_renumberAs 20 rfl) (snd_al_n (n := 0) (dget dd_Ta_renumberAs 21 rfl) rfl (snd_gR (kn := 1) fd_Ta_15 rfl (dget dd_Ta_renumberAs 22 rfl) (snd_al_n (n := 1) (dget dd_Ta_renumberAs 23 rfl) rfl (snd_il_n (n := 3) (dget dd_Ta_renumberAs 24 rfl) rfl (snd_ia (dget dd_Ta_renumberAs 25 rfl) (snd_il_n (n := 3) (dget dd_Ta_renumberAs 26 rfl) rfl (snd_iS (dget dd_Ta_renumberAs 27 rfl) (snd_inc (dget dd_Ta_renumberAs 28 rfl) (snd_goto (tg := 17) (dget dd_Ta_renumberAs 29 rfl) rfl snd_cut)))))))))))))))))))
def B_Ta_renumberAs_15 : TT := (tt_ci 0 (tt_is 3 (tt_cut 17)))
theorem E_Ta_renumberAs_15 {K : TK} {R : TR} {ls : LSt} {st : List PV} {h : PH} : B_Ta_renumberAs_15 K R ls st h = (tt_ci 0 (tt_is 3 (tt_cut 17))) K R ls st h := rfl
theorem S_Ta_renumberAs_15 (lc lz : Nat) : Snd md_Ta_renumberAs lc lz 15 (B_Ta_renumberAs_15) := (snd_iconst (n := 0) (dget dd_Ta_renumberAs 9 rfl) (inR_d rfl) rfl (snd_is_n (n := 3) (dget dd_Ta_renumberAs 10 rfl) rfl snd_cut))
def B_Ta_renumberAs_14 : TT := tt_vr
theorem E_Ta_renumberAs_14 {K : TK} {R : TR} {ls : LSt} {st : List PV} {h : PH} : B_Ta_renumberAs_14 K R ls st h = tt_vr K R ls st h := rfl
theorem S_Ta_renumberAs_14 (lc lz : Nat) : Snd md_Ta_renumberAs lc lz 14 (B_Ta_renumberAs_14) := (snd_vr (dget dd_Ta_renumberAs 8 rfl) rfl)
def B_Ta_renumberAs_0 : TT := (tt_il 2 (tt_al 0 (tt_gI 4 12 (tt_cne (B_Ta_renumberAs_14) (tt_al 1 (tt_len 0 (tt_il 2 (tt_cge (B_Ta_renumberAs_15) (B_Ta_renumberAs_14)))))))))
theorem E_Ta_renumberAs_0 {K : TK} {R : TR} {ls : LSt} {st : List PV} {h : PH} : B_Ta_renumberAs_0 K R ls st h = (tt_il 2 (tt_al 0 (tt_gI 4 12 (tt_cne (B_Ta_renumberAs_14) (tt_al 1 (tt_len 0 (tt_il 2 (tt_cge (B_Ta_renumberAs_15) (B_Ta_renumberAs_14))))))))) K R ls st h := rfl
theorem S_Ta_renumberAs_0 (lc lz : Nat) : Snd md_Ta_renumberAs lc lz 0 (B_Ta_renumberAs_0) := (snd_il_n (n := 2) (dget dd_Ta_renumberAs 0 rfl) rfl (snd_al_n (n := 0) (dget dd_Ta_renumberAs 1 rfl) rfl (snd_gI (kn := 12) fd_Ta_51 rfl (dget dd_Ta_renumberAs 2 rfl) (snd_cne (tg := 14) (dget dd_Ta_renumberAs 3 rfl) rfl (S_Ta_renumberAs_14 lc lz) (snd_al_n (n := 1) (dget dd_Ta_renumberAs 4 rfl) rfl (snd_len (t := 0) (by decide) (dget dd_Ta_renumberAs 5 rfl) inR_ln (snd_il_n (n := 2) (dget dd_Ta_renumberAs 6 rfl) rfl (snd_cge (tg := 15) (dget dd_Ta_renumberAs 7 rfl) rfl (S_Ta_renumberAs_15 lc lz) (S_Ta_renumberAs_14 lc lz)))))))))
theorem met_Ta_renumberAs : MetP y_Ta_renumberAs md_Ta_renumberAs (fun _ => 0) (fun _ => 0) Ct_Ta_renumberAs := by
  refine metL1 (body := B_Ta_renumberAs_0) (B1 := B_Ta_renumberAs_17) (by decide) rfl rfl (fun lc lz => S_Ta_renumberAs_0 lc lz) (fun lc lz => S_Ta_renumberAs_17 lc lz) ?_
  intro av h post hc hH hav
  unfold Ct_Ta_renumberAs at hc
  split at hc
  rotate_left
  · exact hc.elim
  rename_i p b n
  obtain ⟨rfl, rfl, w, L, Q, a, hT, hW, hf, h6, rfl, hq, hp⟩ := hc
  refine ⟨Nat.le_of_ble_eq_true rfl, ?_⟩
  obtain ⟨hS, ho, hE, hP⟩ := id hT
  have l3 := Ta_300 (F := gI h pTa) ho
  obtain ⟨m1, m2, m3, m4⟩ := ms_all hW hf
  have hlen : ((msA L a).length : Int) = gI h pTa 12 := by rw [hS.2.1]; exact m3
  have qi : ∀ j k, 0 ≤ j → j < k → k < gI h pTa 12 → gI h pWa_queue j ≠ gI h pWa_queue k := by
    intro j k j0 jk k1 e
    have e1 := (hq j j0 (by omega)).2
    have e2 := (hq k (by omega) k1).2
    rw [e, e2] at e1
    have a1 := ixF_wf (l := msA L a) (i := j.toNat) m2 (by omega)
    have a2 := ixF_wf (l := msA L a) (i := k.toNat) m2 (by omega)
    rw [show ((j.toNat : Nat) : Int) = j by omega] at a1
    rw [show ((k.toNat : Nat) : Int) = k by omega, e1, a1] at a2
    omega
  refine ⟨fun ls h' => ∃ k : Int, ls = [some (.inr (.inl (some pTa))), some (.inr (.inl (some pWa_queue))), some (.inl (gI h pTa 12)), some (.inl k)] ∧ 0 ≤ k ∧ k ≤ gI h pTa 12 ∧ FrP (fun b _ => b = pTa_numbers ∨ b = pTa_order) h h' ∧ (∀ j, 0 ≤ j → j < k → gI h' pTa_order j = gI h pWa_queue j ∧ gI h' pTa_numbers (gI h pWa_queue j) = j) ∧ (∀ s, (∀ j, 0 ≤ j → j < k → gI h pWa_queue j ≠ s) → gI h' pTa_numbers s = gI h pTa_numbers s), fun _ ls _ => (1000 - locI ls 3).toNat, ?_, ?_⟩
  · rintro ls h' ⟨k, rfl, k0, k1, hF, hk, hn⟩
    have w1 := FrP_CW hF w
    have e : ∀ b, b ≠ pTa_numbers → b ≠ pTa_order → gI h' b = gI h b := fun b hb hb2 => FrP_arr hF (fun j z => z.elim hb hb2)
    have e1 := e pTa (by decide) (by decide)
    have e2 := e pWa_queue (by decide) (by decide)
    simp (decide := true) only [↓E_Ta_renumberAs_0, ↓E_Ta_renumberAs_14, ↓E_Ta_renumberAs_15, ↓E_Ta_renumberAs_17, ↓E_Ta_renumberAs_46, ↓e_ci, ↓e_cl, ↓e_nul, ↓e_add, ↓e_sub, ↓e_mul, ↓e_ladd, ↓e_lmul, ↓e_div, ↓e_rem, ↓e_ldiv, ↓e_lrem, ↓e_zeq, ↓e_zne, ↓e_zlt, ↓e_zge, ↓e_zgt, ↓e_zle, ↓e_ceq, ↓e_cne, ↓e_clt, ↓e_cge, ↓e_cgt, ↓e_cle, ↓e_nn, ↓e_gI, ↓e_gR, ↓e_pI, ↓e_pZ, ↓e_pR, ↓e_ia, ↓e_ba, ↓e_za, ↓e_iS, ↓e_bS, ↓e_zS, ↓e_aa, ↓e_aS, ↓e_len, ↓e_and, ↓e_xor, ↓e_shr, ↓e_ushr, ↓e_lcmp, ↓e_i2b, ↓e_i2l, ↓e_l2i, ↓e_sw, ↓e_min, ↓e_max, ↓e_acp, ↓e_il_0, ↓e_al_0, ↓e_ll_0, ↓e_is_0n, ↓e_as_0n, ↓e_ls_0n, ↓e_inc_0n, ↓e_il_1, ↓e_al_1, ↓e_ll_1, ↓e_is_1i, ↓e_as_1i, ↓e_ls_1i, ↓e_inc_1i, ↓e_is_1o, ↓e_as_1o, ↓e_ls_1o, ↓e_inc_1o, ↓e_is_1n, ↓e_as_1n, ↓e_ls_1n, ↓e_inc_1n, ↓e_il_2, ↓e_al_2, ↓e_ll_2, ↓e_is_2i, ↓e_as_2i, ↓e_ls_2i, ↓e_inc_2i, ↓e_is_2o, ↓e_as_2o, ↓e_ls_2o, ↓e_inc_2o, ↓e_is_2n, ↓e_as_2n, ↓e_ls_2n, ↓e_inc_2n, ↓e_il_3, ↓e_al_3, ↓e_ll_3, ↓e_is_3i, ↓e_as_3i, ↓e_ls_3i, ↓e_inc_3i, ↓e_is_3o, ↓e_as_3o, ↓e_ls_3o, ↓e_inc_3o, ↓e_is_3n, ↓e_as_3n, ↓e_ls_3n, ↓e_inc_3n, ↓e_il_4, ↓e_al_4, ↓e_ll_4, ↓e_is_4i, ↓e_as_4i, ↓e_ls_4i, ↓e_inc_4i, ↓e_is_4o, ↓e_as_4o, ↓e_ls_4o, ↓e_inc_4o, ↓e_is_4n, ↓e_as_4n, ↓e_ls_4n, ↓e_inc_4n, ↓e_il_5, ↓e_al_5, ↓e_ll_5, ↓e_is_5i, ↓e_as_5i, ↓e_ls_5i, ↓e_inc_5i, ↓e_is_5o, ↓e_as_5o, ↓e_ls_5o, ↓e_inc_5o, ↓e_is_5n, ↓e_as_5n, ↓e_ls_5n, ↓e_inc_5n, ↓e_il_6, ↓e_al_6, ↓e_ll_6, ↓e_is_6i, ↓e_as_6i, ↓e_ls_6i, ↓e_inc_6i, ↓e_is_6o, ↓e_as_6o, ↓e_ls_6o, ↓e_inc_6o, ↓e_is_6n, ↓e_as_6n, ↓e_ls_6n, ↓e_inc_6n, ↓e_il_7, ↓e_al_7, ↓e_ll_7, ↓e_is_7i, ↓e_as_7i, ↓e_ls_7i, ↓e_inc_7i, ↓e_is_7o, ↓e_as_7o, ↓e_ls_7o, ↓e_inc_7o, ↓e_is_7n, ↓e_as_7n, ↓e_ls_7n, ↓e_inc_7n, ↓e_il_8, ↓e_al_8, ↓e_ll_8, ↓e_is_8i, ↓e_as_8i, ↓e_ls_8i, ↓e_inc_8i, ↓e_is_8o, ↓e_as_8o, ↓e_ls_8o, ↓e_inc_8o, ↓e_is_8n, ↓e_as_8n, ↓e_ls_8n, ↓e_inc_8n, ↓e_il_9, ↓e_al_9, ↓e_ll_9, ↓e_is_9i, ↓e_as_9i, ↓e_ls_9i, ↓e_inc_9i, ↓e_is_9o, ↓e_as_9o, ↓e_ls_9o, ↓e_inc_9o, ↓e_is_9n, ↓e_as_9n, ↓e_ls_9n, ↓e_inc_9n, ↓e_il_10, ↓e_al_10, ↓e_ll_10, ↓e_is_10i, ↓e_as_10i, ↓e_ls_10i, ↓e_inc_10i, ↓e_is_10o, ↓e_as_10o, ↓e_ls_10o, ↓e_inc_10o, ↓e_is_10n, ↓e_as_10n, ↓e_ls_10n, ↓e_inc_10n, ↓e_il_11, ↓e_al_11, ↓e_ll_11, ↓e_is_11i, ↓e_as_11i, ↓e_ls_11i, ↓e_inc_11i, ↓e_is_11o, ↓e_as_11o, ↓e_ls_11o, ↓e_inc_11o, ↓e_is_11n, ↓e_as_11n, ↓e_ls_11n, ↓e_inc_11n, ↓e_il_12, ↓e_al_12, ↓e_ll_12, ↓e_is_12i, ↓e_as_12i, ↓e_ls_12i, ↓e_inc_12i, ↓e_is_12o, ↓e_as_12o, ↓e_ls_12o, ↓e_inc_12o, ↓e_is_12n, ↓e_as_12n, ↓e_ls_12n, ↓e_inc_12n, ↓e_dup_i, ↓e_pop_i, ↓e_dup2_ii, ↓e_dup2_io, ↓e_dup_o, ↓e_pop_o, ↓e_dup2_oi, ↓e_dup2_oo, ↓e_ir, ↓e_zr, ↓e_br, ↓e_lr, ↓e_ar, ↓e_vr, ↓e_cut, ↓e_cS_0, ↓e_cV_1, ↓e_cS_1, ↓e_cV_2, ↓e_cS_2, ↓e_cV_3, ↓e_cS_3, ↓e_cV_4, ↓e_cS_4, ↓e_cV_5, ↓e_cS_5, ↓e_cV_6, ↓e_cS_6, ↓e_cV_7, ↓e_cS_7, ↓e_swn, ↓e_swc, ↓e_tls, ↓e_tln, E_Ta_renumberAs_0, E_Ta_renumberAs_14, E_Ta_renumberAs_15, E_Ta_renumberAs_17, E_Ta_renumberAs_46, e_ci, e_cl, e_nul, e_add, e_sub, e_mul, e_ladd, e_lmul, e_div, e_rem, e_ldiv, e_lrem, e_zeq, e_zne, e_zlt, e_zge, e_zgt, e_zle, e_ceq, e_cne, e_clt, e_cge, e_cgt, e_cle, e_nn, e_gI, e_gR, e_pI, e_pZ, e_pR, e_ia, e_ba, e_za, e_iS, e_bS, e_zS, e_aa, e_aS, e_len, e_and, e_xor, e_shr, e_ushr, e_lcmp, e_i2b, e_i2l, e_l2i, e_sw, e_min, e_max, e_acp, e_il_0, e_al_0, e_ll_0, e_is_0n, e_as_0n, e_ls_0n, e_inc_0n, e_il_1, e_al_1, e_ll_1, e_is_1i, e_as_1i, e_ls_1i, e_inc_1i, e_is_1o, e_as_1o, e_ls_1o, e_inc_1o, e_is_1n, e_as_1n, e_ls_1n, e_inc_1n, e_il_2, e_al_2, e_ll_2, e_is_2i, e_as_2i, e_ls_2i, e_inc_2i, e_is_2o, e_as_2o, e_ls_2o, e_inc_2o, e_is_2n, e_as_2n, e_ls_2n, e_inc_2n, e_il_3, e_al_3, e_ll_3, e_is_3i, e_as_3i, e_ls_3i, e_inc_3i, e_is_3o, e_as_3o, e_ls_3o, e_inc_3o, e_is_3n, e_as_3n, e_ls_3n, e_inc_3n, e_il_4, e_al_4, e_ll_4, e_is_4i, e_as_4i, e_ls_4i, e_inc_4i, e_is_4o, e_as_4o, e_ls_4o, e_inc_4o, e_is_4n, e_as_4n, e_ls_4n, e_inc_4n, e_il_5, e_al_5, e_ll_5, e_is_5i, e_as_5i, e_ls_5i, e_inc_5i, e_is_5o, e_as_5o, e_ls_5o, e_inc_5o, e_is_5n, e_as_5n, e_ls_5n, e_inc_5n, e_il_6, e_al_6, e_ll_6, e_is_6i, e_as_6i, e_ls_6i, e_inc_6i, e_is_6o, e_as_6o, e_ls_6o, e_inc_6o, e_is_6n, e_as_6n, e_ls_6n, e_inc_6n, e_il_7, e_al_7, e_ll_7, e_is_7i, e_as_7i, e_ls_7i, e_inc_7i, e_is_7o, e_as_7o, e_ls_7o, e_inc_7o, e_is_7n, e_as_7n, e_ls_7n, e_inc_7n, e_il_8, e_al_8, e_ll_8, e_is_8i, e_as_8i, e_ls_8i, e_inc_8i, e_is_8o, e_as_8o, e_ls_8o, e_inc_8o, e_is_8n, e_as_8n, e_ls_8n, e_inc_8n, e_il_9, e_al_9, e_ll_9, e_is_9i, e_as_9i, e_ls_9i, e_inc_9i, e_is_9o, e_as_9o, e_ls_9o, e_inc_9o, e_is_9n, e_as_9n, e_ls_9n, e_inc_9n, e_il_10, e_al_10, e_ll_10, e_is_10i, e_as_10i, e_ls_10i, e_inc_10i, e_is_10o, e_as_10o, e_ls_10o, e_inc_10o, e_is_10n, e_as_10n, e_ls_10n, e_inc_10n, e_il_11, e_al_11, e_ll_11, e_is_11i, e_as_11i, e_ls_11i, e_inc_11i, e_is_11o, e_as_11o, e_ls_11o, e_inc_11o, e_is_11n, e_as_11n, e_ls_11n, e_inc_11n, e_il_12, e_al_12, e_ll_12, e_is_12i, e_as_12i, e_ls_12i, e_inc_12i, e_is_12o, e_as_12o, e_ls_12o, e_inc_12o, e_is_12n, e_as_12n, e_ls_12n, e_inc_12n, e_dup_i, e_pop_i, e_dup2_ii, e_dup2_io, e_dup_o, e_pop_o, e_dup2_oi, e_dup2_oo, e_ir, e_zr, e_br, e_lr, e_ar, e_vr, e_cut, e_cS_0, e_cV_1, e_cS_1, e_cV_2, e_cS_2, e_cV_3, e_cS_3, e_cV_4, e_cS_4, e_cV_5, e_cS_5, e_cV_6, e_cS_6, e_cV_7, e_cS_7, e_swn, e_swc, e_tls, e_tln, gI_sI, gI_sA, gR_sI, gR_sA, gI_sR, gR_sR, hN_sI, hN_sA, hN_sR, isO_sI, isO_sA, isO_sR, isAr_sI, isAr_sA, isAr_sR, hC_sI, hC_sA, hC_sR, hZ_sI, hZ_sA, hZ_sR, MW_sI, MW_sA, true_and, and_true, true_or, or_true, and_self, forall_const, imp_self, implies_true, if_true, if_false, false_and, and_false, false_or, or_false, not_false_eq_true, not_true_eq_false, sI_sI, entA, fitL, List.length_cons, List.length_nil, List.nil_append, List.cons_append, false_imp_iff, true_imp_iff, pn1, pn2, MW_sI, CW_sI, cr_Ho_0 w1, cr_Ho_3 w1, cr_Ho_4 w1, cr_Ho_5 w1, cr_Ho_6 w1, cr_Ho_7 w1, cr_Ho_8 w1, cr_Ho_9 w1, cr_Ho_13 w1, cr_Ho_15 w1, cr_Ho_16 w1, cr_Ws_0 w1, cr_Ss_0 w1, cr_Re_0 w1, cr_Re_1 w1, cr_Re_2 w1, cr_Re_3 w1, cr_Ta_0 w1, cr_Ta_1 w1, cr_Ta_2 w1, cr_Ta_3 w1, cr_Ta_4 w1, cr_Ta_5 w1, cr_Ta_6 w1, cr_Wa_0 w1, cr_Wa_2 w1, cr_Wa_3 w1, cr_Wa_4 w1, cr_Wa_5 w1, cr_Wa_6 w1, cr_Lo_0 w1, cr_Lo_1 w1, cr_Lo_2 w1, cr_Lo_3 w1, cr_Lo_4 w1, cr_Sh_0 w1, cr_Sh_1 w1, cr_Sh_2 w1, co_Ho w1, ca_Ho_tape w1, cl_Ho_tape, co_Ws w1, co_Ss w1, co_Ask w1, co_Re w1, co_Ta w1, co_Fi w1, co_Wa w1, ca_Ho_told w1, cl_Ho_told, co_Lo w1, co_Sh w1, ca_Ws_e w1, cl_Ws_e, ca_Ss_e w1, cl_Ss_e, ca_Re_sums w1, cl_Re_sums, ca_Re_firsts w1, cl_Re_firsts, co_Atom w1, co_Raised w1, ca_Ta_cells w1, cl_Ta_cells, ca_Ta_numbers w1, cl_Ta_numbers, ca_Ta_done w1, cl_Ta_done, ca_Ta_order w1, cl_Ta_order, ca_Ta_spare w1, cl_Ta_spare, ca_Ta_parents w1, cl_Ta_parents, ca_Ta_melting w1, cl_Ta_melting, ca_Wa_queue w1, cl_Wa_queue, ca_Wa_origins w1, cl_Wa_origins, ca_Wa_vias w1, cl_Wa_vias, ca_Wa_lengths w1, cl_Wa_lengths, ca_Wa_seen w1, cl_Wa_seen, co_Single w1, ca_Lo_cells w1, cl_Lo_cells, ca_Lo_kept w1, cl_Lo_kept, ca_Lo_keptRows w1, cl_Lo_keptRows, ca_Lo_names w1, cl_Lo_names, ca_Lo_met w1, cl_Lo_met, ca_Sh_cells w1, cl_Sh_cells, ca_Sh_seen w1, cl_Sh_seen, ca_Sh_queue w1, cl_Sh_queue, CW_sI, CW_sA, locI, nth, e1, e2]
    refine ⟨fun z => ⟨?_, hF.2.2.2.1, hF.2.2.2.2⟩, fun z => ?_⟩
    · have ek : k = gI h pTa 12 := by omega
      rw [ek] at hk hn
      refine hp _ (FrP_sI (Or.inl rfl) (FrP_mono (fun b _ z => z.elim (fun y => Or.inr (Or.inr (Or.inl y))) (fun y => Or.inr (Or.inr (Or.inr (Or.inr (Or.inl y)))))) hF)) ?_
      have e3 := e pTa_cells (by decide) (by decide)
      have e4 := e pTa_done (by decide) (by decide)
      have e5 := e pTa_spare (by decide) (by decide)
      have e6 := e pTa_parents (by decide) (by decide)
      refine TaG_rn (F := gI h pTa) (Nu := gI h pTa_numbers) (Od := gI h pTa_order) (Q := Q) ?_ hW hf h6 rfl (fun j j0 j1 => ?_) (fun j j0 j1 => ?_) (fun j j0 j1 => ?_) (fun s hs => ?_)
      · show TaG (gI h pTa) (gI h' pTa_cells) (gI h pTa_numbers) (gI h' pTa_done) (gI h pTa_order) (gI h' pTa_spare) (gI h' pTa_parents) L a
        rw [e3, e4, e5, e6]; exact hT
      · simp (decide := true) only [gI_sI, true_and]
        rw [if_neg j1, e1]
      · show lfS (gI h pTa_numbers) (gI h' pTa_order j) ∧ gI h pTa_numbers (gI h' pTa_order j) = _
        rw [(hk j j0 j1).1]; exact hq j j0 j1
      · show gI h' pTa_numbers (gI h' pTa_order j) = j
        rw [(hk j j0 j1).1]; exact (hk j j0 j1).2
      · refine hn s (fun j j0 j1 => ?_)
        have := hs j j0 j1
        rw [← (hk j j0 j1).1]; exact this
    · have o := (hq k k0 (by omega)).1
      refine ⟨by omega, by omega, by omega, by omega, by omega, by omega, o.1, o.2.1, ⟨by omega, by omega⟩, ⟨k + 1, rfl, by omega, by omega, FrP_sI (Or.inl rfl) (FrP_sI (Or.inr rfl) hF), fun j j0 j1 => ?_, fun s hs => ?_⟩, by omega⟩
      · by_cases y : j = k
        · rw [y, if_pos rfl, if_pos rfl]; exact ⟨rfl, rfl⟩
        · rw [if_neg y, if_neg (qi j k j0 (by omega) (by omega))]; exact hk j j0 (by omega)
      · rw [if_neg (fun v => hs k k0 (by omega) v.symm)]
        exact hn s (fun j j0 j1 => hs j j0 (by omega))
  · simp (decide := true) only [↓E_Ta_renumberAs_0, ↓E_Ta_renumberAs_14, ↓E_Ta_renumberAs_15, ↓E_Ta_renumberAs_17, ↓E_Ta_renumberAs_46, ↓e_ci, ↓e_cl, ↓e_nul, ↓e_add, ↓e_sub, ↓e_mul, ↓e_ladd, ↓e_lmul, ↓e_div, ↓e_rem, ↓e_ldiv, ↓e_lrem, ↓e_zeq, ↓e_zne, ↓e_zlt, ↓e_zge, ↓e_zgt, ↓e_zle, ↓e_ceq, ↓e_cne, ↓e_clt, ↓e_cge, ↓e_cgt, ↓e_cle, ↓e_nn, ↓e_gI, ↓e_gR, ↓e_pI, ↓e_pZ, ↓e_pR, ↓e_ia, ↓e_ba, ↓e_za, ↓e_iS, ↓e_bS, ↓e_zS, ↓e_aa, ↓e_aS, ↓e_len, ↓e_and, ↓e_xor, ↓e_shr, ↓e_ushr, ↓e_lcmp, ↓e_i2b, ↓e_i2l, ↓e_l2i, ↓e_sw, ↓e_min, ↓e_max, ↓e_acp, ↓e_il_0, ↓e_al_0, ↓e_ll_0, ↓e_is_0n, ↓e_as_0n, ↓e_ls_0n, ↓e_inc_0n, ↓e_il_1, ↓e_al_1, ↓e_ll_1, ↓e_is_1i, ↓e_as_1i, ↓e_ls_1i, ↓e_inc_1i, ↓e_is_1o, ↓e_as_1o, ↓e_ls_1o, ↓e_inc_1o, ↓e_is_1n, ↓e_as_1n, ↓e_ls_1n, ↓e_inc_1n, ↓e_il_2, ↓e_al_2, ↓e_ll_2, ↓e_is_2i, ↓e_as_2i, ↓e_ls_2i, ↓e_inc_2i, ↓e_is_2o, ↓e_as_2o, ↓e_ls_2o, ↓e_inc_2o, ↓e_is_2n, ↓e_as_2n, ↓e_ls_2n, ↓e_inc_2n, ↓e_il_3, ↓e_al_3, ↓e_ll_3, ↓e_is_3i, ↓e_as_3i, ↓e_ls_3i, ↓e_inc_3i, ↓e_is_3o, ↓e_as_3o, ↓e_ls_3o, ↓e_inc_3o, ↓e_is_3n, ↓e_as_3n, ↓e_ls_3n, ↓e_inc_3n, ↓e_il_4, ↓e_al_4, ↓e_ll_4, ↓e_is_4i, ↓e_as_4i, ↓e_ls_4i, ↓e_inc_4i, ↓e_is_4o, ↓e_as_4o, ↓e_ls_4o, ↓e_inc_4o, ↓e_is_4n, ↓e_as_4n, ↓e_ls_4n, ↓e_inc_4n, ↓e_il_5, ↓e_al_5, ↓e_ll_5, ↓e_is_5i, ↓e_as_5i, ↓e_ls_5i, ↓e_inc_5i, ↓e_is_5o, ↓e_as_5o, ↓e_ls_5o, ↓e_inc_5o, ↓e_is_5n, ↓e_as_5n, ↓e_ls_5n, ↓e_inc_5n, ↓e_il_6, ↓e_al_6, ↓e_ll_6, ↓e_is_6i, ↓e_as_6i, ↓e_ls_6i, ↓e_inc_6i, ↓e_is_6o, ↓e_as_6o, ↓e_ls_6o, ↓e_inc_6o, ↓e_is_6n, ↓e_as_6n, ↓e_ls_6n, ↓e_inc_6n, ↓e_il_7, ↓e_al_7, ↓e_ll_7, ↓e_is_7i, ↓e_as_7i, ↓e_ls_7i, ↓e_inc_7i, ↓e_is_7o, ↓e_as_7o, ↓e_ls_7o, ↓e_inc_7o, ↓e_is_7n, ↓e_as_7n, ↓e_ls_7n, ↓e_inc_7n, ↓e_il_8, ↓e_al_8, ↓e_ll_8, ↓e_is_8i, ↓e_as_8i, ↓e_ls_8i, ↓e_inc_8i, ↓e_is_8o, ↓e_as_8o, ↓e_ls_8o, ↓e_inc_8o, ↓e_is_8n, ↓e_as_8n, ↓e_ls_8n, ↓e_inc_8n, ↓e_il_9, ↓e_al_9, ↓e_ll_9, ↓e_is_9i, ↓e_as_9i, ↓e_ls_9i, ↓e_inc_9i, ↓e_is_9o, ↓e_as_9o, ↓e_ls_9o, ↓e_inc_9o, ↓e_is_9n, ↓e_as_9n, ↓e_ls_9n, ↓e_inc_9n, ↓e_il_10, ↓e_al_10, ↓e_ll_10, ↓e_is_10i, ↓e_as_10i, ↓e_ls_10i, ↓e_inc_10i, ↓e_is_10o, ↓e_as_10o, ↓e_ls_10o, ↓e_inc_10o, ↓e_is_10n, ↓e_as_10n, ↓e_ls_10n, ↓e_inc_10n, ↓e_il_11, ↓e_al_11, ↓e_ll_11, ↓e_is_11i, ↓e_as_11i, ↓e_ls_11i, ↓e_inc_11i, ↓e_is_11o, ↓e_as_11o, ↓e_ls_11o, ↓e_inc_11o, ↓e_is_11n, ↓e_as_11n, ↓e_ls_11n, ↓e_inc_11n, ↓e_il_12, ↓e_al_12, ↓e_ll_12, ↓e_is_12i, ↓e_as_12i, ↓e_ls_12i, ↓e_inc_12i, ↓e_is_12o, ↓e_as_12o, ↓e_ls_12o, ↓e_inc_12o, ↓e_is_12n, ↓e_as_12n, ↓e_ls_12n, ↓e_inc_12n, ↓e_dup_i, ↓e_pop_i, ↓e_dup2_ii, ↓e_dup2_io, ↓e_dup_o, ↓e_pop_o, ↓e_dup2_oi, ↓e_dup2_oo, ↓e_ir, ↓e_zr, ↓e_br, ↓e_lr, ↓e_ar, ↓e_vr, ↓e_cut, ↓e_cS_0, ↓e_cV_1, ↓e_cS_1, ↓e_cV_2, ↓e_cS_2, ↓e_cV_3, ↓e_cS_3, ↓e_cV_4, ↓e_cS_4, ↓e_cV_5, ↓e_cS_5, ↓e_cV_6, ↓e_cS_6, ↓e_cV_7, ↓e_cS_7, ↓e_swn, ↓e_swc, ↓e_tls, ↓e_tln, E_Ta_renumberAs_0, E_Ta_renumberAs_14, E_Ta_renumberAs_15, E_Ta_renumberAs_17, E_Ta_renumberAs_46, e_ci, e_cl, e_nul, e_add, e_sub, e_mul, e_ladd, e_lmul, e_div, e_rem, e_ldiv, e_lrem, e_zeq, e_zne, e_zlt, e_zge, e_zgt, e_zle, e_ceq, e_cne, e_clt, e_cge, e_cgt, e_cle, e_nn, e_gI, e_gR, e_pI, e_pZ, e_pR, e_ia, e_ba, e_za, e_iS, e_bS, e_zS, e_aa, e_aS, e_len, e_and, e_xor, e_shr, e_ushr, e_lcmp, e_i2b, e_i2l, e_l2i, e_sw, e_min, e_max, e_acp, e_il_0, e_al_0, e_ll_0, e_is_0n, e_as_0n, e_ls_0n, e_inc_0n, e_il_1, e_al_1, e_ll_1, e_is_1i, e_as_1i, e_ls_1i, e_inc_1i, e_is_1o, e_as_1o, e_ls_1o, e_inc_1o, e_is_1n, e_as_1n, e_ls_1n, e_inc_1n, e_il_2, e_al_2, e_ll_2, e_is_2i, e_as_2i, e_ls_2i, e_inc_2i, e_is_2o, e_as_2o, e_ls_2o, e_inc_2o, e_is_2n, e_as_2n, e_ls_2n, e_inc_2n, e_il_3, e_al_3, e_ll_3, e_is_3i, e_as_3i, e_ls_3i, e_inc_3i, e_is_3o, e_as_3o, e_ls_3o, e_inc_3o, e_is_3n, e_as_3n, e_ls_3n, e_inc_3n, e_il_4, e_al_4, e_ll_4, e_is_4i, e_as_4i, e_ls_4i, e_inc_4i, e_is_4o, e_as_4o, e_ls_4o, e_inc_4o, e_is_4n, e_as_4n, e_ls_4n, e_inc_4n, e_il_5, e_al_5, e_ll_5, e_is_5i, e_as_5i, e_ls_5i, e_inc_5i, e_is_5o, e_as_5o, e_ls_5o, e_inc_5o, e_is_5n, e_as_5n, e_ls_5n, e_inc_5n, e_il_6, e_al_6, e_ll_6, e_is_6i, e_as_6i, e_ls_6i, e_inc_6i, e_is_6o, e_as_6o, e_ls_6o, e_inc_6o, e_is_6n, e_as_6n, e_ls_6n, e_inc_6n, e_il_7, e_al_7, e_ll_7, e_is_7i, e_as_7i, e_ls_7i, e_inc_7i, e_is_7o, e_as_7o, e_ls_7o, e_inc_7o, e_is_7n, e_as_7n, e_ls_7n, e_inc_7n, e_il_8, e_al_8, e_ll_8, e_is_8i, e_as_8i, e_ls_8i, e_inc_8i, e_is_8o, e_as_8o, e_ls_8o, e_inc_8o, e_is_8n, e_as_8n, e_ls_8n, e_inc_8n, e_il_9, e_al_9, e_ll_9, e_is_9i, e_as_9i, e_ls_9i, e_inc_9i, e_is_9o, e_as_9o, e_ls_9o, e_inc_9o, e_is_9n, e_as_9n, e_ls_9n, e_inc_9n, e_il_10, e_al_10, e_ll_10, e_is_10i, e_as_10i, e_ls_10i, e_inc_10i, e_is_10o, e_as_10o, e_ls_10o, e_inc_10o, e_is_10n, e_as_10n, e_ls_10n, e_inc_10n, e_il_11, e_al_11, e_ll_11, e_is_11i, e_as_11i, e_ls_11i, e_inc_11i, e_is_11o, e_as_11o, e_ls_11o, e_inc_11o, e_is_11n, e_as_11n, e_ls_11n, e_inc_11n, e_il_12, e_al_12, e_ll_12, e_is_12i, e_as_12i, e_ls_12i, e_inc_12i, e_is_12o, e_as_12o, e_ls_12o, e_inc_12o, e_is_12n, e_as_12n, e_ls_12n, e_inc_12n, e_dup_i, e_pop_i, e_dup2_ii, e_dup2_io, e_dup_o, e_pop_o, e_dup2_oi, e_dup2_oo, e_ir, e_zr, e_br, e_lr, e_ar, e_vr, e_cut, e_cS_0, e_cV_1, e_cS_1, e_cV_2, e_cS_2, e_cV_3, e_cS_3, e_cV_4, e_cS_4, e_cV_5, e_cS_5, e_cV_6, e_cS_6, e_cV_7, e_cS_7, e_swn, e_swc, e_tls, e_tln, gI_sI, gI_sA, gR_sI, gR_sA, gI_sR, gR_sR, hN_sI, hN_sA, hN_sR, isO_sI, isO_sA, isO_sR, isAr_sI, isAr_sA, isAr_sR, hC_sI, hC_sA, hC_sR, hZ_sI, hZ_sA, hZ_sR, MW_sI, MW_sA, true_and, and_true, true_or, or_true, and_self, forall_const, imp_self, implies_true, if_true, if_false, false_and, and_false, false_or, or_false, not_false_eq_true, not_true_eq_false, sI_sI, entA, fitL, List.length_cons, List.length_nil, List.nil_append, List.cons_append, false_imp_iff, true_imp_iff, pn1, pn2, MW_sI, CW_sI, cr_Ho_0 w, cr_Ho_3 w, cr_Ho_4 w, cr_Ho_5 w, cr_Ho_6 w, cr_Ho_7 w, cr_Ho_8 w, cr_Ho_9 w, cr_Ho_13 w, cr_Ho_15 w, cr_Ho_16 w, cr_Ws_0 w, cr_Ss_0 w, cr_Re_0 w, cr_Re_1 w, cr_Re_2 w, cr_Re_3 w, cr_Ta_0 w, cr_Ta_1 w, cr_Ta_2 w, cr_Ta_3 w, cr_Ta_4 w, cr_Ta_5 w, cr_Ta_6 w, cr_Wa_0 w, cr_Wa_2 w, cr_Wa_3 w, cr_Wa_4 w, cr_Wa_5 w, cr_Wa_6 w, cr_Lo_0 w, cr_Lo_1 w, cr_Lo_2 w, cr_Lo_3 w, cr_Lo_4 w, cr_Sh_0 w, cr_Sh_1 w, cr_Sh_2 w, co_Ho w, ca_Ho_tape w, cl_Ho_tape, co_Ws w, co_Ss w, co_Ask w, co_Re w, co_Ta w, co_Fi w, co_Wa w, ca_Ho_told w, cl_Ho_told, co_Lo w, co_Sh w, ca_Ws_e w, cl_Ws_e, ca_Ss_e w, cl_Ss_e, ca_Re_sums w, cl_Re_sums, ca_Re_firsts w, cl_Re_firsts, co_Atom w, co_Raised w, ca_Ta_cells w, cl_Ta_cells, ca_Ta_numbers w, cl_Ta_numbers, ca_Ta_done w, cl_Ta_done, ca_Ta_order w, cl_Ta_order, ca_Ta_spare w, cl_Ta_spare, ca_Ta_parents w, cl_Ta_parents, ca_Ta_melting w, cl_Ta_melting, ca_Wa_queue w, cl_Wa_queue, ca_Wa_origins w, cl_Wa_origins, ca_Wa_vias w, cl_Wa_vias, ca_Wa_lengths w, cl_Wa_lengths, ca_Wa_seen w, cl_Wa_seen, co_Single w, ca_Lo_cells w, cl_Lo_cells, ca_Lo_kept w, cl_Lo_kept, ca_Lo_keptRows w, cl_Lo_keptRows, ca_Lo_names w, cl_Lo_names, ca_Lo_met w, cl_Lo_met, ca_Sh_cells w, cl_Sh_cells, ca_Sh_seen w, cl_Sh_seen, ca_Sh_queue w, cl_Sh_queue, CW_sI, CW_sA]
    exact ⟨fun z => ⟨0, rfl, by omega, by omega, FrP_refl _ h, fun j j0 j1 => by omega⟩, fun z => by omega⟩
theorem TaG_cong {F C Nu Dn Od Sp Pa F' C' Nu' Dn' Od' Sp' Pa' : Int → Int} {L : Int} {a : AT} (hT : TaG F C Nu Dn Od Sp Pa L a) (L10 : L ≤ 10) (hF : ∀ j, 8 ≤ j → j ≤ 18 → F' j = F j) (hC : ∀ j, 0 ≤ j → j < 3000 → C' j = C j) (hNu : ∀ j, 0 ≤ j → j < 300 → Nu' j = Nu j) (hDn : ∀ j, 0 ≤ j → j < 300 → Dn' j = Dn j) (hOd : ∀ j, 0 ≤ j → j < 300 → Od' j = Od j) (hSp : ∀ j, 0 ≤ j → j < 300 → Sp' j = Sp j) (hPa : ∀ j, 0 ≤ j → j < 300 → Pa' j = Pa j) : TaG F' C' Nu' Dn' Od' Sp' Pa' L a := by
  obtain ⟨⟨s1, s2, s3, s4, s5, s6, s7, s8, s9, s10, s11, s12⟩, ho, hE, hP⟩ := hT
  obtain ⟨o1, o2, o3, o4, o5, o6⟩ := id ho
  have l3 := Ta_300 ho
  have lf : ∀ x, lfS Nu' x ↔ lfS Nu x := by
    intro x
    constructor
    · rintro ⟨x0, x1, x2⟩
      rw [hNu x x0 x1] at x2
      exact ⟨x0, x1, x2⟩
    · rintro ⟨x0, x1, x2⟩
      refine ⟨x0, x1, ?_⟩
      rw [hNu x x0 x1]; exact x2
  have f12 := hF 12 (by omega) (by omega)
  refine ⟨⟨?_, ?_, ?_, ?_, ?_, ?_, ?_, ?_, ?_, ?_, ?_, ?_⟩, ⟨fun k k0 k1 => ?_, fun j k j0 jk k1 => ?_, fun x hx => ?_, fun k k0 k1 => ?_, fun j k j0 jk k1 => ?_, ?_⟩, ⟨fun r => ?_, fun x d hx d0 d1 => ?_, fun x hx => ?_⟩, fun s s0 s1 => by rw [hPa s s0 s1]; exact hP.1 s s0 s1, fun s s0 s1 => by rw [hDn s s0 s1]; exact hP.2 s s0 s1⟩
  · rw [hF 15 (by omega) (by omega)]; exact s1
  · rw [f12]; exact s2
  · rw [hF 13 (by omega) (by omega)]; exact s3
  · rw [hF 14 (by omega) (by omega)]; exact s4
  · rw [hF 17 (by omega) (by omega)]; exact s5
  · rw [hF 18 (by omega) (by omega)]; exact s6
  · rw [hF 16 (by omega) (by omega)]; exact s7
  · rw [hF 10 (by omega) (by omega)]; exact s8
  · rw [hF 9 (by omega) (by omega)]; exact s9
  · rw [hF 8 (by omega) (by omega)]; exact s10
  · rw [hF 8 (by omega) (by omega)]; exact s11
  · rw [hF 11 (by omega) (by omega)]; exact s12
  · rw [f12] at k1
    have := o1 k k0 k1
    rw [hOd k k0 (by omega), hNu _ this.1 this.2.1]; exact this
  · rw [f12] at k1
    have a1 := o1 k (by omega) k1
    have a2 := o1 j j0 (by omega)
    rw [hOd k (by omega) (by omega), hOd j j0 (by omega), hNu _ a1.1 a1.2.1, hNu _ a2.1 a2.2.1]
    exact o2 j k j0 jk k1
  · obtain ⟨k, k0, k1, e⟩ := o3 x ((lf x).mp hx)
    exact ⟨k, k0, by rw [f12]; exact k1, by rw [hOd k k0 (by omega)]; exact e⟩
  · rw [f12] at k1
    have n0 : 0 < F 12 := by
      obtain ⟨k, k0, k1, -⟩ := o3 0 ⟨by omega, by omega, by rw [o6]; decide⟩
      omega
    have := o4 k k0 k1
    rw [hSp k k0 (by omega), hNu _ this.1 this.2.1]; exact this
  · rw [f12] at k1
    have n0 : 0 < F 12 := by
      obtain ⟨k, k0, k1, -⟩ := o3 0 ⟨by omega, by omega, by rw [o6]; decide⟩
      omega
    rw [hSp k (by omega) (by omega), hSp j j0 (by omega)]; exact o5 j k j0 jk k1
  · rw [hNu 0 (by omega) (by omega)]; exact o6
  · rw [hE.1 r]
    constructor
    · rintro ⟨s, s1, s2⟩
      exact ⟨s, (lf s).mpr s1, by rw [hNu s s1.1 s1.2.1]; exact s2⟩
    · rintro ⟨s, s1, s2⟩
      have s1' := (lf s).mp s1
      exact ⟨s, s1', by rw [hNu s s1.1 s1.2.1] at s2; exact s2⟩
  · have hx' := (lf x).mp hx
    have x0 := hx.1
    have x1 := hx.2.1
    rw [hC (10 * x + d) (by omega) (by omega), hNu x x0 x1]
    rcases hE.2.1 x d hx' d0 d1 with z | ⟨z1, z2⟩
    · exact Or.inl z
    · exact Or.inr ⟨(lf _).mpr z1, by rw [hNu _ z1.1 z1.2.1]; exact z2⟩
  · rw [hDn x hx.1 hx.2.1, hNu x hx.1 hx.2.1]; exact hE.2.2 x ((lf x).mp hx)
/-- which cells are a table's -/
def PtT (T b : Nat) : Prop := T ≤ b ∧ b ≤ T + 7
def fcF (h : PH) (T S : Nat) (k : Int) : Int → Int := fun j => if 0 ≤ j ∧ j < k then gI h S j else gI h T j
