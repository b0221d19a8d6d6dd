/-! THE COMPONENT: Walker: cycles -/
theorem orb_inv {v f : Int → Int} {N : Nat} (h : Pmt v N f) {r0 : Int} (hr0 : v r0 ≠ 0) {r : Int} (hr : v r ≠ 0) : (∃ j, f r = itB f j r0) ↔ ∃ j, r = itB f j r0 := by
  constructor
  · rintro ⟨j, e⟩
    cases j with
    | zero =>
      have cs := (cyN_spec h hr0).1
      obtain ⟨n, hn⟩ : ∃ n, cyN f r0 = n + 1 := ⟨cyN f r0 - 1, by have := cs.1; omega⟩
      have e2 : f (itB f n r0) = r0 := by have := cs.2.1; rw [hn] at this; exact this
      refine ⟨n, h.2 _ _ hr (itB_v h hr0 n) ?_⟩
      rw [e2]; exact e
    | succ j => exact ⟨j, h.2 _ _ hr (itB_v h hr0 j) e⟩
  · rintro ⟨j, rfl⟩
    exact ⟨j + 1, rfl⟩
theorem cyN_orb {v f : Int → Int} {N : Nat} (h : Pmt v N f) {r0 : Int} (hr0 : v r0 ≠ 0) (j : Nat) : cyN f (itB f j r0) = cyN f r0 := by
  have cs := (cyN_spec h hr0).1
  refine cyN_eq ⟨cs.1, ?_, fun m m0 m1 z => cs.2.2 m m0 m1 ?_⟩
  · rw [← itB_add, Nat.add_comm, itB_add, cs.2.1]
  · rw [← itB_add, Nat.add_comm, itB_add] at z
    exact itB_inj h (itB_v h hr0 m) hr0 j z
theorem orb_nd {v f : Int → Int} {N : Nat} (h : Pmt v N f) {r0 : Int} (hr0 : v r0 ≠ 0) : (orb f r0 (cyN f r0)).Nodup := by
  have cs := (cyN_spec h hr0).1
  refine orb_nodup (fun i j a b e => ?_)
  have e2 : itB f i (itB f (j - i) r0) = itB f i r0 := by rw [← itB_add, show i + (j - i) = j by omega]; exact e.symm
  exact cs.2.2 (j - i) (by omega) (by omega) (itB_inj h (itB_v h hr0 _) hr0 i e2)
theorem orb_all {v f : Int → Int} {N : Nat} (h : Pmt v N f) {r0 : Int} (hr0 : v r0 ≠ 0) {x : Int} : x ∈ orb f r0 (cyN f r0) ↔ ∃ j, x = itB f j r0 := by
  have cs := (cyN_spec h hr0).1
  rw [orb_mem]
  constructor
  · rintro ⟨i, -, e⟩; exact ⟨i, e⟩
  · rintro ⟨j, e⟩
    have key : ∀ j : Nat, ∃ i, i < cyN f r0 ∧ itB f j r0 = itB f i r0 := by
      intro j
      induction j with
      | zero => exact ⟨0, cs.1, rfl⟩
      | succ j ih =>
        obtain ⟨i, i1, i2⟩ := ih
        by_cases q : i + 1 = cyN f r0
        · refine ⟨0, cs.1, ?_⟩
          show f (itB f j r0) = r0
          rw [i2]
          show itB f (i + 1) r0 = r0
          rw [q]; exact cs.2.1
        · refine ⟨i + 1, by omega, ?_⟩
          show f (itB f j r0) = f (itB f i r0)
          rw [i2]
    obtain ⟨i, i1, i2⟩ := key j
    exact ⟨i, i1, e.trans i2⟩
theorem cnN_list {n : Nat} : ∀ {l : List Int} {f g : Int → Int}, l.Nodup → (∀ x, x ∈ l → 0 ≤ x ∧ x < (n : Int) ∧ f x ≠ 0 ∧ g x = 0) → (∀ j, 0 ≤ j → j < (n : Int) → j ∉ l → (f j ≠ 0 ↔ g j ≠ 0)) → cnN f n = cnN g n + l.length
  | [], f, g, _, _, h2 => by rw [cnN_same (fun j j0 j1 => h2 j j0 j1 (by simp))]; rfl
  | x :: t, f, g, hn, h1, h2 => by
    have hn' := List.nodup_cons.mp hn
    have hx := h1 x (List.mem_cons_self ..)
    have ih := cnN_list (n := n) (l := t) (f := f) (g := upI g x 1) hn'.2 (fun y hy => ?_) (fun j j0 j1 hj => ?_)
    · rw [ih, cnN_one (f := upI g x 1) (g := g) hx.1 hx.2.1 (by rw [upI_eq]; decide) hx.2.2.2 (fun j j0 j1 hj => by rw [upI_ne hj])]
      simp only [List.length_cons]; omega
    · have := h1 y (List.mem_cons_of_mem _ hy)
      rw [upI_ne (fun z => hn'.1 (by rw [← z]; exact hy))]
      exact this
    · by_cases e : j = x
      · rw [e, upI_eq]; exact ⟨fun _ => by decide, fun _ => hx.2.2.1⟩
      · rw [upI_ne e]
        exact h2 j j0 j1 (fun z => (List.mem_cons.mp z).elim e hj)
def snR (h : PH) (Nu : Int → Int) (S : Int → Prop) : Prop := ∀ t, lfS Nu t → (gI h pWa_seen t ≠ 0 ↔ S (Nu t))
def Ct_Wa_roundOf : CtT := fun av h post => match av with
  | [.inr (.inl (some p)), .inr (.inl (some t)), .inr (.inl (some q)), .inl s] => p = pWa ∧ t = pTa ∧ CW h ∧ wP q ∧ ∃ (u : List Int) (L Q : Int) (a : AT) (S : Int → Prop), WR h q u ∧ TaR h L a ∧ WT L Q a ∧ L ≤ 10 ∧ (∀ c, c ∈ u → 0 ≤ c ∧ c < L) ∧ (∀ r c, VV a r → 0 ≤ c → c < L → aE a r c ≠ -2) ∧ lfS (gI h pTa_numbers) s ∧ snR h (gI h pTa_numbers) S ∧ (∀ r, VV a r → (S (ldA a u r) ↔ S r)) ∧ (S (gI h pTa_numbers s) → post (some (.inl 0)) h) ∧ (¬ S (gI h pTa_numbers s) → ∀ h', FrP Psn h h' → snR h' (gI h pTa_numbers) (fun r => S r ∨ ∃ j, r = itB (ldA a u) j (gI h pTa_numbers s)) → post (some (.inl (cyN (ldA a u) (gI h pTa_numbers s)))) h')
  | _ => False
theorem ce_Wa_roundOf {p : Nat} {t : Nat} {q : Nat} {s : Int} {h : PH} {post : TR} : Ct_Wa_roundOf [.inr (.inl (some p)), .inr (.inl (some t)), .inr (.inl (some q)), .inl s] h post = (p = pWa ∧ t = pTa ∧ CW h ∧ wP q ∧ ∃ (u : List Int) (L Q : Int) (a : AT) (S : Int → Prop), WR h q u ∧ TaR h L a ∧ WT L Q a ∧ L ≤ 10 ∧ (∀ c, c ∈ u → 0 ≤ c ∧ c < L) ∧ (∀ r c, VV a r → 0 ≤ c → c < L → aE a r c ≠ -2) ∧ lfS (gI h pTa_numbers) s ∧ snR h (gI h pTa_numbers) S ∧ (∀ r, VV a r → (S (ldA a u r) ↔ S r)) ∧ (S (gI h pTa_numbers s) → post (some (.inl 0)) h) ∧ (¬ S (gI h pTa_numbers s) → ∀ h', FrP Psn h h' → snR h' (gI h pTa_numbers) (fun r => S r ∨ ∃ j, r = itB (ldA a u) j (gI h pTa_numbers s)) → post (some (.inl (cyN (ldA a u) (gI h pTa_numbers s)))) h')) := rfl
def B_Wa_roundOf_60 : TT := (tt_il 4 tt_ir)
theorem E_Wa_roundOf_60 {K : TK} {R : TR} {ls : LSt} {st : List PV} {h : PH} : B_Wa_roundOf_60 K R ls st h = (tt_il 4 tt_ir) K R ls st h := rfl
theorem S_Wa_roundOf_60 (lc lz : Nat) : Snd md_Wa_roundOf lc lz 60 (B_Wa_roundOf_60) := (snd_il (dget dd_Wa_roundOf 29 rfl) (snd_ir (dget dd_Wa_roundOf 30 rfl) rfl))
def B_Wa_roundOf_6 : TT := (tt_il 4 (tt_ci 300 (tt_cge (B_Wa_roundOf_60) (tt_il 5 (tt_zlt (B_Wa_roundOf_60) (tt_il 5 (tt_ci 300 (tt_cge (B_Wa_roundOf_60) (tt_al 0 (tt_gR 5 5 (tt_il 5 (tt_za (tt_zne (B_Wa_roundOf_60) (tt_al 0 (tt_gR 5 5 (tt_il 5 (tt_ci 1 (tt_zS (tt_inc 4 1 (tt_al 1 (tt_al 2 (tt_il 5 (tt_cV 4 3 Ct_Ta_follow (tt_is 5 (tt_cut 6)))))))))))))))))))))))))
theorem E_Wa_roundOf_6 {K : TK} {R : TR} {ls : LSt} {st : List PV} {h : PH} : B_Wa_roundOf_6 K R ls st h = (tt_il 4 (tt_ci 300 (tt_cge (B_Wa_roundOf_60) (tt_il 5 (tt_zlt (B_Wa_roundOf_60) (tt_il 5 (tt_ci 300 (tt_cge (B_Wa_roundOf_60) (tt_al 0 (tt_gR 5 5 (tt_il 5 (tt_za (tt_zne (B_Wa_roundOf_60) (tt_al 0 (tt_gR 5 5 (tt_il 5 (tt_ci 1 (tt_zS (tt_inc 4 1 (tt_al 1 (tt_al 2 (tt_il 5 (tt_cV 4 3 Ct_Ta_follow (tt_is 5 (tt_cut 6))))))))))))))))))))))))) K R ls st h := rfl
theorem S_Wa_roundOf_6 (lc lz : Nat) : Snd md_Wa_roundOf lc lz 6 (B_Wa_roundOf_6) := (snd_il (dget dd_Wa_roundOf 4 rfl) (snd_sipush (n := 300) (dget dd_Wa_roundOf 5 rfl) (inR_d rfl) (by decide) (snd_cge (tg := 60) (dget dd_Wa_roundOf 6 rfl) rfl (S_Wa_roundOf_60 lc lz) (snd_il (dget dd_Wa_roundOf 7 rfl) (snd_zlt (tg := 60) (dget dd_Wa_roundOf 8 rfl) rfl (S_Wa_roundOf_60 lc lz) (snd_il (dget dd_Wa_roundOf 9 rfl) (snd_sipush (n := 300) (dget dd_Wa_roundOf 10 rfl) (inR_d rfl) (by decide) (snd_cge (tg := 60) (dget dd_Wa_roundOf 11 rfl) rfl (S_Wa_roundOf_60 lc lz) (snd_al_n (n := 0) (dget dd_Wa_roundOf 12 rfl) rfl (snd_gR (kn := 5) fd_Wa_28 rfl (dget dd_Wa_roundOf 13 rfl) (snd_il (dget dd_Wa_roundOf 14 rfl) (snd_za (dget dd_Wa_roundOf 15 rfl) (snd_zne (tg := 60) (dget dd_Wa_roundOf 16 rfl) rfl (S_Wa_roundOf_60 lc lz) (snd_al_n (n := 0) (dget dd_Wa_roundOf 17 rfl) rfl (snd_gR (kn := 5) fd_Wa_28 rfl (dget dd_Wa_roundOf 18 rfl) (snd_il (dget dd_Wa_roundOf 19 rfl) (snd_iconst (n := 1) (dget dd_Wa_roundOf 20 rfl) (inR_d rfl) rfl (snd_zS (dget dd_Wa_roundOf 21 rfl) (snd_inc (dget dd_Wa_roundOf 22 rfl) (snd_al_n (n := 1) (dget dd_Wa_roundOf 23 rfl) rfl (snd_al_n (n := 2) (dget dd_Wa_roundOf 24 rfl) rfl (snd_il (dget dd_Wa_roundOf 25 rfl) (snd_cV (n := 2) met_Ta_follow mi_Ta_follow ki_Ta_follow kv_Ta_follow ml_Wa_76 rfl (by decide) (dget dd_Wa_roundOf 26 rfl) (snd_is (dget dd_Wa_roundOf 27 rfl) (snd_goto (tg := 6) (dget dd_Wa_roundOf 28 rfl) rfl snd_cut)))))))))))))))))))))))))
def B_Wa_roundOf_0 : TT := (tt_ci 0 (tt_is 4 (tt_il 3 (tt_is 5 (tt_cut 6)))))
theorem E_Wa_roundOf_0 {K : TK} {R : TR} {ls : LSt} {st : List PV} {h : PH} : B_Wa_roundOf_0 K R ls st h = (tt_ci 0 (tt_is 4 (tt_il 3 (tt_is 5 (tt_cut 6))))) K R ls st h := rfl
theorem S_Wa_roundOf_0 (lc lz : Nat) : Snd md_Wa_roundOf lc lz 0 (B_Wa_roundOf_0) := (snd_iconst (n := 0) (dget dd_Wa_roundOf 0 rfl) (inR_d rfl) rfl (snd_is (dget dd_Wa_roundOf 1 rfl) (snd_il_n (n := 3) (dget dd_Wa_roundOf 2 rfl) rfl (snd_is (dget dd_Wa_roundOf 3 rfl) snd_cut))))
theorem met_Wa_roundOf : MetP y_Wa_roundOf md_Wa_roundOf (fun _ => 0) (fun _ => 0) Ct_Wa_roundOf := by
  refine metL1 (body := B_Wa_roundOf_0) (B1 := B_Wa_roundOf_6) (by decide) rfl rfl (fun lc lz => S_Wa_roundOf_0 lc lz) (fun lc lz => S_Wa_roundOf_6 lc lz) ?_
  intro av h post hc hH hav
  unfold Ct_Wa_roundOf at hc
  split at hc
  rotate_left
  · exact hc.elim
  rename_i p t q s
  obtain ⟨rfl, rfl, w, hq, u, L, Q, a, S, hu, hT, hW, L10, huL, hfull, hs, hS, hinv, hp1, hp0⟩ := hc
  refine ⟨Nat.le_of_ble_eq_true rfl, ?_⟩
  obtain ⟨tS, tO, tE, tP⟩ := id hT
  have hPm := ld_Pmt hW hfull huL
  obtain ⟨Nu, hNu⟩ : ∃ Nu, Nu = gI h pTa_numbers := ⟨_, rfl⟩
  obtain ⟨f, hf⟩ : ∃ f, f = ldA a u := ⟨_, rfl⟩
  rw [← hNu] at tO tE hs hS hp1 hp0
  rw [← hf] at hPm hp0
  have hv : ∀ t, lfS Nu t → aV a (Nu t) ≠ 0 := fun t ht => (tE.1 _).mpr ⟨t, ht, rfl⟩
  have hinv' : ∀ r, aV a r ≠ 0 → (S (f r) ↔ S r) := fun r hr => by rw [hf]; exact hinv r hr
  obtain ⟨r0, hr0⟩ : ∃ r0, r0 = Nu s := ⟨_, rfl⟩
  have v0 : aV a r0 ≠ 0 := by rw [hr0]; exact hv s hs
  rw [← hr0] at hp1 hp0
  have cs := cyN_spec hPm v0
  have c300 : cnN (aV a) (aN a) ≤ 300 := by have := hW.2.2.2.2.2.1; omega
  have hnS : ¬ S r0 → ∀ i, ¬ S (itB f i r0) := by
    intro z i
    induction i with
    | zero => exact z
    | succ i ih => exact fun y => ih ((hinv' _ (itB_v hPm v0 i)).mp y)
  refine ⟨fun ls h' => ∃ (i : Nat) (t : Int), ls = [some (.inr (.inl (some pWa))), some (.inr (.inl (some pTa))), some (.inr (.inl (some q))), some (.inl s), some (.inl i), some (.inl t)] ∧ i ≤ 300 ∧ lfS Nu t ∧ Nu t = itB f i r0 ∧ FrP Psn h h' ∧ snR h' Nu (fun r => S r ∨ ∃ j, j < i ∧ r = itB f j r0) ∧ (0 < i → ¬ S r0) ∧ (i = 0 → h' = h) ∧ ∀ m, 0 < m → m < i → itB f m r0 ≠ r0, fun _ ls _ => (1000 - locI ls 4).toNat, ?_, ?_⟩
  · rintro ls h1 ⟨i, t, rfl, hi, ht, et, f1, hS1, hi0, hi1, hmin⟩
    have w1 := FrP_CW f1 w
    have t0 := ht.1
    have t1 := ht.2.1
    have en : gI h1 pTa_numbers = Nu := by rw [FrP_arr f1 (b := pTa_numbers) (fun j z => by unfold Psn at z; simp (decide := true) at z)]; exact hNu.symm
    have fin : 0 < i → cyN f r0 = i → post (some (.inl (i : Int))) h1 ∧ hC h1 = hC h ∧ hZ h1 = hZ h := by
      intro z e
      have := hp0 (hi0 z) h1 f1 (fun x hx => ?_)
      · rw [e] at this; exact ⟨this, f1.2.2.2.1, f1.2.2.2.2⟩
      · rw [hS1 x hx]
        show (S (Nu x) ∨ ∃ j, j < i ∧ Nu x = itB f j r0) ↔ (S (Nu x) ∨ ∃ j, Nu x = itB f j r0)
        rw [← orb_all hPm v0, orb_mem, e]
    have f2 : FrP Psn h (sI h1 pWa_seen t 1) := FrP_sI rfl f1
    have hu2 : WR (sI h1 pWa_seen t 1) q u := (WR_fr f2 (fun z => by rw [show q = pWa_seen from z] at hq; exact absurd hq.2 (by decide)) (fun j z => by have e : q = pWa_lengths := Nat.succ.inj z; rw [e] at hq; exact absurd hq.2 (by decide))).mpr hu
    have hT2 : TaR (sI h1 pWa_seen t 1) L a := (TaR_fr f2 (fun b j z b0 b1 => by rw [show b = pWa_seen from z] at b1; exact absurd b1 (by decide))).mpr hT
    have en2 : gI (sI h1 pWa_seen t 1) pTa_numbers = Nu := en
    simp (decide := true) only [↓E_Wa_roundOf_0, ↓E_Wa_roundOf_6, ↓E_Wa_roundOf_60, ↓ce_Ta_follow, ↓e_ci, ↓e_cl, ↓e_nul, ↓e_add, ↓e_sub, ↓e_mul, ↓e_ladd, ↓e_lmul, ↓e_div, ↓e_rem, ↓e_ldiv, ↓e_lrem, ↓e_zeq, ↓e_zne, ↓e_zlt, ↓e_zge, ↓e_zgt, ↓e_zle, ↓e_ceq, ↓e_cne, ↓e_clt, ↓e_cge, ↓e_cgt, ↓e_cle, ↓e_nn, ↓e_gI, ↓e_gR, ↓e_pI, ↓e_pZ, ↓e_pR, ↓e_ia, ↓e_ba, ↓e_za, ↓e_iS, ↓e_bS, ↓e_zS, ↓e_aa, ↓e_aS, ↓e_len, ↓e_and, ↓e_xor, ↓e_shr, ↓e_ushr, ↓e_lcmp, ↓e_i2b, ↓e_i2l, ↓e_l2i, ↓e_sw, ↓e_min, ↓e_max, ↓e_acp, ↓e_il_0, ↓e_al_0, ↓e_ll_0, ↓e_is_0n, ↓e_as_0n, ↓e_ls_0n, ↓e_inc_0n, ↓e_il_1, ↓e_al_1, ↓e_ll_1, ↓e_is_1i, ↓e_as_1i, ↓e_ls_1i, ↓e_inc_1i, ↓e_is_1o, ↓e_as_1o, ↓e_ls_1o, ↓e_inc_1o, ↓e_is_1n, ↓e_as_1n, ↓e_ls_1n, ↓e_inc_1n, ↓e_il_2, ↓e_al_2, ↓e_ll_2, ↓e_is_2i, ↓e_as_2i, ↓e_ls_2i, ↓e_inc_2i, ↓e_is_2o, ↓e_as_2o, ↓e_ls_2o, ↓e_inc_2o, ↓e_is_2n, ↓e_as_2n, ↓e_ls_2n, ↓e_inc_2n, ↓e_il_3, ↓e_al_3, ↓e_ll_3, ↓e_is_3i, ↓e_as_3i, ↓e_ls_3i, ↓e_inc_3i, ↓e_is_3o, ↓e_as_3o, ↓e_ls_3o, ↓e_inc_3o, ↓e_is_3n, ↓e_as_3n, ↓e_ls_3n, ↓e_inc_3n, ↓e_il_4, ↓e_al_4, ↓e_ll_4, ↓e_is_4i, ↓e_as_4i, ↓e_ls_4i, ↓e_inc_4i, ↓e_is_4o, ↓e_as_4o, ↓e_ls_4o, ↓e_inc_4o, ↓e_is_4n, ↓e_as_4n, ↓e_ls_4n, ↓e_inc_4n, ↓e_il_5, ↓e_al_5, ↓e_ll_5, ↓e_is_5i, ↓e_as_5i, ↓e_ls_5i, ↓e_inc_5i, ↓e_is_5o, ↓e_as_5o, ↓e_ls_5o, ↓e_inc_5o, ↓e_is_5n, ↓e_as_5n, ↓e_ls_5n, ↓e_inc_5n, ↓e_il_6, ↓e_al_6, ↓e_ll_6, ↓e_is_6i, ↓e_as_6i, ↓e_ls_6i, ↓e_inc_6i, ↓e_is_6o, ↓e_as_6o, ↓e_ls_6o, ↓e_inc_6o, ↓e_is_6n, ↓e_as_6n, ↓e_ls_6n, ↓e_inc_6n, ↓e_il_7, ↓e_al_7, ↓e_ll_7, ↓e_is_7i, ↓e_as_7i, ↓e_ls_7i, ↓e_inc_7i, ↓e_is_7o, ↓e_as_7o, ↓e_ls_7o, ↓e_inc_7o, ↓e_is_7n, ↓e_as_7n, ↓e_ls_7n, ↓e_inc_7n, ↓e_il_8, ↓e_al_8, ↓e_ll_8, ↓e_is_8i, ↓e_as_8i, ↓e_ls_8i, ↓e_inc_8i, ↓e_is_8o, ↓e_as_8o, ↓e_ls_8o, ↓e_inc_8o, ↓e_is_8n, ↓e_as_8n, ↓e_ls_8n, ↓e_inc_8n, ↓e_il_9, ↓e_al_9, ↓e_ll_9, ↓e_is_9i, ↓e_as_9i, ↓e_ls_9i, ↓e_inc_9i, ↓e_is_9o, ↓e_as_9o, ↓e_ls_9o, ↓e_inc_9o, ↓e_is_9n, ↓e_as_9n, ↓e_ls_9n, ↓e_inc_9n, ↓e_il_10, ↓e_al_10, ↓e_ll_10, ↓e_is_10i, ↓e_as_10i, ↓e_ls_10i, ↓e_inc_10i, ↓e_is_10o, ↓e_as_10o, ↓e_ls_10o, ↓e_inc_10o, ↓e_is_10n, ↓e_as_10n, ↓e_ls_10n, ↓e_inc_10n, ↓e_il_11, ↓e_al_11, ↓e_ll_11, ↓e_is_11i, ↓e_as_11i, ↓e_ls_11i, ↓e_inc_11i, ↓e_is_11o, ↓e_as_11o, ↓e_ls_11o, ↓e_inc_11o, ↓e_is_11n, ↓e_as_11n, ↓e_ls_11n, ↓e_inc_11n, ↓e_il_12, ↓e_al_12, ↓e_ll_12, ↓e_is_12i, ↓e_as_12i, ↓e_ls_12i, ↓e_inc_12i, ↓e_is_12o, ↓e_as_12o, ↓e_ls_12o, ↓e_inc_12o, ↓e_is_12n, ↓e_as_12n, ↓e_ls_12n, ↓e_inc_12n, ↓e_dup_i, ↓e_pop_i, ↓e_dup2_ii, ↓e_dup2_io, ↓e_dup_o, ↓e_pop_o, ↓e_dup2_oi, ↓e_dup2_oo, ↓e_ir, ↓e_zr, ↓e_br, ↓e_lr, ↓e_ar, ↓e_vr, ↓e_cut, ↓e_cS_0, ↓e_cV_1, ↓e_cS_1, ↓e_cV_2, ↓e_cS_2, ↓e_cV_3, ↓e_cS_3, ↓e_cV_4, ↓e_cS_4, ↓e_cV_5, ↓e_cS_5, ↓e_cV_6, ↓e_cS_6, ↓e_cV_7, ↓e_cS_7, ↓e_swn, ↓e_swc, ↓e_tls, ↓e_tln, E_Wa_roundOf_0, E_Wa_roundOf_6, E_Wa_roundOf_60, ce_Ta_follow, e_ci, e_cl, e_nul, e_add, e_sub, e_mul, e_ladd, e_lmul, e_div, e_rem, e_ldiv, e_lrem, e_zeq, e_zne, e_zlt, e_zge, e_zgt, e_zle, e_ceq, e_cne, e_clt, e_cge, e_cgt, e_cle, e_nn, e_gI, e_gR, e_pI, e_pZ, e_pR, e_ia, e_ba, e_za, e_iS, e_bS, e_zS, e_aa, e_aS, e_len, e_and, e_xor, e_shr, e_ushr, e_lcmp, e_i2b, e_i2l, e_l2i, e_sw, e_min, e_max, e_acp, e_il_0, e_al_0, e_ll_0, e_is_0n, e_as_0n, e_ls_0n, e_inc_0n, e_il_1, e_al_1, e_ll_1, e_is_1i, e_as_1i, e_ls_1i, e_inc_1i, e_is_1o, e_as_1o, e_ls_1o, e_inc_1o, e_is_1n, e_as_1n, e_ls_1n, e_inc_1n, e_il_2, e_al_2, e_ll_2, e_is_2i, e_as_2i, e_ls_2i, e_inc_2i, e_is_2o, e_as_2o, e_ls_2o, e_inc_2o, e_is_2n, e_as_2n, e_ls_2n, e_inc_2n, e_il_3, e_al_3, e_ll_3, e_is_3i, e_as_3i, e_ls_3i, e_inc_3i, e_is_3o, e_as_3o, e_ls_3o, e_inc_3o, e_is_3n, e_as_3n, e_ls_3n, e_inc_3n, e_il_4, e_al_4, e_ll_4, e_is_4i, e_as_4i, e_ls_4i, e_inc_4i, e_is_4o, e_as_4o, e_ls_4o, e_inc_4o, e_is_4n, e_as_4n, e_ls_4n, e_inc_4n, e_il_5, e_al_5, e_ll_5, e_is_5i, e_as_5i, e_ls_5i, e_inc_5i, e_is_5o, e_as_5o, e_ls_5o, e_inc_5o, e_is_5n, e_as_5n, e_ls_5n, e_inc_5n, e_il_6, e_al_6, e_ll_6, e_is_6i, e_as_6i, e_ls_6i, e_inc_6i, e_is_6o, e_as_6o, e_ls_6o, e_inc_6o, e_is_6n, e_as_6n, e_ls_6n, e_inc_6n, e_il_7, e_al_7, e_ll_7, e_is_7i, e_as_7i, e_ls_7i, e_inc_7i, e_is_7o, e_as_7o, e_ls_7o, e_inc_7o, e_is_7n, e_as_7n, e_ls_7n, e_inc_7n, e_il_8, e_al_8, e_ll_8, e_is_8i, e_as_8i, e_ls_8i, e_inc_8i, e_is_8o, e_as_8o, e_ls_8o, e_inc_8o, e_is_8n, e_as_8n, e_ls_8n, e_inc_8n, e_il_9, e_al_9, e_ll_9, e_is_9i, e_as_9i, e_ls_9i, e_inc_9i, e_is_9o, e_as_9o, e_ls_9o, e_inc_9o, e_is_9n, e_as_9n, e_ls_9n, e_inc_9n, e_il_10, e_al_10, e_ll_10, e_is_10i, e_as_10i, e_ls_10i, e_inc_10i, e_is_10o, e_as_10o, e_ls_10o, e_inc_10o, e_is_10n, e_as_10n, e_ls_10n, e_inc_10n, e_il_11, e_al_11, e_ll_11, e_is_11i, e_as_11i, e_ls_11i, e_inc_11i, e_is_11o, e_as_11o, e_ls_11o, e_inc_11o, e_is_11n, e_as_11n, e_ls_11n, e_inc_11n, e_il_12, e_al_12, e_ll_12, e_is_12i, e_as_12i, e_ls_12i, e_inc_12i, e_is_12o, e_as_12o, e_ls_12o, e_inc_12o, e_is_12n, e_as_12n, e_ls_12n, e_inc_12n, e_dup_i, e_pop_i, e_dup2_ii, e_dup2_io, e_dup_o, e_pop_o, e_dup2_oi, e_dup2_oo, e_ir, e_zr, e_br, e_lr, e_ar, e_vr, e_cut, e_cS_0, e_cV_1, e_cS_1, e_cV_2, e_cS_2, e_cV_3, e_cS_3, e_cV_4, e_cS_4, e_cV_5, e_cS_5, e_cV_6, e_cS_6, e_cV_7, e_cS_7, e_swn, e_swc, e_tls, e_tln, gI_sI, gI_sA, gR_sI, gR_sA, gI_sR, gR_sR, hN_sI, hN_sA, hN_sR, isO_sI, isO_sA, isO_sR, isAr_sI, isAr_sA, isAr_sR, hC_sI, hC_sA, hC_sR, hZ_sI, hZ_sA, hZ_sR, MW_sI, MW_sA, true_and, and_true, true_or, or_true, and_self, forall_const, imp_self, implies_true, if_true, if_false, false_and, and_false, false_or, or_false, not_false_eq_true, not_true_eq_false, sI_sI, entA, fitL, List.length_cons, List.length_nil, List.nil_append, List.cons_append, false_imp_iff, true_imp_iff, pn1, pn2, MW_sI, CW_sI, cr_Ho_0 w1, cr_Ho_3 w1, cr_Ho_4 w1, cr_Ho_5 w1, cr_Ho_6 w1, cr_Ho_7 w1, cr_Ho_8 w1, cr_Ho_9 w1, cr_Ho_13 w1, cr_Ho_15 w1, cr_Ho_16 w1, cr_Ws_0 w1, cr_Ss_0 w1, cr_Re_0 w1, cr_Re_1 w1, cr_Re_2 w1, cr_Re_3 w1, cr_Ta_0 w1, cr_Ta_1 w1, cr_Ta_2 w1, cr_Ta_3 w1, cr_Ta_4 w1, cr_Ta_5 w1, cr_Ta_6 w1, cr_Wa_0 w1, cr_Wa_2 w1, cr_Wa_3 w1, cr_Wa_4 w1, cr_Wa_5 w1, cr_Wa_6 w1, cr_Lo_0 w1, cr_Lo_1 w1, cr_Lo_2 w1, cr_Lo_3 w1, cr_Lo_4 w1, cr_Sh_0 w1, cr_Sh_1 w1, cr_Sh_2 w1, co_Ho w1, ca_Ho_tape w1, cl_Ho_tape, co_Ws w1, co_Ss w1, co_Ask w1, co_Re w1, co_Ta w1, co_Fi w1, co_Wa w1, ca_Ho_told w1, cl_Ho_told, co_Lo w1, co_Sh w1, ca_Ws_e w1, cl_Ws_e, ca_Ss_e w1, cl_Ss_e, ca_Re_sums w1, cl_Re_sums, ca_Re_firsts w1, cl_Re_firsts, co_Atom w1, co_Raised w1, ca_Ta_cells w1, cl_Ta_cells, ca_Ta_numbers w1, cl_Ta_numbers, ca_Ta_done w1, cl_Ta_done, ca_Ta_order w1, cl_Ta_order, ca_Ta_spare w1, cl_Ta_spare, ca_Ta_parents w1, cl_Ta_parents, ca_Ta_melting w1, cl_Ta_melting, ca_Wa_queue w1, cl_Wa_queue, ca_Wa_origins w1, cl_Wa_origins, ca_Wa_vias w1, cl_Wa_vias, ca_Wa_lengths w1, cl_Wa_lengths, ca_Wa_seen w1, cl_Wa_seen, co_Single w1, ca_Lo_cells w1, cl_Lo_cells, ca_Lo_kept w1, cl_Lo_kept, ca_Lo_keptRows w1, cl_Lo_keptRows, ca_Lo_names w1, cl_Lo_names, ca_Lo_met w1, cl_Lo_met, ca_Sh_cells w1, cl_Sh_cells, ca_Sh_seen w1, cl_Sh_seen, ca_Sh_queue w1, cl_Sh_queue, CW_sI, CW_sA, locI, nth]
    rw [en2, en]
    refine ⟨fun z => fin (by omega) ?_, fun z => ⟨fun z2 => by omega, fun z2 => ⟨fun z3 => by omega, fun z3 => ⟨t0, t1, fun z4 => ?_, fun z4 => ⟨t0, t1, ⟨by omega, by omega⟩, w1, hq, u, L, a, hu2, hT2, L10, huL, ht, fun x hx ex => ⟨⟨i + 1, x, by push_cast; rfl, by omega, hx, ?_, f2, fun y hy => ?_, fun _ => ?_, fun y => by omega, fun m m0 m1 => ?_⟩, by omega⟩, fun ex => ?_⟩⟩⟩⟩⟩
    · have : ¬ cyN f r0 < i := fun y => hmin _ cs.1.1 y cs.1.2.1
      omega
    · have sm := (hS1 t ht).mp z4
      by_cases i0 : i = 0
      · have e := hi1 i0
        rw [i0] at sm et
        rw [e, i0]
        rw [show Nu t = r0 from et] at sm
        exact ⟨hp1 (sm.elim id (fun ⟨j, j1, _⟩ => by omega)), rfl, rfl⟩
      · refine fin (by omega) ?_
        have nS := hi0 (by omega)
        rcases sm with sm | ⟨j, j1, ej⟩
        · rw [et] at sm; exact absurd sm (hnS nS i)
        · rw [et] at ej
          have e2 : itB f j (itB f (i - j) r0) = itB f j r0 := by rw [← itB_add, show j + (i - j) = i by omega]; exact ej
          have e3 := itB_inj hPm (itB_v hPm v0 _) v0 j e2
          have j0 : j = 0 := by
            apply Classical.byContradiction
            intro y
            exact hmin (i - j) (by omega) (by omega) e3
          rw [j0] at e3
          exact cyN_eq ⟨by omega, e3, fun m m0 m1 => hmin m m0 m1⟩
    · rw [← ex, lwF_ld, ← hf, et]; rfl
    · rw [gI_sI]
      by_cases e : y = t
      · rw [if_pos ⟨rfl, e⟩, e]
        exact ⟨fun _ => Or.inr ⟨i, by omega, et⟩, fun _ => by decide⟩
      · rw [if_neg (fun z => e z.2), hS1 y hy]
        refine ⟨fun z => z.elim Or.inl (fun ⟨j, j1, j2⟩ => Or.inr ⟨j, by omega, j2⟩), fun z => z.elim Or.inl (fun ⟨j, j1, j2⟩ => Or.inr ⟨j, ?_, j2⟩)⟩
        by_cases ji : j = i
        · rw [ji, ← et] at j2
          exact absurd (TgO_inj tO hy ht j2) e
        · omega
    · by_cases i0 : i = 0
      · rw [i0] at et
        rw [show r0 = Nu t from et.symm]
        exact fun y => (hS1 t ht).mpr (Or.inl y) z4
      · exact hi0 (by omega)
    · by_cases e : m = i
      · rw [e, ← et]
        intro y
        exact (hS1 t ht).mpr (Or.inr ⟨0, by omega, y⟩) z4
      · exact hmin m m0 (by omega)
    · exfalso
      rw [lwF_ld, ← hf] at ex
      have g := (hPm.1 _ (hv t ht)).2.2
      have := (hPm.1 _ g).1
      omega
  · simp (decide := true) only [↓E_Wa_roundOf_0, ↓E_Wa_roundOf_6, ↓E_Wa_roundOf_60, ↓ce_Ta_follow, ↓e_ci, ↓e_cl, ↓e_nul, ↓e_add, ↓e_sub, ↓e_mul, ↓e_ladd, ↓e_lmul, ↓e_div, ↓e_rem, ↓e_ldiv, ↓e_lrem, ↓e_zeq, ↓e_zne, ↓e_zlt, ↓e_zge, ↓e_zgt, ↓e_zle, ↓e_ceq, ↓e_cne, ↓e_clt, ↓e_cge, ↓e_cgt, ↓e_cle, ↓e_nn, ↓e_gI, ↓e_gR, ↓e_pI, ↓e_pZ, ↓e_pR, ↓e_ia, ↓e_ba, ↓e_za, ↓e_iS, ↓e_bS, ↓e_zS, ↓e_aa, ↓e_aS, ↓e_len, ↓e_and, ↓e_xor, ↓e_shr, ↓e_ushr, ↓e_lcmp, ↓e_i2b, ↓e_i2l, ↓e_l2i, ↓e_sw, ↓e_min, ↓e_max, ↓e_acp, ↓e_il_0, ↓e_al_0, ↓e_ll_0, ↓e_is_0n, ↓e_as_0n, ↓e_ls_0n, ↓e_inc_0n, ↓e_il_1, ↓e_al_1, ↓e_ll_1, ↓e_is_1i, ↓e_as_1i, ↓e_ls_1i, ↓e_inc_1i, ↓e_is_1o, ↓e_as_1o, ↓e_ls_1o, ↓e_inc_1o, ↓e_is_1n, ↓e_as_1n, ↓e_ls_1n, ↓e_inc_1n, ↓e_il_2, ↓e_al_2, ↓e_ll_2, ↓e_is_2i, ↓e_as_2i, ↓e_ls_2i, ↓e_inc_2i, ↓e_is_2o, ↓e_as_2o, ↓e_ls_2o, ↓e_inc_2o, ↓e_is_2n, ↓e_as_2n, ↓e_ls_2n, ↓e_inc_2n, ↓e_il_3, ↓e_al_3, ↓e_ll_3, ↓e_is_3i, ↓e_as_3i, ↓e_ls_3i, ↓e_inc_3i, ↓e_is_3o, ↓e_as_3o, ↓e_ls_3o, ↓e_inc_3o, ↓e_is_3n, ↓e_as_3n, ↓e_ls_3n, ↓e_inc_3n, ↓e_il_4, ↓e_al_4, ↓e_ll_4, ↓e_is_4i, ↓e_as_4i, ↓e_ls_4i, ↓e_inc_4i, ↓e_is_4o, ↓e_as_4o, ↓e_ls_4o, ↓e_inc_4o, ↓e_is_4n, ↓e_as_4n, ↓e_ls_4n, ↓e_inc_4n, ↓e_il_5, ↓e_al_5, ↓e_ll_5, ↓e_is_5i, ↓e_as_5i, ↓e_ls_5i, ↓e_inc_5i, ↓e_is_5o, ↓e_as_5o, ↓e_ls_5o, ↓e_inc_5o, ↓e_is_5n, ↓e_as_5n, ↓e_ls_5n, ↓e_inc_5n, ↓e_il_6, ↓e_al_6, ↓e_ll_6, ↓e_is_6i, ↓e_as_6i, ↓e_ls_6i, ↓e_inc_6i, ↓e_is_6o, ↓e_as_6o, ↓e_ls_6o, ↓e_inc_6o, ↓e_is_6n, ↓e_as_6n, ↓e_ls_6n, ↓e_inc_6n, ↓e_il_7, ↓e_al_7, ↓e_ll_7, ↓e_is_7i, ↓e_as_7i, ↓e_ls_7i, ↓e_inc_7i, ↓e_is_7o, ↓e_as_7o, ↓e_ls_7o, ↓e_inc_7o, ↓e_is_7n, ↓e_as_7n, ↓e_ls_7n, ↓e_inc_7n, ↓e_il_8, ↓e_al_8, ↓e_ll_8, ↓e_is_8i, ↓e_as_8i, ↓e_ls_8i, ↓e_inc_8i, ↓e_is_8o, ↓e_as_8o, ↓e_ls_8o, ↓e_inc_8o, ↓e_is_8n, ↓e_as_8n, ↓e_ls_8n, ↓e_inc_8n, ↓e_il_9, ↓e_al_9, ↓e_ll_9, ↓e_is_9i, ↓e_as_9i, ↓e_ls_9i, ↓e_inc_9i, ↓e_is_9o, ↓e_as_9o, ↓e_ls_9o, ↓e_inc_9o, ↓e_is_9n, ↓e_as_9n, ↓e_ls_9n, ↓e_inc_9n, ↓e_il_10, ↓e_al_10, ↓e_ll_10, ↓e_is_10i, ↓e_as_10i, ↓e_ls_10i, ↓e_inc_10i, ↓e_is_10o, ↓e_as_10o, ↓e_ls_10o, ↓e_inc_10o, ↓e_is_10n, ↓e_as_10n, ↓e_ls_10n, ↓e_inc_10n, ↓e_il_11, ↓e_al_11, ↓e_ll_11, ↓e_is_11i, ↓e_as_11i, ↓e_ls_11i, ↓e_inc_11i, ↓e_is_11o, ↓e_as_11o, ↓e_ls_11o, ↓e_inc_11o, ↓e_is_11n, ↓e_as_11n, ↓e_ls_11n, ↓e_inc_11n, ↓e_il_12, ↓e_al_12, ↓e_ll_12, ↓e_is_12i, ↓e_as_12i, ↓e_ls_12i, ↓e_inc_12i, ↓e_is_12o, ↓e_as_12o, ↓e_ls_12o, ↓e_inc_12o, ↓e_is_12n, ↓e_as_12n, ↓e_ls_12n, ↓e_inc_12n, ↓e_dup_i, ↓e_pop_i, ↓e_dup2_ii, ↓e_dup2_io, ↓e_dup_o, ↓e_pop_o, ↓e_dup2_oi, ↓e_dup2_oo, ↓e_ir, ↓e_zr, ↓e_br, ↓e_lr, ↓e_ar, ↓e_vr, ↓e_cut, ↓e_cS_0, ↓e_cV_1, ↓e_cS_1, ↓e_cV_2, ↓e_cS_2, ↓e_cV_3, ↓e_cS_3, ↓e_cV_4, ↓e_cS_4, ↓e_cV_5, ↓e_cS_5, ↓e_cV_6, ↓e_cS_6, ↓e_cV_7, ↓e_cS_7, ↓e_swn, ↓e_swc, ↓e_tls, ↓e_tln, E_Wa_roundOf_0, E_Wa_roundOf_6, E_Wa_roundOf_60, ce_Ta_follow, e_ci, e_cl, e_nul, e_add, e_sub, e_mul, e_ladd, e_lmul, e_div, e_rem, e_ldiv, e_lrem, e_zeq, e_zne, e_zlt, e_zge, e_zgt, e_zle, e_ceq, e_cne, e_clt, e_cge, e_cgt, e_cle, e_nn, e_gI, e_gR, e_pI, e_pZ, e_pR, e_ia, e_ba, e_za, e_iS, e_bS, e_zS, e_aa, e_aS, e_len, e_and, e_xor, e_shr, e_ushr, e_lcmp, e_i2b, e_i2l, e_l2i, e_sw, e_min, e_max, e_acp, e_il_0, e_al_0, e_ll_0, e_is_0n, e_as_0n, e_ls_0n, e_inc_0n, e_il_1, e_al_1, e_ll_1, e_is_1i, e_as_1i, e_ls_1i, e_inc_1i, e_is_1o, e_as_1o, e_ls_1o, e_inc_1o, e_is_1n, e_as_1n, e_ls_1n, e_inc_1n, e_il_2, e_al_2, e_ll_2, e_is_2i, e_as_2i, e_ls_2i, e_inc_2i, e_is_2o, e_as_2o, e_ls_2o, e_inc_2o, e_is_2n, e_as_2n, e_ls_2n, e_inc_2n, e_il_3, e_al_3, e_ll_3, e_is_3i, e_as_3i, e_ls_3i, e_inc_3i, e_is_3o, e_as_3o, e_ls_3o, e_inc_3o, e_is_3n, e_as_3n, e_ls_3n, e_inc_3n, e_il_4, e_al_4, e_ll_4, e_is_4i, e_as_4i, e_ls_4i, e_inc_4i, e_is_4o, e_as_4o, e_ls_4o, e_inc_4o, e_is_4n, e_as_4n, e_ls_4n, e_inc_4n, e_il_5, e_al_5, e_ll_5, e_is_5i, e_as_5i, e_ls_5i, e_inc_5i, e_is_5o, e_as_5o, e_ls_5o, e_inc_5o, e_is_5n, e_as_5n, e_ls_5n, e_inc_5n, e_il_6, e_al_6, e_ll_6, e_is_6i, e_as_6i, e_ls_6i, e_inc_6i, e_is_6o, e_as_6o, e_ls_6o, e_inc_6o, e_is_6n, e_as_6n, e_ls_6n, e_inc_6n, e_il_7, e_al_7, e_ll_7, e_is_7i, e_as_7i, e_ls_7i, e_inc_7i, e_is_7o, e_as_7o, e_ls_7o, e_inc_7o, e_is_7n, e_as_7n, e_ls_7n, e_inc_7n, e_il_8, e_al_8, e_ll_8, e_is_8i, e_as_8i, e_ls_8i, e_inc_8i, e_is_8o, e_as_8o, e_ls_8o, e_inc_8o, e_is_8n, e_as_8n, e_ls_8n, e_inc_8n, e_il_9, e_al_9, e_ll_9, e_is_9i, e_as_9i, e_ls_9i, e_inc_9i, e_is_9o, e_as_9o, e_ls_9o, e_inc_9o, e_is_9n, e_as_9n, e_ls_9n, e_inc_9n, e_il_10, e_al_10, e_ll_10, e_is_10i, e_as_10i, e_ls_10i, e_inc_10i, e_is_10o, e_as_10o, e_ls_10o, e_inc_10o, e_is_10n, e_as_10n, e_ls_10n, e_inc_10n, e_il_11, e_al_11, e_ll_11, e_is_11i, e_as_11i, e_ls_11i, e_inc_11i, e_is_11o, e_as_11o, e_ls_11o, e_inc_11o, e_is_11n, e_as_11n, e_ls_11n, e_inc_11n, e_il_12, e_al_12, e_ll_12, e_is_12i, e_as_12i, e_ls_12i, e_inc_12i, e_is_12o, e_as_12o, e_ls_12o, e_inc_12o, e_is_12n, e_as_12n, e_ls_12n, e_inc_12n, e_dup_i, e_pop_i, e_dup2_ii, e_dup2_io, e_dup_o, e_pop_o, e_dup2_oi, e_dup2_oo, e_ir, e_zr, e_br, e_lr, e_ar, e_vr, e_cut, e_cS_0, e_cV_1, e_cS_1, e_cV_2, e_cS_2, e_cV_3, e_cS_3, e_cV_4, e_cS_4, e_cV_5, e_cS_5, e_cV_6, e_cS_6, e_cV_7, e_cS_7, e_swn, e_swc, e_tls, e_tln, gI_sI, gI_sA, gR_sI, gR_sA, gI_sR, gR_sR, hN_sI, hN_sA, hN_sR, isO_sI, isO_sA, isO_sR, isAr_sI, isAr_sA, isAr_sR, hC_sI, hC_sA, hC_sR, hZ_sI, hZ_sA, hZ_sR, MW_sI, MW_sA, true_and, and_true, true_or, or_true, and_self, forall_const, imp_self, implies_true, if_true, if_false, false_and, and_false, false_or, or_false, not_false_eq_true, not_true_eq_false, sI_sI, entA, fitL, List.length_cons, List.length_nil, List.nil_append, List.cons_append, false_imp_iff, true_imp_iff, pn1, pn2, MW_sI, CW_sI, cr_Ho_0 w, cr_Ho_3 w, cr_Ho_4 w, cr_Ho_5 w, cr_Ho_6 w, cr_Ho_7 w, cr_Ho_8 w, cr_Ho_9 w, cr_Ho_13 w, cr_Ho_15 w, cr_Ho_16 w, cr_Ws_0 w, cr_Ss_0 w, cr_Re_0 w, cr_Re_1 w, cr_Re_2 w, cr_Re_3 w, cr_Ta_0 w, cr_Ta_1 w, cr_Ta_2 w, cr_Ta_3 w, cr_Ta_4 w, cr_Ta_5 w, cr_Ta_6 w, cr_Wa_0 w, cr_Wa_2 w, cr_Wa_3 w, cr_Wa_4 w, cr_Wa_5 w, cr_Wa_6 w, cr_Lo_0 w, cr_Lo_1 w, cr_Lo_2 w, cr_Lo_3 w, cr_Lo_4 w, cr_Sh_0 w, cr_Sh_1 w, cr_Sh_2 w, co_Ho w, ca_Ho_tape w, cl_Ho_tape, co_Ws w, co_Ss w, co_Ask w, co_Re w, co_Ta w, co_Fi w, co_Wa w, ca_Ho_told w, cl_Ho_told, co_Lo w, co_Sh w, ca_Ws_e w, cl_Ws_e, ca_Ss_e w, cl_Ss_e, ca_Re_sums w, cl_Re_sums, ca_Re_firsts w, cl_Re_firsts, co_Atom w, co_Raised w, ca_Ta_cells w, cl_Ta_cells, ca_Ta_numbers w, cl_Ta_numbers, ca_Ta_done w, cl_Ta_done, ca_Ta_order w, cl_Ta_order, ca_Ta_spare w, cl_Ta_spare, ca_Ta_parents w, cl_Ta_parents, ca_Ta_melting w, cl_Ta_melting, ca_Wa_queue w, cl_Wa_queue, ca_Wa_origins w, cl_Wa_origins, ca_Wa_vias w, cl_Wa_vias, ca_Wa_lengths w, cl_Wa_lengths, ca_Wa_seen w, cl_Wa_seen, co_Single w, ca_Lo_cells w, cl_Lo_cells, ca_Lo_kept w, cl_Lo_kept, ca_Lo_keptRows w, cl_Lo_keptRows, ca_Lo_names w, cl_Lo_names, ca_Lo_met w, cl_Lo_met, ca_Sh_cells w, cl_Sh_cells, ca_Sh_seen w, cl_Sh_seen, ca_Sh_queue w, cl_Sh_queue, CW_sI, CW_sA]
    refine ⟨0, s, rfl, by omega, hs, hr0.symm, FrP_refl _ h, fun t ht => ?_, fun z => by omega, fun m m0 m1 => by omega⟩
    rw [hS t ht]
    exact ⟨Or.inl, fun z => z.elim id (fun ⟨j, j1, _⟩ => by omega)⟩
