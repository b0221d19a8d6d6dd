/-! WORDS in the heap; THE MODEL'S CLOSE -/
def seg (g : Int → Int) : Int → Nat → List Int
  | _, 0 => []
  | f, n + 1 => g f :: seg g (f + 1) n
theorem seg_len {g : Int → Int} : ∀ {n : Nat} {f : Int}, (seg g f n).length = n
  | 0, _ => rfl
  | n + 1, f => by show (seg g (f + 1) n).length + 1 = n + 1; rw [seg_len]
theorem seg_wf {g : Int → Int} : ∀ {n : Nat} {f : Int} {k : Nat}, k < n → g (f + k) = wf (seg g f n) k
  | 0, _, _, h => by omega
  | n + 1, f, 0, _ => by show g (f + ((0 : Nat) : Int)) = g f; congr 1; omega
  | n + 1, f, k + 1, h => by
    have := seg_wf (g := g) (n := n) (f := f + 1) (k := k) (by omega)
    rw [show ((k + 1 : Nat) : Int) = (k : Int) + 1 by omega]
    show _ = wf (g f :: seg g (f + 1) n) ((k : Int) + 1)
    rw [wf_succ, ← this]
    congr 1
    omega
theorem seg_mem {g : Int → Int} {P : Int → Prop} : ∀ {n : Nat} {f : Int}, (∀ k : Nat, k < n → P (g (f + k))) → ∀ c, c ∈ seg g f n → P c
  | 0, _, _, c, hc => by simp [seg] at hc
  | n + 1, f, h, c, hc => by
    rcases List.mem_cons.mp hc with rfl | hc
    · have := h 0 (by omega)
      rw [show f + ((0 : Nat) : Int) = f by omega] at this
      exact this
    · refine seg_mem (n := n) (f := f + 1) (fun k hk => ?_) c hc
      have := h (k + 1) (by omega)
      rw [show f + ((k + 1 : Nat) : Int) = f + 1 + k by omega] at this
      exact this
def wdsM (g s : Int → Int) (n : Int) : List (List Int) := (List.range n.toNat).map (fun i : Nat => seg g (40 * (i : Int)) (s i).toNat)
def wM (h : PH) : List (List Int) := wdsM (gI h pMo_words) (gI h pMo_wordSize) (gI h pMo 14)
def uM (h : PH) : List (List Int) := wdsM (gI h pMo_subs) (gI h pMo_subSize) (gI h pMo 15)
theorem wdsM_mem {g s : Int → Int} {n : Int} {u : List Int} : u ∈ wdsM g s n ↔ ∃ i : Nat, (i : Int) < n ∧ u = seg g (40 * (i : Int)) (s i).toNat := by
  unfold wdsM
  rw [List.mem_map]
  constructor
  · rintro ⟨i, hi, rfl⟩
    exact ⟨i, by have := List.mem_range.mp hi; omega, rfl⟩
  · rintro ⟨i, hi, rfl⟩
    exact ⟨i, List.mem_range.mpr (by omega), rfl⟩
/-- words of an array that keep to L columns -/
def OKw (L : Int) (g s : Int → Int) (n : Int) : Prop := 0 ≤ n ∧ ∀ i, 0 ≤ i → i < n → 1 ≤ s i ∧ s i ≤ 40 ∧ ∀ k, 0 ≤ k → k < s i → 0 ≤ g (40 * i + k) ∧ g (40 * i + k) < L
def MWd (L : Int) (h : PH) : Prop := OKw L (gI h pMo_words) (gI h pMo_wordSize) (gI h pMo 14) ∧ gI h pMo 14 ≤ 12 ∧ OKw L (gI h pMo_subs) (gI h pMo_subSize) (gI h pMo 15) ∧ gI h pMo 15 ≤ 6
theorem OKw_mem {L : Int} {g s : Int → Int} {n : Int} (h : OKw L g s n) : ∀ u, u ∈ wdsM g s n → u.length ≤ 40 ∧ ∀ c, c ∈ u → 0 ≤ c ∧ c < L := by
  intro u hu
  obtain ⟨i, hi, rfl⟩ := wdsM_mem.mp hu
  have := h.2 i (by omega) hi
  refine ⟨by rw [seg_len]; omega, seg_mem (fun k hk => this.2.2 k (by omega) (by omega))⟩
theorem Fr_words {h h' : PH} (f : Fr h h') : wM h' = wM h ∧ uM h' = uM h ∧ ∀ L, MWd L h' ↔ MWd L h := by
  have e1 := FrP_arr f (b := pMo_words) (fun j z => by unfold Tb at z; simp (decide := true) only [false_and, or_self] at z)
  have e2 := FrP_arr f (b := pMo_subs) (fun j z => by unfold Tb at z; simp (decide := true) only [false_and, or_self] at z)
  have e3 := FrP_arr f (b := pMo_wordSize) (fun j z => by unfold Tb at z; simp (decide := true) only [false_and, or_self] at z)
  have e4 := FrP_arr f (b := pMo_subSize) (fun j z => by unfold Tb at z; simp (decide := true) only [false_and, or_self] at z)
  have e5 := Fr_fld f (j := 14) (by omega)
  have e6 := Fr_fld f (j := 15) (by omega)
  unfold wM uM MWd
  rw [e1, e2, e3, e4, e5, e6]
  exact ⟨rfl, rfl, fun _ => Iff.rfl⟩
theorem Fr_size {h h' : PH} (f : Fr h h') : gI h' pMo_wordSize = gI h pMo_wordSize ∧ gI h' pMo_subSize = gI h pMo_subSize ∧ gI h' pMo_words = gI h pMo_words ∧ gI h' pMo_subs = gI h pMo_subs := 
  ⟨FrP_arr f (fun j z => by unfold Tb at z; simp (decide := true) only [false_and, or_self] at z), FrP_arr f (fun j z => by unfold Tb at z; simp (decide := true) only [false_and, or_self] at z), FrP_arr f (fun j z => by unfold Tb at z; simp (decide := true) only [false_and, or_self] at z), FrP_arr f (fun j z => by unfold Tb at z; simp (decide := true) only [false_and, or_self] at z)⟩
def Ct_Mo_close : CtT := fun av h post => match av with
  | [.inr (.inl (some t))] => t = pMo ∧ MW h ∧ ∃ (L Q : Int), L = 2 * gI h pMo 0 ∧ (2 ≤ L ∧ L ≤ 10) ∧ WT L Q (atM h) ∧ Q ≤ 100000 ∧ MWd L h ∧
      ∀ h', Fr h h' → atM h' = clA L (wM h) (uM h) (atM h) → WT L Q (atM h') → (BB h → BB h') → post none h'
  | _ => False
def B_Mo_close_117 : TT := tt_vr
theorem S_Mo_close_117 (lc lz : Nat) : Snd md_Mo_close lc lz 117 (B_Mo_close_117) := (snd_vr (dget dd_Mo_close 65 rfl) rfl)
def B_Mo_close_114 : TT := (tt_cut 5)
theorem S_Mo_close_114 (lc lz : Nat) : Snd md_Mo_close lc lz 114 (B_Mo_close_114) := (snd_goto (tg := 5) (dget dd_Mo_close 64 rfl) rfl snd_cut)
def B_Mo_close_108 : TT := (tt_inc 1 1 (tt_cut 54))
theorem S_Mo_close_108 (lc lz : Nat) : Snd md_Mo_close lc lz 108 (B_Mo_close_108) := (snd_inc (dget dd_Mo_close 62 rfl) (snd_goto (tg := 54) (dget dd_Mo_close 63 rfl) rfl snd_cut))
def B_Mo_close_102 : TT := (tt_inc 2 1 (tt_cut 66))
theorem S_Mo_close_102 (lc lz : Nat) : Snd md_Mo_close lc lz 102 (B_Mo_close_102) := (snd_inc (dget dd_Mo_close 60 rfl) (snd_goto (tg := 66) (dget dd_Mo_close 61 rfl) rfl snd_cut))
def B_Mo_close_66 : TT := (tt_il 2 (tt_al 0 (tt_gI 9 14 (tt_cge (B_Mo_close_108) (tt_al 0 (tt_gR 9 26 (tt_il 1 (tt_za (tt_zeq (B_Mo_close_102) (tt_al 0 (tt_al 0 (tt_gR 9 9 (tt_ci 40 (tt_il 2 (tt_mul (tt_al 0 (tt_gR 9 10 (tt_il 2 (tt_ia (tt_il 1 (tt_cV 9 5 Ct_Mo_lookAt (B_Mo_close_102))))))))))))))))))))))
theorem S_Mo_close_66 (lc lz : Nat) : Snd md_Mo_close lc lz 66 (B_Mo_close_66) := (snd_il_n (n := 2) (dget dd_Mo_close 39 rfl) rfl (snd_al_n (n := 0) (dget dd_Mo_close 40 rfl) rfl (snd_gI (kn := 14) fd_Mo_143 rfl (dget dd_Mo_close 41 rfl) (snd_cge (tg := 108) (dget dd_Mo_close 42 rfl) rfl (S_Mo_close_108 lc lz) (snd_al_n (n := 0) (dget dd_Mo_close 43 rfl) rfl (snd_gR (kn := 26) fd_Mo_63 rfl (dget dd_Mo_close 44 rfl) (snd_il_n (n := 1) (dget dd_Mo_close 45 rfl) rfl (snd_za (dget dd_Mo_close 46 rfl) (snd_zeq (tg := 102) (dget dd_Mo_close 47 rfl) rfl (S_Mo_close_102 lc lz) (snd_al_n (n := 0) (dget dd_Mo_close 48 rfl) rfl (snd_al_n (n := 0) (dget dd_Mo_close 49 rfl) rfl (snd_gR (kn := 9) fd_Mo_23 rfl (dget dd_Mo_close 50 rfl) (snd_bipush (n := 40) (dget dd_Mo_close 51 rfl) (inR_d rfl) (by decide) (snd_il_n (n := 2) (dget dd_Mo_close 52 rfl) rfl (snd_mul (dget dd_Mo_close 53 rfl) (snd_al_n (n := 0) (dget dd_Mo_close 54 rfl) rfl (snd_gR (kn := 10) fd_Mo_27 rfl (dget dd_Mo_close 55 rfl) (snd_il_n (n := 2) (dget dd_Mo_close 56 rfl) rfl (snd_ia (dget dd_Mo_close 57 rfl) (snd_il_n (n := 1) (dget dd_Mo_close 58 rfl) rfl (snd_cV (n := 4) met_Mo_lookAt mi_Mo_lookAt ki_Mo_lookAt kv_Mo_lookAt ml_Mo_262 rfl (by decide) (dget dd_Mo_close 59 rfl) (S_Mo_close_102 lc lz))))))))))))))))))))))
def B_Mo_close_54 : TT := (tt_il 1 (tt_al 0 (tt_gR 9 30 (tt_ci 0 (tt_ia (tt_cge (B_Mo_close_114) (tt_ci 0 (tt_is 2 (tt_cut 66)))))))))
theorem S_Mo_close_54 (lc lz : Nat) : Snd md_Mo_close lc lz 54 (B_Mo_close_54) := (snd_il_n (n := 1) (dget dd_Mo_close 31 rfl) rfl (snd_al_n (n := 0) (dget dd_Mo_close 32 rfl) rfl (snd_gR (kn := 30) fd_Mo_76 rfl (dget dd_Mo_close 33 rfl) (snd_iconst (n := 0) (dget dd_Mo_close 34 rfl) (inR_d rfl) rfl (snd_ia (dget dd_Mo_close 35 rfl) (snd_cge (tg := 114) (dget dd_Mo_close 36 rfl) rfl (S_Mo_close_114 lc lz) (snd_iconst (n := 0) (dget dd_Mo_close 37 rfl) (inR_d rfl) rfl (snd_is_n (n := 2) (dget dd_Mo_close 38 rfl) rfl snd_cut))))))))
def B_Mo_close_52 : TT := (tt_ci 0 (tt_is 1 (tt_cut 54)))
theorem S_Mo_close_52 (lc lz : Nat) : Snd md_Mo_close lc lz 52 (B_Mo_close_52) := (snd_iconst (n := 0) (dget dd_Mo_close 29 rfl) (inR_d rfl) rfl (snd_is_n (n := 1) (dget dd_Mo_close 30 rfl) rfl snd_cut))
def B_Mo_close_19 : TT := (tt_il 1 (tt_al 0 (tt_gI 9 15 (tt_cge (B_Mo_close_52) (tt_al 0 (tt_al 0 (tt_gR 9 11 (tt_ci 40 (tt_il 1 (tt_mul (tt_al 0 (tt_gR 9 12 (tt_il 1 (tt_ia (tt_ci 0 (tt_cV 9 5 Ct_Mo_lookAt (tt_inc 1 1 (tt_cut 19))))))))))))))))))
theorem S_Mo_close_19 (lc lz : Nat) : Snd md_Mo_close lc lz 19 (B_Mo_close_19) := (snd_il_n (n := 1) (dget dd_Mo_close 11 rfl) rfl (snd_al_n (n := 0) (dget dd_Mo_close 12 rfl) rfl (snd_gI (kn := 15) fd_Mo_146 rfl (dget dd_Mo_close 13 rfl) (snd_cge (tg := 52) (dget dd_Mo_close 14 rfl) rfl (S_Mo_close_52 lc lz) (snd_al_n (n := 0) (dget dd_Mo_close 15 rfl) rfl (snd_al_n (n := 0) (dget dd_Mo_close 16 rfl) rfl (snd_gR (kn := 11) fd_Mo_30 rfl (dget dd_Mo_close 17 rfl) (snd_bipush (n := 40) (dget dd_Mo_close 18 rfl) (inR_d rfl) (by decide) (snd_il_n (n := 1) (dget dd_Mo_close 19 rfl) rfl (snd_mul (dget dd_Mo_close 20 rfl) (snd_al_n (n := 0) (dget dd_Mo_close 21 rfl) rfl (snd_gR (kn := 12) fd_Mo_33 rfl (dget dd_Mo_close 22 rfl) (snd_il_n (n := 1) (dget dd_Mo_close 23 rfl) rfl (snd_ia (dget dd_Mo_close 24 rfl) (snd_iconst (n := 0) (dget dd_Mo_close 25 rfl) (inR_d rfl) rfl (snd_cV (n := 4) met_Mo_lookAt mi_Mo_lookAt ki_Mo_lookAt kv_Mo_lookAt ml_Mo_262 rfl (by decide) (dget dd_Mo_close 26 rfl) (snd_inc (dget dd_Mo_close 27 rfl) (snd_goto (tg := 19) (dget dd_Mo_close 28 rfl) rfl snd_cut))))))))))))))))))
def B_Mo_close_5 : TT := (tt_al 0 (tt_gI 9 34 (tt_zeq (B_Mo_close_117) (tt_al 0 (tt_ci 0 (tt_pZ 9 34 (tt_ci 0 (tt_is 1 (tt_cut 19)))))))))
theorem S_Mo_close_5 (lc lz : Nat) : Snd md_Mo_close lc lz 5 (B_Mo_close_5) := (snd_al_n (n := 0) (dget dd_Mo_close 3 rfl) rfl (snd_gI (kn := 34) fd_Mo_234 rfl (dget dd_Mo_close 4 rfl) (snd_zeq (tg := 117) (dget dd_Mo_close 5 rfl) rfl (S_Mo_close_117 lc lz) (snd_al_n (n := 0) (dget dd_Mo_close 6 rfl) rfl (snd_iconst (n := 0) (dget dd_Mo_close 7 rfl) (inR_d rfl) rfl (snd_pZ (kn := 34) fd_Mo_234 rfl (dget dd_Mo_close 8 rfl) (snd_iconst (n := 0) (dget dd_Mo_close 9 rfl) (inR_d rfl) rfl (snd_is_n (n := 1) (dget dd_Mo_close 10 rfl) rfl snd_cut))))))))
def B_Mo_close_0 : TT := (tt_al 0 (tt_ci 1 (tt_pZ 9 34 (tt_cut 5))))
theorem S_Mo_close_0 (lc lz : Nat) : Snd md_Mo_close lc lz 0 (B_Mo_close_0) := (snd_al_n (n := 0) (dget dd_Mo_close 0 rfl) rfl (snd_iconst (n := 1) (dget dd_Mo_close 1 rfl) (inR_d rfl) rfl (snd_pZ (kn := 34) fd_Mo_234 rfl (dget dd_Mo_close 2 rfl) snd_cut)))
def muC (pc : Nat) (ls : LSt) (h' : PH) : Nat := (2 * muA (atM h') + (gI h' pMo 34).toNat) * 40000 + (if pc = 5 then 0 else if pc = 19 then (39000 - locI ls 1).toNat else if pc = 54 then (38000 - 14 * locI ls 1).toNat else (38000 - 14 * locI ls 1 - 1 - locI ls 2).toNat)
theorem muC_5 {ls : LSt} {h' : PH} : muC 5 ls h' = (2 * muA (atM h') + (gI h' pMo 34).toNat) * 40000 := by
  unfold muC
  rw [if_pos rfl, Nat.add_zero]
theorem muC_19 {ls : LSt} {h' : PH} : muC 19 ls h' = (2 * muA (atM h') + (gI h' pMo 34).toNat) * 40000 + (39000 - locI ls 1).toNat := by
  unfold muC
  rw [if_neg (by decide), if_pos rfl]
theorem muC_54 {ls : LSt} {h' : PH} : muC 54 ls h' = (2 * muA (atM h') + (gI h' pMo 34).toNat) * 40000 + (38000 - 14 * locI ls 1).toNat := by
  unfold muC
  rw [if_neg (by decide), if_neg (by decide), if_pos rfl]
theorem muC_66 {ls : LSt} {h' : PH} : muC 66 ls h' = (2 * muA (atM h') + (gI h' pMo 34).toNat) * 40000 + (38000 - 14 * locI ls 1 - 1 - locI ls 2).toNat := by
  unfold muC
  rw [if_neg (by decide), if_neg (by decide), if_neg (by decide)]
theorem arC1 {r i : Int} (hr : 0 ≤ r) (hi : 0 ≤ i) (h2 : i ≤ 12) (hr2 : r ≤ 2000) : (38000 - 14 * (r + 1)).toNat < (38000 - 14 * r - 1 - i).toNat := by omega
theorem arC2 {i : Int} {a b : Nat} (hi : 0 ≤ i) (h2 : i ≤ 12) (h : a ≤ b) : a * 40000 + (39000 - (i + 1)).toNat < b * 40000 + (39000 - i).toNat := by omega
def subK (h : PH) (i : Int) : List Int := seg (gI h pMo_subs) (40 * i) (gI h pMo_subSize i).toNat
def wrdK (h : PH) (i : Int) : List Int := seg (gI h pMo_words) (40 * i) (gI h pMo_wordSize i).toNat
/-- what holds throughout CLOSE -/
def CI (L Q : Int) (h h' : PH) : Prop := Fr h h' ∧ WT L Q (atM h') ∧ CPx L (wM h) (uM h) (atM h) (atM h') ∧ (gI h' pMo 34 = 0 ∨ gI h' pMo 34 = 1) ∧ (BB h → BB h')
theorem CI_next {L Q : Int} {h h' : PH} (hc : CI L Q h h') : gI h' pMo_state 0 = gI h pMo_state 0 := by
  have e : aS (atM h') 0 = aS (atM h) 0 := by
    have := hc.2.2.1.2
    rw [this]
    rfl
  rw [aS_atM (by omega) (by omega), aS_atM (by omega) (by omega)] at e
  exact e
theorem CI_look {L Q : Int} {h h' h1 : PH} {u : List Int} {r : Int} (hL : L % 2 = 0) (hL10 : L ≤ 10) (h0 : WT L Q (atM h)) (hc : CI L Q h h') (hr : VV (atM h') r) (hu : ∀ c, c ∈ u → 0 ≤ c ∧ c < L) (hw : u ∈ wM h ∨ (u ∈ uM h ∧ r = 0)) (hF : Fr h' h1) (he : atM h1 = lookA L (atM h') u r) (hW : WT L Q (atM h1))
    (hq : gap (aE (atM h')) u r = 0 → (lkp (aE (atM h')) u r).1 ≠ (lkq (aE (atM h')) u r).1 → hasQ L (atM h') (lkp (aE (atM h')) u r).1 (lkq (aE (atM h')) u r).1) (c1 : chg (atM h') u r → gI h1 pMo 34 = 1) (c2 : ¬ chg (atM h') u r → gI h1 pMo 34 = gI h' pMo 34) (bb : BB h' → BB h1) :
    CI L Q h h1 ∧ (gI h1 pMo 34 = 0 → ¬ chg (atM h') u r ∧ atM h1 = atM h' ∧ gI h' pMo 34 = 0) ∧ 2 * muA (atM h1) + (gI h1 pMo 34).toNat ≤ 2 * muA (atM h') + (gI h' pMo 34).toNat := by
  obtain ⟨f1, f2, f3, f4, f5⟩ := hc
  refine ⟨⟨FrP_trans f1 hF, hW, ?_, ?_, fun b => bb (f5 b)⟩, ?_, ?_⟩
  · rw [he]
    exact look_CP hL h0 f2 f3 hr hu hw hq
  · by_cases z : chg (atM h') u r
    · exact Or.inr (c1 z)
    · rw [c2 z]; exact f4
  · intro q
    have z : ¬ chg (atM h') u r := fun z => by have := c1 z; omega
    exact ⟨z, by rw [he, lookA_same z], by rw [← c2 z]; exact q⟩
  · by_cases z : chg (atM h') u r
    · have := look_mu hL hL10 f2 hr hu z hq
      rw [he, c1 z]
      omega
    · rw [he, lookA_same z, c2 z]
      exact Nat.le_refl _
theorem subK_mem {h : PH} {i : Nat} (hi : (i : Int) < gI h pMo 15) : subK h i ∈ uM h := wdsM_mem.mpr ⟨i, hi, rfl⟩
theorem wrdK_mem {h : PH} {i : Nat} (hi : (i : Int) < gI h pMo 14) : wrdK h i ∈ wM h := wdsM_mem.mpr ⟨i, hi, rfl⟩
theorem met_Mo_close : MetP y_Mo_close md_Mo_close (fun _ => 0) (fun _ => 0) Ct_Mo_close := by
  refine metL4 (body := B_Mo_close_0) (B1 := B_Mo_close_5) (B2 := B_Mo_close_19) (B3 := B_Mo_close_54) (B4 := B_Mo_close_66) (by decide) rfl rfl (fun lc lz => S_Mo_close_0 lc lz) (fun lc lz => S_Mo_close_5 lc lz) (fun lc lz => S_Mo_close_19 lc lz) (fun lc lz => S_Mo_close_54 lc lz) (fun lc lz => S_Mo_close_66 lc lz) (by decide) ?_
  intro av h post hc hH hav
  unfold Ct_Mo_close at hc
  split at hc
  rotate_left
  · exact hc.elim
  rename_i t
  obtain ⟨rfl, w, L, Q, hL, hL2, hW, hQ, hD, hp⟩ := hc
  refine ⟨Nat.le_of_ble_eq_true rfl, ?_⟩
  obtain ⟨mu, hmu⟩ : ∃ mu, mu = muC := ⟨_, rfl⟩
  have hL0 : L % 2 = 0 := by omega
  refine ⟨fun ls h' => ∃ x1 x2, ls = [some (.inr (.inl (some pMo))), x1, x2] ∧ CI L Q h h' ∧ (gI h' pMo 34 = 0 → (∀ u, u ∈ wM h → ∀ r, VV (atM h') r → ¬ chg (atM h') u r) ∧ ∀ u, u ∈ uM h → ¬ chg (atM h') u 0),
    fun ls h' => ∃ (i : Nat) (x2 : Option PV), ls = [some (.inr (.inl (some pMo))), some (.inl i), x2] ∧ CI L Q h h' ∧ (i : Int) ≤ gI h pMo 15 ∧ (gI h' pMo 34 = 0 → ∀ k : Nat, k < i → ¬ chg (atM h') (subK h k) 0),
    fun ls h' => ∃ (r : Nat) (x2 : Option PV), ls = [some (.inr (.inl (some pMo))), some (.inl r), x2] ∧ CI L Q h h' ∧ (r : Int) ≤ gI h pMo_state 0 ∧ (gI h' pMo 34 = 0 → (∀ u, u ∈ uM h → ¬ chg (atM h') u 0) ∧ ∀ x : Int, x < r → VV (atM h') x → ∀ u, u ∈ wM h → ¬ chg (atM h') u x),
    fun ls h' => ∃ (r i : Nat), ls = [some (.inr (.inl (some pMo))), some (.inl r), some (.inl i)] ∧ CI L Q h h' ∧ (r : Int) < gI h pMo_state 0 ∧ (i : Int) ≤ gI h pMo 14 ∧ (gI h' pMo 34 = 0 → (∀ u, u ∈ uM h → ¬ chg (atM h') u 0) ∧ (∀ x : Int, x < r → VV (atM h') x → ∀ u, u ∈ wM h → ¬ chg (atM h') u x) ∧ (VV (atM h') r → ∀ k : Nat, k < i → ¬ chg (atM h') (wrdK h k) r)), mu, ?_, ?_, ?_, ?_, ?_⟩
  · rintro ls h' ⟨x1, x2, rfl, ⟨hF, hW1, hc, h34, hbb⟩, hn⟩
    have w1 := FrP_MW hF w
    simp (decide := true) only [B_Mo_close_0, B_Mo_close_5, B_Mo_close_19, B_Mo_close_52, B_Mo_close_54, B_Mo_close_66, B_Mo_close_102, B_Mo_close_108, B_Mo_close_114, B_Mo_close_117, Ct_Mo_lookAt, tt_ci, tt_cl, tt_nul, tt_il, tt_al, tt_ll, tt_is, tt_as, tt_ls, tt_inc, tt_add, tt_sub, tt_mul, tt_div, tt_rem, tt_ladd, tt_lmul, tt_ldiv, tt_lrem, tt_zeq, tt_zne, tt_zlt, tt_zge, tt_zgt, tt_zle, tt_ceq, tt_cne, tt_clt, tt_cge, tt_cgt, tt_cle, tt_nn, tt_cut, tt_pop, tt_dup, tt_dup2, tt_gI, tt_gR, tt_pI, tt_pZ, tt_pR, tt_ia, tt_ba, tt_za, tt_iS, tt_bS, tt_zS, tt_aa, tt_aS, tt_len, tt_and, tt_xor, tt_shr, tt_ushr, tt_lcmp, tt_i2b, tt_i2l, tt_l2i, tt_sw, swG, tt_ir, tt_zr, tt_br, tt_lr, tt_ar, tt_vr, tt_cV, tt_cS, tt_min, tt_max, tt_acp, pI, pII, pO, pA, pIA, pIIA, pOA, pOIA, pL, pLL, pLIA, pV, pCP, lI, lO, lL, nth, stL, clL, entA, fitL, rcv, List.take_succ_cons, List.take_zero, List.drop_succ_cons, List.drop_zero, List.reverse_cons, List.reverse_nil, List.nil_append, List.cons_append, List.length_cons, List.length_nil, Option.toList_some, Option.toList_none, gI_sI, gI_sA, gR_sI, gR_sA, gI_sR, gR_sR, hN_sI, hN_sA, hN_sR, isO_sI, isO_sA, isO_sR, isAr_sI, isAr_sA, isAr_sR, hC_sI, hC_sA, hC_sR, hZ_sI, hZ_sA, hZ_sR, MW_sI, MW_sA, true_and, and_true, true_or, or_true, and_self, forall_const, imp_self, implies_true, if_true, if_false, false_and, and_false, false_or, or_false, not_false_eq_true, not_true_eq_false, sI_sI, mr_tape w1, mr_text w1, mr_words w1, mr_wordSize w1, mr_subs w1, mr_subSize w1, mr_asked w1, mr_pile w1, mr_pileSize w1, mr_opened w1, mr_openedAt w1, mr_begun w1, mr_cells w1, mr_keptCells w1, mr_name w1, mr_isLeft w1, mr_isDone w1, mr_keptLeft w1, mr_keptDone w1, mr_state w1, mr_keptState w1, mr_newOf w1, mr_oldOf w1, mr_spare w1, mr_spareDone w1, mr_out w1, mr_metFrom w1, mr_metBy w1, mr_far w1, mr_low w1, mr_lows w1, mr_lowSize w1, mr_triedRow w1, mr_triedColumn w1, mr_triedValue w1, mr_triedRows w1, mr_sheet w1, ma_tape w1, ma_text w1, ma_words w1, ma_wordSize w1, ma_subs w1, ma_subSize w1, ma_asked w1, ma_pile w1, ma_pileSize w1, ma_opened w1, ma_openedAt w1, ma_begun w1, ma_cells w1, ma_keptCells w1, ma_name w1, ma_isLeft w1, ma_isDone w1, ma_keptLeft w1, ma_keptDone w1, ma_state w1, ma_keptState w1, ma_newOf w1, ma_oldOf w1, ma_spare w1, ma_spareDone w1, ma_out w1, ma_metFrom w1, ma_metBy w1, ma_far w1, ma_low w1, ma_lows w1, ma_lowSize w1, ma_triedRow w1, ma_triedColumn w1, ma_triedValue w1, ma_triedRows w1, ma_sheet w1, ml_tape, ml_text, ml_words, ml_wordSize, ml_subs, ml_subSize, ml_asked, ml_pile, ml_pileSize, ml_opened, ml_openedAt, ml_begun, ml_cells, ml_keptCells, ml_name, ml_isLeft, ml_isDone, ml_keptLeft, ml_keptDone, ml_state, ml_keptState, ml_newOf, ml_oldOf, ml_spare, ml_spareDone, ml_out, ml_metFrom, ml_metBy, ml_far, ml_low, ml_lows, ml_lowSize, ml_triedRow, ml_triedColumn, ml_triedValue, ml_triedRows, ml_sheet, mo_O w1]
    refine ⟨fun q => ⟨hp h' hF ?_ hW1 hbb, hF.2.2.2.1, hF.2.2.2.2⟩, fun q => ⟨⟨0, x2, rfl, ⟨FrP_sI (Or.inr (Or.inr (Or.inr (Or.inr (Or.inr ⟨rfl, by omega, by omega⟩))))) hF, by rw [atM_sI (by decide)]; exact hW1, by rw [atM_sI (by decide)]; exact hc, Or.inl (by simp (decide := true) only [gI_sI, if_true]), fun b => BB_sI (by decide) (by decide) (hbb b)⟩, hD.2.2.1.1, fun k hk => by omega⟩, ?_⟩⟩
    · have := hn q
      exact (close_end hL0 hW hW1 hc (fun u hu => (OKw_mem hD.1 u hu).2) (fun u hu => (OKw_mem hD.2.2.1 u hu).2) this.1 this.2).symm
    · rw [hmu, muC_19, muC_5, atM_sI (by decide)]
      simp (decide := true) only [gI_sI, if_true, locI, nth]
      have : gI h' pMo 34 = 1 := by omega
      rw [this]
      omega
  · rintro ls h' ⟨i, x2, rfl, hCI, hi, hn⟩
    obtain ⟨hF, hW1, hc, h34, hbb⟩ := id hCI
    have w1 := FrP_MW hF w
    have e15 := Fr_fld hF (j := 15) (by omega)
    have e0 := Fr_fld hF (j := 0) (by omega)
    obtain ⟨z1, z2, z3, z4⟩ := Fr_size hF
    have hN := hW.2.2.2.2.1
    rw [aS_atM (by omega) (by omega), aS_atM (by omega) (by omega)] at hN
    have h15 := hD.2.2.2
    simp (decide := true) only [B_Mo_close_0, B_Mo_close_5, B_Mo_close_19, B_Mo_close_52, B_Mo_close_54, B_Mo_close_66, B_Mo_close_102, B_Mo_close_108, B_Mo_close_114, B_Mo_close_117, Ct_Mo_lookAt, tt_ci, tt_cl, tt_nul, tt_il, tt_al, tt_ll, tt_is, tt_as, tt_ls, tt_inc, tt_add, tt_sub, tt_mul, tt_div, tt_rem, tt_ladd, tt_lmul, tt_ldiv, tt_lrem, tt_zeq, tt_zne, tt_zlt, tt_zge, tt_zgt, tt_zle, tt_ceq, tt_cne, tt_clt, tt_cge, tt_cgt, tt_cle, tt_nn, tt_cut, tt_pop, tt_dup, tt_dup2, tt_gI, tt_gR, tt_pI, tt_pZ, tt_pR, tt_ia, tt_ba, tt_za, tt_iS, tt_bS, tt_zS, tt_aa, tt_aS, tt_len, tt_and, tt_xor, tt_shr, tt_ushr, tt_lcmp, tt_i2b, tt_i2l, tt_l2i, tt_sw, swG, tt_ir, tt_zr, tt_br, tt_lr, tt_ar, tt_vr, tt_cV, tt_cS, tt_min, tt_max, tt_acp, pI, pII, pO, pA, pIA, pIIA, pOA, pOIA, pL, pLL, pLIA, pV, pCP, lI, lO, lL, nth, stL, clL, entA, fitL, rcv, List.take_succ_cons, List.take_zero, List.drop_succ_cons, List.drop_zero, List.reverse_cons, List.reverse_nil, List.nil_append, List.cons_append, List.length_cons, List.length_nil, Option.toList_some, Option.toList_none, gI_sI, gI_sA, gR_sI, gR_sA, gI_sR, gR_sR, hN_sI, hN_sA, hN_sR, isO_sI, isO_sA, isO_sR, isAr_sI, isAr_sA, isAr_sR, hC_sI, hC_sA, hC_sR, hZ_sI, hZ_sA, hZ_sR, MW_sI, MW_sA, true_and, and_true, true_or, or_true, and_self, forall_const, imp_self, implies_true, if_true, if_false, false_and, and_false, false_or, or_false, not_false_eq_true, not_true_eq_false, sI_sI, mr_tape w1, mr_text w1, mr_words w1, mr_wordSize w1, mr_subs w1, mr_subSize w1, mr_asked w1, mr_pile w1, mr_pileSize w1, mr_opened w1, mr_openedAt w1, mr_begun w1, mr_cells w1, mr_keptCells w1, mr_name w1, mr_isLeft w1, mr_isDone w1, mr_keptLeft w1, mr_keptDone w1, mr_state w1, mr_keptState w1, mr_newOf w1, mr_oldOf w1, mr_spare w1, mr_spareDone w1, mr_out w1, mr_metFrom w1, mr_metBy w1, mr_far w1, mr_low w1, mr_lows w1, mr_lowSize w1, mr_triedRow w1, mr_triedColumn w1, mr_triedValue w1, mr_triedRows w1, mr_sheet w1, ma_tape w1, ma_text w1, ma_words w1, ma_wordSize w1, ma_subs w1, ma_subSize w1, ma_asked w1, ma_pile w1, ma_pileSize w1, ma_opened w1, ma_openedAt w1, ma_begun w1, ma_cells w1, ma_keptCells w1, ma_name w1, ma_isLeft w1, ma_isDone w1, ma_keptLeft w1, ma_keptDone w1, ma_state w1, ma_keptState w1, ma_newOf w1, ma_oldOf w1, ma_spare w1, ma_spareDone w1, ma_out w1, ma_metFrom w1, ma_metBy w1, ma_far w1, ma_low w1, ma_lows w1, ma_lowSize w1, ma_triedRow w1, ma_triedColumn w1, ma_triedValue w1, ma_triedRows w1, ma_sheet w1, ml_tape, ml_text, ml_words, ml_wordSize, ml_subs, ml_subSize, ml_asked, ml_pile, ml_pileSize, ml_opened, ml_openedAt, ml_begun, ml_cells, ml_keptCells, ml_name, ml_isLeft, ml_isDone, ml_keptLeft, ml_keptDone, ml_state, ml_keptState, ml_newOf, ml_oldOf, ml_spare, ml_spareDone, ml_out, ml_metFrom, ml_metBy, ml_far, ml_low, ml_lows, ml_lowSize, ml_triedRow, ml_triedColumn, ml_triedValue, ml_triedRows, ml_sheet, mo_O w1, e15, e0, z2, z4]
    refine ⟨fun q => ⟨⟨0, x2, rfl, hCI, by omega, fun z => ⟨fun u hu => ?_, fun x hx => ?_⟩⟩, ?_⟩, fun q => ?_⟩
    · obtain ⟨k, hk, rfl⟩ := wdsM_mem.mp hu
      exact hn z k (by omega)
    · intro hv
      have := hW1.1.2.1 x hv
      omega
    · rw [hmu, muC_54, muC_19]
      simp only [locI, nth]
      omega
    · have hs := hD.2.2.1.2 i (by omega) (by omega)
      have hmem := subK_mem (h := h) (i := i) (by omega)
      have hok := OKw_mem hD.2.2.1 _ hmem
      have hlen : (subK h i).length = (gI h pMo_subSize i).toNat := seg_len
      refine ⟨⟨by omega, by omega⟩, by omega, by omega, w1, Or.inr rfl, subK h i, L, Q, hL, hL2, hW1, hQ, hW1.1.1, by omega, hok.1, by omega, by omega, fun k hk => seg_wf (by rw [hlen] at hk; exact hk), hok.2, fun h1 g1 g2 g3 g4 g5 g6 g7 g8 g9 g10 => ?_⟩
      obtain ⟨d1, d2, d3⟩ := CI_look hL0 hL2.2 hW hCI hW1.1.1 hok.2 (Or.inr ⟨hmem, rfl⟩) g1 g2 g3 g4 g8 g9 g10
      refine ⟨⟨by omega, by omega⟩, ⟨i + 1, x2, by push_cast; rfl, d1, by omega, fun z k hk => ?_⟩, ?_⟩
      · obtain ⟨y1, y2, y3⟩ := d2 z
        rw [y2]
        by_cases e : k = i
        · rw [e]; exact y1
        · exact hn y3 k (by omega)
      · rw [hmu, muC_19, muC_19]
        simp only [locI, nth]
        exact arC2 (by omega) (by omega) d3
  · rintro ls h' ⟨r, x2, rfl, hCI, hr, hn⟩
    obtain ⟨hF, hW1, hc, h34, hbb⟩ := id hCI
    have w1 := FrP_MW hF w
    have eN := CI_next hCI
    simp (decide := true) only [B_Mo_close_0, B_Mo_close_5, B_Mo_close_19, B_Mo_close_52, B_Mo_close_54, B_Mo_close_66, B_Mo_close_102, B_Mo_close_108, B_Mo_close_114, B_Mo_close_117, Ct_Mo_lookAt, tt_ci, tt_cl, tt_nul, tt_il, tt_al, tt_ll, tt_is, tt_as, tt_ls, tt_inc, tt_add, tt_sub, tt_mul, tt_div, tt_rem, tt_ladd, tt_lmul, tt_ldiv, tt_lrem, tt_zeq, tt_zne, tt_zlt, tt_zge, tt_zgt, tt_zle, tt_ceq, tt_cne, tt_clt, tt_cge, tt_cgt, tt_cle, tt_nn, tt_cut, tt_pop, tt_dup, tt_dup2, tt_gI, tt_gR, tt_pI, tt_pZ, tt_pR, tt_ia, tt_ba, tt_za, tt_iS, tt_bS, tt_zS, tt_aa, tt_aS, tt_len, tt_and, tt_xor, tt_shr, tt_ushr, tt_lcmp, tt_i2b, tt_i2l, tt_l2i, tt_sw, swG, tt_ir, tt_zr, tt_br, tt_lr, tt_ar, tt_vr, tt_cV, tt_cS, tt_min, tt_max, tt_acp, pI, pII, pO, pA, pIA, pIIA, pOA, pOIA, pL, pLL, pLIA, pV, pCP, lI, lO, lL, nth, stL, clL, entA, fitL, rcv, List.take_succ_cons, List.take_zero, List.drop_succ_cons, List.drop_zero, List.reverse_cons, List.reverse_nil, List.nil_append, List.cons_append, List.length_cons, List.length_nil, Option.toList_some, Option.toList_none, gI_sI, gI_sA, gR_sI, gR_sA, gI_sR, gR_sR, hN_sI, hN_sA, hN_sR, isO_sI, isO_sA, isO_sR, isAr_sI, isAr_sA, isAr_sR, hC_sI, hC_sA, hC_sR, hZ_sI, hZ_sA, hZ_sR, MW_sI, MW_sA, true_and, and_true, true_or, or_true, and_self, forall_const, imp_self, implies_true, if_true, if_false, false_and, and_false, false_or, or_false, not_false_eq_true, not_true_eq_false, sI_sI, mr_tape w1, mr_text w1, mr_words w1, mr_wordSize w1, mr_subs w1, mr_subSize w1, mr_asked w1, mr_pile w1, mr_pileSize w1, mr_opened w1, mr_openedAt w1, mr_begun w1, mr_cells w1, mr_keptCells w1, mr_name w1, mr_isLeft w1, mr_isDone w1, mr_keptLeft w1, mr_keptDone w1, mr_state w1, mr_keptState w1, mr_newOf w1, mr_oldOf w1, mr_spare w1, mr_spareDone w1, mr_out w1, mr_metFrom w1, mr_metBy w1, mr_far w1, mr_low w1, mr_lows w1, mr_lowSize w1, mr_triedRow w1, mr_triedColumn w1, mr_triedValue w1, mr_triedRows w1, mr_sheet w1, ma_tape w1, ma_text w1, ma_words w1, ma_wordSize w1, ma_subs w1, ma_subSize w1, ma_asked w1, ma_pile w1, ma_pileSize w1, ma_opened w1, ma_openedAt w1, ma_begun w1, ma_cells w1, ma_keptCells w1, ma_name w1, ma_isLeft w1, ma_isDone w1, ma_keptLeft w1, ma_keptDone w1, ma_state w1, ma_keptState w1, ma_newOf w1, ma_oldOf w1, ma_spare w1, ma_spareDone w1, ma_out w1, ma_metFrom w1, ma_metBy w1, ma_far w1, ma_low w1, ma_lows w1, ma_lowSize w1, ma_triedRow w1, ma_triedColumn w1, ma_triedValue w1, ma_triedRows w1, ma_sheet w1, ml_tape, ml_text, ml_words, ml_wordSize, ml_subs, ml_subSize, ml_asked, ml_pile, ml_pileSize, ml_opened, ml_openedAt, ml_begun, ml_cells, ml_keptCells, ml_name, ml_isLeft, ml_isDone, ml_keptLeft, ml_keptDone, ml_state, ml_keptState, ml_newOf, ml_oldOf, ml_spare, ml_spareDone, ml_out, ml_metFrom, ml_metBy, ml_far, ml_low, ml_lows, ml_lowSize, ml_triedRow, ml_triedColumn, ml_triedValue, ml_triedRows, ml_sheet, mo_O w1, eN]
    refine ⟨fun q => ⟨⟨_, _, rfl, hCI, fun z => ⟨fun u hu x hx => (hn z).2 x ?_ hx u hu, (hn z).1⟩⟩, ?_⟩, fun q => ⟨⟨r, 0, rfl, hCI, by omega, hD.1.1, fun z => ⟨(hn z).1, (hn z).2, fun _ k hk => by omega⟩⟩, ?_⟩⟩
    · have := VV_atM.mp hx
      omega
    · rw [hmu, muC_5, muC_54]
      simp only [locI, nth]
      have := hW.2.2.2.2.1
      rw [aS_atM (by omega) (by omega), aS_atM (by omega) (by omega)] at this
      omega
    · rw [hmu, muC_66, muC_54]
      simp only [locI, nth]
      have := hW.2.2.2.2.1
      rw [aS_atM (by omega) (by omega), aS_atM (by omega) (by omega)] at this
      omega
  · rintro ls h' ⟨r, i, rfl, hCI, hr, hi, hn⟩
    obtain ⟨hF, hW1, hc, h34, hbb⟩ := id hCI
    have w1 := FrP_MW hF w
    have eN := CI_next hCI
    have e14 := Fr_fld hF (j := 14) (by omega)
    have e0 := Fr_fld hF (j := 0) (by omega)
    obtain ⟨z1, z2, z3, z4⟩ := Fr_size hF
    have hN := hW.2.2.2.2.1
    rw [aS_atM (by omega) (by omega), aS_atM (by omega) (by omega)] at hN
    have h14 := hD.2.1
    simp (decide := true) only [B_Mo_close_0, B_Mo_close_5, B_Mo_close_19, B_Mo_close_52, B_Mo_close_54, B_Mo_close_66, B_Mo_close_102, B_Mo_close_108, B_Mo_close_114, B_Mo_close_117, Ct_Mo_lookAt, tt_ci, tt_cl, tt_nul, tt_il, tt_al, tt_ll, tt_is, tt_as, tt_ls, tt_inc, tt_add, tt_sub, tt_mul, tt_div, tt_rem, tt_ladd, tt_lmul, tt_ldiv, tt_lrem, tt_zeq, tt_zne, tt_zlt, tt_zge, tt_zgt, tt_zle, tt_ceq, tt_cne, tt_clt, tt_cge, tt_cgt, tt_cle, tt_nn, tt_cut, tt_pop, tt_dup, tt_dup2, tt_gI, tt_gR, tt_pI, tt_pZ, tt_pR, tt_ia, tt_ba, tt_za, tt_iS, tt_bS, tt_zS, tt_aa, tt_aS, tt_len, tt_and, tt_xor, tt_shr, tt_ushr, tt_lcmp, tt_i2b, tt_i2l, tt_l2i, tt_sw, swG, tt_ir, tt_zr, tt_br, tt_lr, tt_ar, tt_vr, tt_cV, tt_cS, tt_min, tt_max, tt_acp, pI, pII, pO, pA, pIA, pIIA, pOA, pOIA, pL, pLL, pLIA, pV, pCP, lI, lO, lL, nth, stL, clL, entA, fitL, rcv, List.take_succ_cons, List.take_zero, List.drop_succ_cons, List.drop_zero, List.reverse_cons, List.reverse_nil, List.nil_append, List.cons_append, List.length_cons, List.length_nil, Option.toList_some, Option.toList_none, gI_sI, gI_sA, gR_sI, gR_sA, gI_sR, gR_sR, hN_sI, hN_sA, hN_sR, isO_sI, isO_sA, isO_sR, isAr_sI, isAr_sA, isAr_sR, hC_sI, hC_sA, hC_sR, hZ_sI, hZ_sA, hZ_sR, MW_sI, MW_sA, true_and, and_true, true_or, or_true, and_self, forall_const, imp_self, implies_true, if_true, if_false, false_and, and_false, false_or, or_false, not_false_eq_true, not_true_eq_false, sI_sI, mr_tape w1, mr_text w1, mr_words w1, mr_wordSize w1, mr_subs w1, mr_subSize w1, mr_asked w1, mr_pile w1, mr_pileSize w1, mr_opened w1, mr_openedAt w1, mr_begun w1, mr_cells w1, mr_keptCells w1, mr_name w1, mr_isLeft w1, mr_isDone w1, mr_keptLeft w1, mr_keptDone w1, mr_state w1, mr_keptState w1, mr_newOf w1, mr_oldOf w1, mr_spare w1, mr_spareDone w1, mr_out w1, mr_metFrom w1, mr_metBy w1, mr_far w1, mr_low w1, mr_lows w1, mr_lowSize w1, mr_triedRow w1, mr_triedColumn w1, mr_triedValue w1, mr_triedRows w1, mr_sheet w1, ma_tape w1, ma_text w1, ma_words w1, ma_wordSize w1, ma_subs w1, ma_subSize w1, ma_asked w1, ma_pile w1, ma_pileSize w1, ma_opened w1, ma_openedAt w1, ma_begun w1, ma_cells w1, ma_keptCells w1, ma_name w1, ma_isLeft w1, ma_isDone w1, ma_keptLeft w1, ma_keptDone w1, ma_state w1, ma_keptState w1, ma_newOf w1, ma_oldOf w1, ma_spare w1, ma_spareDone w1, ma_out w1, ma_metFrom w1, ma_metBy w1, ma_far w1, ma_low w1, ma_lows w1, ma_lowSize w1, ma_triedRow w1, ma_triedColumn w1, ma_triedValue w1, ma_triedRows w1, ma_sheet w1, ml_tape, ml_text, ml_words, ml_wordSize, ml_subs, ml_subSize, ml_asked, ml_pile, ml_pileSize, ml_opened, ml_openedAt, ml_begun, ml_cells, ml_keptCells, ml_name, ml_isLeft, ml_isDone, ml_keptLeft, ml_keptDone, ml_state, ml_keptState, ml_newOf, ml_oldOf, ml_spare, ml_spareDone, ml_out, ml_metFrom, ml_metBy, ml_far, ml_low, ml_lows, ml_lowSize, ml_triedRow, ml_triedColumn, ml_triedValue, ml_triedRows, ml_sheet, mo_O w1, e14, e0, z1, z3]
    refine ⟨fun q => ⟨⟨by omega, by omega⟩, ⟨r + 1, _, by push_cast; rfl, hCI, by omega, fun z => ⟨(hn z).1, fun x hx hv u hu => ?_⟩⟩, ?_⟩, fun q => ⟨by omega, by omega, fun q2 => ⟨⟨by omega, by omega⟩, ⟨r, i + 1, by push_cast; rfl, hCI, hr, by omega, fun z => ⟨(hn z).1, (hn z).2.1, fun hv => absurd q2 (VV_atM.mp hv).2.2⟩⟩, ?_⟩, fun q2 => ?_⟩⟩
    · by_cases e : x = r
      · obtain ⟨k, hk, rfl⟩ := wdsM_mem.mp hu
        rw [e] at hv ⊢
        exact (hn z).2.2 hv k (by omega)
      · exact (hn z).2.1 x (by omega) hv u hu
    · rw [hmu, muC_54, muC_66]
      simp only [locI, nth]
      apply Nat.add_lt_add_left
      exact arC1 (by omega) (by omega) (by omega) (by omega)
    · rw [hmu, muC_66, muC_66]
      simp only [locI, nth]
      omega
    · have hs := hD.1.2 i (by omega) (by omega)
      have hmem := wrdK_mem (h := h) (i := i) (by omega)
      have hok := OKw_mem hD.1 _ hmem
      have hlen : (wrdK h i).length = (gI h pMo_wordSize i).toNat := seg_len
      have hv : VV (atM h') r := VV_atM.mpr ⟨by omega, by rw [eN]; exact hr, q2⟩
      refine ⟨⟨by omega, by omega⟩, by omega, by omega, w1, Or.inl rfl, wrdK h i, L, Q, hL, hL2, hW1, hQ, hv, by omega, hok.1, by omega, by omega, fun k hk => seg_wf (by rw [hlen] at hk; exact hk), hok.2, fun h1 g1 g2 g3 g4 g5 g6 g7 g8 g9 g10 => ?_⟩
      obtain ⟨d1, d2, d3⟩ := CI_look hL0 hL2.2 hW hCI hv hok.2 (Or.inl hmem) g1 g2 g3 g4 g8 g9 g10
      refine ⟨⟨by omega, by omega⟩, ⟨r, i + 1, by push_cast; rfl, d1, hr, by omega, fun z => ?_⟩, ?_⟩
      · obtain ⟨y1, y2, y3⟩ := d2 z
        rw [y2]
        obtain ⟨n1, n2, n3⟩ := hn y3
        refine ⟨n1, n2, fun hv k hk => ?_⟩
        by_cases e : k = i
        · rw [e]; exact y1
        · exact n3 hv k (by omega)
      · rw [hmu, muC_66, muC_66]
        simp only [locI, nth]
        omega
  · simp (decide := true) only [B_Mo_close_0, B_Mo_close_5, B_Mo_close_19, B_Mo_close_52, B_Mo_close_54, B_Mo_close_66, B_Mo_close_102, B_Mo_close_108, B_Mo_close_114, B_Mo_close_117, Ct_Mo_lookAt, tt_ci, tt_cl, tt_nul, tt_il, tt_al, tt_ll, tt_is, tt_as, tt_ls, tt_inc, tt_add, tt_sub, tt_mul, tt_div, tt_rem, tt_ladd, tt_lmul, tt_ldiv, tt_lrem, tt_zeq, tt_zne, tt_zlt, tt_zge, tt_zgt, tt_zle, tt_ceq, tt_cne, tt_clt, tt_cge, tt_cgt, tt_cle, tt_nn, tt_cut, tt_pop, tt_dup, tt_dup2, tt_gI, tt_gR, tt_pI, tt_pZ, tt_pR, tt_ia, tt_ba, tt_za, tt_iS, tt_bS, tt_zS, tt_aa, tt_aS, tt_len, tt_and, tt_xor, tt_shr, tt_ushr, tt_lcmp, tt_i2b, tt_i2l, tt_l2i, tt_sw, swG, tt_ir, tt_zr, tt_br, tt_lr, tt_ar, tt_vr, tt_cV, tt_cS, tt_min, tt_max, tt_acp, pI, pII, pO, pA, pIA, pIIA, pOA, pOIA, pL, pLL, pLIA, pV, pCP, lI, lO, lL, nth, stL, clL, entA, fitL, rcv, List.take_succ_cons, List.take_zero, List.drop_succ_cons, List.drop_zero, List.reverse_cons, List.reverse_nil, List.nil_append, List.cons_append, List.length_cons, List.length_nil, Option.toList_some, Option.toList_none, gI_sI, gI_sA, gR_sI, gR_sA, gI_sR, gR_sR, hN_sI, hN_sA, hN_sR, isO_sI, isO_sA, isO_sR, isAr_sI, isAr_sA, isAr_sR, hC_sI, hC_sA, hC_sR, hZ_sI, hZ_sA, hZ_sR, MW_sI, MW_sA, true_and, and_true, true_or, or_true, and_self, forall_const, imp_self, implies_true, if_true, if_false, false_and, and_false, false_or, or_false, not_false_eq_true, not_true_eq_false, sI_sI, mr_tape w, mr_text w, mr_words w, mr_wordSize w, mr_subs w, mr_subSize w, mr_asked w, mr_pile w, mr_pileSize w, mr_opened w, mr_openedAt w, mr_begun w, mr_cells w, mr_keptCells w, mr_name w, mr_isLeft w, mr_isDone w, mr_keptLeft w, mr_keptDone w, mr_state w, mr_keptState w, mr_newOf w, mr_oldOf w, mr_spare w, mr_spareDone w, mr_out w, mr_metFrom w, mr_metBy w, mr_far w, mr_low w, mr_lows w, mr_lowSize w, mr_triedRow w, mr_triedColumn w, mr_triedValue w, mr_triedRows w, mr_sheet w, ma_tape w, ma_text w, ma_words w, ma_wordSize w, ma_subs w, ma_subSize w, ma_asked w, ma_pile w, ma_pileSize w, ma_opened w, ma_openedAt w, ma_begun w, ma_cells w, ma_keptCells w, ma_name w, ma_isLeft w, ma_isDone w, ma_keptLeft w, ma_keptDone w, ma_state w, ma_keptState w, ma_newOf w, ma_oldOf w, ma_spare w, ma_spareDone w, ma_out w, ma_metFrom w, ma_metBy w, ma_far w, ma_low w, ma_lows w, ma_lowSize w, ma_triedRow w, ma_triedColumn w, ma_triedValue w, ma_triedRows w, ma_sheet w, ml_tape, ml_text, ml_words, ml_wordSize, ml_subs, ml_subSize, ml_asked, ml_pile, ml_pileSize, ml_opened, ml_openedAt, ml_begun, ml_cells, ml_keptCells, ml_name, ml_isLeft, ml_isDone, ml_keptLeft, ml_keptDone, ml_state, ml_keptState, ml_newOf, ml_oldOf, ml_spare, ml_spareDone, ml_out, ml_metFrom, ml_metBy, ml_far, ml_low, ml_lows, ml_lowSize, ml_triedRow, ml_triedColumn, ml_triedValue, ml_triedRows, ml_sheet, mo_O w]
    refine ⟨_, _, rfl, ⟨FrP_sI (Or.inr (Or.inr (Or.inr (Or.inr (Or.inr ⟨rfl, by omega, by omega⟩))))) (FrP_refl _ h), ?_, ?_, Or.inr (by simp (decide := true) only [gI_sI, if_true]), fun b => BB_sI (by decide) (by decide) b⟩, ?_⟩
    · rw [atM_sI (by decide)]; exact hW
    · rw [atM_sI (by decide)]; exact CPx_refl hW
    · exact fun z => z.elim
