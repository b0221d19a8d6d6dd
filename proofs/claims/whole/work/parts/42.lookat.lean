/-! THE MODEL'S LOOK -/
def Pk (b : Nat) (j : Int) : Prop := b = pMo ∧ 35 ≤ j ∧ j ≤ 38
def wAr (b : Nat) : Prop := b = pMo_words ∨ b = pMo_subs
theorem wAr_isAr {h : PH} {b : Nat} (w : MW h) (hb : wAr b) : isAr h b 0 := by
  rcases hb with rfl | rfl
  · exact ma_words w
  · exact ma_subs w
theorem wAr_ln {b : Nat} (hb : wAr b) : 240 ≤ lnA b ∧ lnA b ≤ 480 := by
  rcases hb with rfl | rfl
  · rw [ml_words]; omega
  · rw [ml_subs]; omega
theorem wAr_Pk {b : Nat} (hb : wAr b) : ∀ j, ¬ Pk b j := by
  intro j z
  rcases hb with rfl | rfl
  · exact absurd z.1 (by decide)
  · exact absurd z.1 (by decide)
theorem wAr_Tb {b : Nat} (hb : wAr b) : ∀ j, ¬ Tb b j := by
  intro j z
  unfold Tb at z
  rcases hb with rfl | rfl
  · simp (decide := true) only [false_and, or_self] at z
  · simp (decide := true) only [false_and, or_self] at z
theorem Pk_Tb {b : Nat} {j : Int} (h : Pk b j) : Tb b j := by
  obtain ⟨h1, h2, h3⟩ := h
  unfold Tb
  simp only [h1, true_and]
  omega
theorem atM_Pk {h h' : PH} (f : FrP Pk h h') : atM h' = atM h := by
  unfold atM
  rw [f.1 pMo_state 0 (fun z => absurd z.1 (by decide)), f.1 pMo 39 (fun z => by have := z.2; omega), FrP_arr f (b := pMo_isLeft) (fun j z => absurd z.1 (by decide)), FrP_arr f (b := pMo_cells) (fun j z => absurd z.1 (by decide)), FrP_arr f (b := pMo_isDone) (fun j z => absurd z.1 (by decide)), FrP_arr f (b := pMo_state) (fun j z => absurd z.1 (by decide))]
theorem drop_wf {u : List Int} {k : Nat} (h : k < u.length) : u.drop k = wf u k :: u.drop (k + 1) := by
  rw [List.drop_eq_getElem_cons h]
  congr 1
  unfold wf
  rw [show ((k : Int)).toNat = k by omega, List.getD_eq_getElem?_getD, List.getElem?_eq_getElem h]
  rfl
/-- the model's table behind a quarrel -/
theorem atM_HF {h : PH} {L Q : Int} {a b : Int} {nm cl lf S : Int → Int} (hL : L ≤ 10) (hW : WT L Q (atM h)) (q2 : ∀ x, lfV (gI h pMo_state 0).toNat lf x → lfV (gI h pMo_state 0).toNat (gI h pMo_isLeft) x)
    (h1 : ∀ r c, 0 ≤ c → c < 10 → L ≤ c → cl (10 * r + c) = gI h pMo_cells (10 * r + c)) (h2 : ∃ k : Int, k = cnN (gI h pMo_isLeft) (gI h pMo_state 0).toNat - cnN lf (gI h pMo_state 0).toNat ∧ ∀ j, S j = if j = 1 then gI h pMo_state 1 - k else if j = 3 then gI h pMo_state 3 + k else if j = 10 then gI h pMo_state 10 + k else gI h pMo_state j) :
    atM (HF h nm cl lf S) = mel L (atM h) (cV (gI h pMo_state 0) lf) (c2 cl) := by
  obtain ⟨k, hk, hS⟩ := h2
  have hS0 : S 0 = gI h pMo_state 0 := by rw [hS]; simp (decide := true) only [if_false]
  have e0 : gI (HF h nm cl lf S) pMo_state = S := by funext j; simp (decide := true) only [HF_I, if_true]
  have e1 : gI (HF h nm cl lf S) pMo_isLeft = lf := by funext j; simp (decide := true) only [HF_I, if_true, if_false]
  have e2 : gI (HF h nm cl lf S) pMo_cells = cl := by funext j; simp (decide := true) only [HF_I, if_true, if_false]
  have e3 : gI (HF h nm cl lf S) pMo_isDone = gI h pMo_isDone := by funext j; simp (decide := true) only [HF_I, if_false, false_and]
  have e4 : gI (HF h nm cl lf S) pMo 39 = gI h pMo 39 := by simp (decide := true) only [HF_I, if_false]
  have hN : 0 ≤ gI h pMo_state 0 := by
    have := hW.2.2.2.2.1.1
    rw [aS_atM (by omega) (by omega)] at this
    omega
  have v1 : ∀ x, cV (gI h pMo_state 0) lf x ≠ 0 ↔ (0 ≤ x ∧ x < gI h pMo_state 0 ∧ lf x ≠ 0) := by
    intro x
    unfold cV
    split
    · rename_i q; exact ⟨fun _ => q, fun _ => by decide⟩
    · rename_i q; exact ⟨fun z => absurd rfl z, fun z => absurd z q⟩
  have v2 : ∀ x, cV (gI h pMo_state 0) lf x ≠ 0 → VV (atM h) x := by
    intro x hx
    have hx' := (v1 x).mp hx
    have := q2 x ⟨hx'.1, by omega, hx'.2.2⟩
    exact VV_atM.mpr ⟨this.1, by have := this.2.1; omega, this.2.2⟩
  unfold atM
  rw [e0, e1, e2, e3, e4, hS0]
  show (cV (gI h pMo_state 0) lf, kE 10 (cV (gI h pMo_state 0) lf) (c2 cl), cD (cV (gI h pMo_state 0) lf) (gI h pMo_isDone), cS S, gI h pMo 39) = _
  have p1 : b1 (cV (gI h pMo_state 0) lf) = cV (gI h pMo_state 0) lf := by
    funext x
    unfold b1
    split
    · rename_i q; exact (if_pos ((v1 x).mp q)).symm
    · rename_i q; exact (Classical.byContradiction (fun z => q z) : cV (gI h pMo_state 0) lf x = 0).symm
  have p2 : kE 10 (cV (gI h pMo_state 0) lf) (c2 cl) = kE L (cV (gI h pMo_state 0) lf) (c2 cl) := by
    funext x c
    unfold kE
    by_cases q : cV (gI h pMo_state 0) lf x ≠ 0 ∧ 0 ≤ c ∧ c < 10
    · rw [if_pos q]
      by_cases z : c < L
      · rw [if_pos ⟨q.1, q.2.1, z⟩]
      · rw [if_neg (fun y => z y.2.2)]
        have hx := v2 x q.1
        have g := hW.2.2.1 x c (fun y => z y.2.2)
        rw [aE_atM hx q.2.1 q.2.2] at g
        rw [← g]
        exact h1 x c q.2.1 q.2.2 (by omega)
    · rw [if_neg q, if_neg (fun y => q ⟨y.1, y.2.1, by omega⟩)]
  have p3 : cD (cV (gI h pMo_state 0) lf) (gI h pMo_isDone) = cD (cV (gI h pMo_state 0) lf) (aD (atM h)) := cD_cong (fun _ => Iff.rfl) (fun x hx => (aD_atM (v2 x hx)).symm)
  have p4 : cS S = melS (aS (atM h)) (cnN (aV (atM h)) (aN (atM h)) - cnN (cV (gI h pMo_state 0) lf) (aN (atM h))) := by
    have n1 : aN (atM h) = (gI h pMo_state 0).toNat := by unfold aN; rw [aS_atM (by omega) (by omega)]
    have n2 : cnN (aV (atM h)) (gI h pMo_state 0).toNat = cnN (gI h pMo_isLeft) (gI h pMo_state 0).toNat := cnN_same (fun j j0 j1 => VV_atM.trans ⟨fun z => z.2.2, fun z => ⟨j0, by omega, z⟩⟩)
    have n3 : cnN (cV (gI h pMo_state 0) lf) (gI h pMo_state 0).toNat = cnN lf (gI h pMo_state 0).toNat := cnN_same (fun j j0 j1 => (v1 j).trans ⟨fun z => z.2.2, fun z => ⟨j0, by omega, z⟩⟩)
    rw [n1, n2, n3, ← hk]
    funext j
    unfold cS melS
    by_cases q : 0 ≤ j ∧ j < 11
    · rw [if_pos q, hS j, aS_atM q.1 q.2, aS_atM (by omega) (by omega), aS_atM (by omega) (by omega), aS_atM (by omega) (by omega)]
    · rw [if_neg q, if_neg (by omega), if_neg (by omega), if_neg (by omega)]
      exact (if_neg q).symm
  rw [p2, p3, p4]
  unfold mel
  rw [p1]
  rfl
theorem atM_sI {h : PH} {j v : Int} (hj : j ≠ 39) : atM (sI h pMo j v) = atM h := by
  unfold atM
  have e : ∀ b, b ≠ pMo → gI (sI h pMo j v) b = gI h b := by
    intro b hb
    funext k
    rw [gI_sI, if_neg (fun z => hb z.1)]
  rw [e _ (by decide), e _ (by decide), e _ (by decide), e _ (by decide), gI_sI, if_neg (fun z => hj z.2.symm)]
theorem atM_put {h : PH} {f c s : Int} (hf : VV (atM h) f) (hs : VV (atM h) s) (h0 : 0 ≤ c) (h1 : c < 10) : atM (sI (sI h pMo_cells (10 * f + c) s) pMo_cells (10 * s + oc c) f) = putA (atM h) f c s := by
  have o := oc_in (c := c) (L := 10) (by decide) h0 h1
  have e : ∀ b, b ≠ pMo_cells → gI (sI (sI h pMo_cells (10 * f + c) s) pMo_cells (10 * s + oc c) f) b = gI h b := by
    intro b hb
    funext k
    rw [gI_sI, if_neg (fun z => hb z.1), gI_sI, if_neg (fun z => hb z.1)]
  have ec : kE 10 (cV (gI h pMo_state 0) (gI h pMo_isLeft)) (c2 (gI (sI (sI h pMo_cells (10 * f + c) s) pMo_cells (10 * s + oc c) f) pMo_cells)) = putE (aE (atM h)) f c s := by
    funext x d
    unfold kE
    by_cases q : cV (gI h pMo_state 0) (gI h pMo_isLeft) x ≠ 0 ∧ 0 ≤ d ∧ d < 10
    · rw [if_pos q]
      show gI _ pMo_cells (10 * x + d) = _
      rw [gI_sI, gI_sI]
      simp only [true_and]
      by_cases z1 : 10 * x + d = 10 * s + oc c
      · have e1 : x = s := by omega
        have e2 : d = oc c := by omega
        rw [if_pos z1, e1, e2, putE_1]
      · rw [if_neg z1]
        by_cases z2 : 10 * x + d = 10 * f + c
        · have e1 : x = f := by omega
          have e2 : d = c := by omega
          rw [if_pos z2, e1, e2, putE_2]
        · rw [if_neg z2, putE_3 (fun y => z1 (by rw [y.1, y.2])) (fun y => z2 (by rw [y.1, y.2])), aE_atM q.1 q.2.1 q.2.2]
    · rw [if_neg q, putE_3]
      · exact (if_neg q : kE 10 _ _ x d = -2).symm
      · rintro ⟨rfl, rfl⟩; exact q ⟨hs, o.1, o.2⟩
      · rintro ⟨rfl, rfl⟩; exact q ⟨hf, h0, h1⟩
  unfold atM
  rw [e pMo_state (by decide), e pMo_isLeft (by decide), e pMo_isDone (by decide), e pMo (by decide)]
  unfold mkA
  rw [ec]
  rfl
def Ct_Mo_lookAt : CtT := fun av h post => match av with
  | [.inr (.inl (some t)), .inr (.inl (some b)), .inl f, .inl n, .inl r] => t = pMo ∧ MW h ∧ wAr b ∧ ∃ (u : List Int) (L Q : Int), L = 2 * gI h pMo 0 ∧ (2 ≤ L ∧ L ≤ 10) ∧ WT L Q (atM h) ∧ Q ≤ 100000 ∧ VV (atM h) r ∧ n = u.length ∧ u.length ≤ 40 ∧ 0 ≤ f ∧ f + 40 ≤ lnA b ∧ (∀ k : Nat, k < u.length → gI h b (f + k) = wf u k) ∧ (∀ c, c ∈ u → 0 ≤ c ∧ c < L) ∧
      ∀ h', Fr h h' → atM h' = lookA L (atM h) u r → WT L Q (atM h') → (gap (aE (atM h)) u r = 0 → (lkp (aE (atM h)) u r).1 ≠ (lkq (aE (atM h)) u r).1 → hasQ L (atM h) (lkp (aE (atM h)) u r).1 (lkq (aE (atM h)) u r).1) →
        gI h' pMo 35 = (lkp (aE (atM h)) u r).1 → gI h' pMo 36 = (lkp (aE (atM h)) u r).2 → gI h' pMo 38 = u.length - (lkq (aE (atM h)) u r).2 → (chg (atM h) u r → gI h' pMo 34 = 1) → (¬ chg (atM h) u r → gI h' pMo 34 = gI h pMo 34) → (BB h → BB h') → post none h'
  | _ => False
def B_Mo_lookAt_256 : TT := tt_vr
theorem S_Mo_lookAt_256 (lc lz : Nat) : Snd md_Mo_lookAt lc lz 256 (B_Mo_lookAt_256) := (snd_vr (dget dd_Mo_lookAt 146 rfl) rfl)
def B_Mo_lookAt_218 : TT := (tt_al 0 (tt_gI 9 38 (tt_al 0 (tt_gI 9 36 (tt_sub (tt_ci 1 (tt_cne (B_Mo_lookAt_256) (tt_al 0 (tt_al 0 (tt_gI 9 35 (tt_al 1 (tt_il 2 (tt_al 0 (tt_gI 9 36 (tt_add (tt_ia (tt_al 0 (tt_gI 9 37 (tt_cV 9 4 Ct_Mo_set (tt_al 0 (tt_ci 1 (tt_pZ 9 34 (B_Mo_lookAt_256)))))))))))))))))))))))
theorem S_Mo_lookAt_218 (lc lz : Nat) : Snd md_Mo_lookAt lc lz 218 (B_Mo_lookAt_218) := (snd_al_n (n := 0) (dget dd_Mo_lookAt 124 rfl) rfl (snd_gI (kn := 38) fd_Mo_252 rfl (dget dd_Mo_lookAt 125 rfl) (snd_al_n (n := 0) (dget dd_Mo_lookAt 126 rfl) rfl (snd_gI (kn := 36) fd_Mo_246 rfl (dget dd_Mo_lookAt 127 rfl) (snd_sub (dget dd_Mo_lookAt 128 rfl) (snd_iconst (n := 1) (dget dd_Mo_lookAt 129 rfl) (inR_d rfl) rfl (snd_cne (tg := 256) (dget dd_Mo_lookAt 130 rfl) rfl (S_Mo_lookAt_256 lc lz) (snd_al_n (n := 0) (dget dd_Mo_lookAt 131 rfl) rfl (snd_al_n (n := 0) (dget dd_Mo_lookAt 132 rfl) rfl (snd_gI (kn := 35) fd_Mo_243 rfl (dget dd_Mo_lookAt 133 rfl) (snd_al_n (n := 1) (dget dd_Mo_lookAt 134 rfl) rfl (snd_il_n (n := 2) (dget dd_Mo_lookAt 135 rfl) rfl (snd_al_n (n := 0) (dget dd_Mo_lookAt 136 rfl) rfl (snd_gI (kn := 36) fd_Mo_246 rfl (dget dd_Mo_lookAt 137 rfl) (snd_add (dget dd_Mo_lookAt 138 rfl) (snd_ia (dget dd_Mo_lookAt 139 rfl) (snd_al_n (n := 0) (dget dd_Mo_lookAt 140 rfl) rfl (snd_gI (kn := 37) fd_Mo_249 rfl (dget dd_Mo_lookAt 141 rfl) (snd_cV (n := 3) met_Mo_set mi_Mo_set ki_Mo_set kv_Mo_set ml_Mo_258 rfl (by decide) (dget dd_Mo_lookAt 142 rfl) (snd_al_n (n := 0) (dget dd_Mo_lookAt 143 rfl) rfl (snd_iconst (n := 1) (dget dd_Mo_lookAt 144 rfl) (inR_d rfl) rfl (snd_pZ (kn := 34) fd_Mo_234 rfl (dget dd_Mo_lookAt 145 rfl) (S_Mo_lookAt_256 lc lz)))))))))))))))))))))))
def B_Mo_lookAt_181 : TT := (tt_al 0 (tt_gI 9 38 (tt_al 0 (tt_gI 9 36 (tt_cne (B_Mo_lookAt_218) (tt_al 0 (tt_gI 9 35 (tt_al 0 (tt_gI 9 37 (tt_ceq (B_Mo_lookAt_256) (tt_al 0 (tt_al 0 (tt_gI 9 35 (tt_al 0 (tt_gI 9 37 (tt_cV 9 3 Ct_Mo_quarrel (B_Mo_lookAt_256)))))))))))))))))
theorem S_Mo_lookAt_181 (lc lz : Nat) : Snd md_Mo_lookAt lc lz 181 (B_Mo_lookAt_181) := (snd_al_n (n := 0) (dget dd_Mo_lookAt 107 rfl) rfl (snd_gI (kn := 38) fd_Mo_252 rfl (dget dd_Mo_lookAt 108 rfl) (snd_al_n (n := 0) (dget dd_Mo_lookAt 109 rfl) rfl (snd_gI (kn := 36) fd_Mo_246 rfl (dget dd_Mo_lookAt 110 rfl) (snd_cne (tg := 218) (dget dd_Mo_lookAt 111 rfl) rfl (S_Mo_lookAt_218 lc lz) (snd_al_n (n := 0) (dget dd_Mo_lookAt 112 rfl) rfl (snd_gI (kn := 35) fd_Mo_243 rfl (dget dd_Mo_lookAt 113 rfl) (snd_al_n (n := 0) (dget dd_Mo_lookAt 114 rfl) rfl (snd_gI (kn := 37) fd_Mo_249 rfl (dget dd_Mo_lookAt 115 rfl) (snd_ceq (tg := 256) (dget dd_Mo_lookAt 116 rfl) rfl (S_Mo_lookAt_256 lc lz) (snd_al_n (n := 0) (dget dd_Mo_lookAt 117 rfl) rfl (snd_al_n (n := 0) (dget dd_Mo_lookAt 118 rfl) rfl (snd_gI (kn := 35) fd_Mo_243 rfl (dget dd_Mo_lookAt 119 rfl) (snd_al_n (n := 0) (dget dd_Mo_lookAt 120 rfl) rfl (snd_gI (kn := 37) fd_Mo_249 rfl (dget dd_Mo_lookAt 121 rfl) (snd_cV (n := 2) met_Mo_quarrel mi_Mo_quarrel ki_Mo_quarrel kv_Mo_quarrel ml_Mo_255 rfl (by decide) (dget dd_Mo_lookAt 122 rfl) (snd_goto (tg := 256) (dget dd_Mo_lookAt 123 rfl) rfl (S_Mo_lookAt_256 lc lz))))))))))))))))))
def B_Mo_lookAt_94 : TT := (tt_al 0 (tt_gI 9 38 (tt_al 0 (tt_gI 9 36 (tt_cle (B_Mo_lookAt_181) (tt_al 0 (tt_gR 9 23 (tt_ci 10 (tt_al 0 (tt_gI 9 37 (tt_mul (tt_al 0 (tt_al 1 (tt_il 2 (tt_al 0 (tt_gI 9 38 (tt_add (tt_ci 1 (tt_sub (tt_ia (tt_cV 9 2 Ct_Mo_other (tt_add (tt_ia (tt_ci (-2) (tt_ceq (B_Mo_lookAt_181) (tt_al 0 (tt_al 0 (tt_gR 9 23 (tt_ci 10 (tt_al 0 (tt_gI 9 37 (tt_mul (tt_al 0 (tt_al 1 (tt_il 2 (tt_al 0 (tt_gI 9 38 (tt_add (tt_ci 1 (tt_sub (tt_ia (tt_cV 9 2 Ct_Mo_other (tt_add (tt_ia (tt_pI 9 37 (tt_al 0 (tt_dup (tt_gI 9 38 (tt_ci 1 (tt_sub (tt_pI 9 38 (tt_cut 94))))))))))))))))))))))))))))))))))))))))))))))))))))
theorem S_Mo_lookAt_94 (lc lz : Nat) : Snd md_Mo_lookAt lc lz 94 (B_Mo_lookAt_94) := (snd_al_n (n := 0) (dget dd_Mo_lookAt 55 rfl) rfl (snd_gI (kn := 38) fd_Mo_252 rfl (dget dd_Mo_lookAt 56 rfl) (snd_al_n (n := 0) (dget dd_Mo_lookAt 57 rfl) rfl (snd_gI (kn := 36) fd_Mo_246 rfl (dget dd_Mo_lookAt 58 rfl) (snd_cle (tg := 181) (dget dd_Mo_lookAt 59 rfl) rfl (S_Mo_lookAt_181 lc lz) (snd_al_n (n := 0) (dget dd_Mo_lookAt 60 rfl) rfl (snd_gR (kn := 23) fd_Mo_54 rfl (dget dd_Mo_lookAt 61 rfl) (snd_bipush (n := 10) (dget dd_Mo_lookAt 62 rfl) (inR_d rfl) (by decide) (snd_al_n (n := 0) (dget dd_Mo_lookAt 63 rfl) rfl (snd_gI (kn := 37) fd_Mo_249 rfl (dget dd_Mo_lookAt 64 rfl) (snd_mul (dget dd_Mo_lookAt 65 rfl) (snd_al_n (n := 0) (dget dd_Mo_lookAt 66 rfl) rfl (snd_al_n (n := 1) (dget dd_Mo_lookAt 67 rfl) rfl (snd_il_n (n := 2) (dget dd_Mo_lookAt 68 rfl) rfl (snd_al_n (n := 0) (dget dd_Mo_lookAt 69 rfl) rfl (snd_gI (kn := 38) fd_Mo_252 rfl (dget dd_Mo_lookAt 70 rfl) (snd_add (dget dd_Mo_lookAt 71 rfl) (snd_iconst (n := 1) (dget dd_Mo_lookAt 72 rfl) (inR_d rfl) rfl (snd_sub (dget dd_Mo_lookAt 73 rfl) (snd_ia (dget dd_Mo_lookAt 74 rfl) (snd_cV (n := 1) met_Mo_other mi_Mo_other ki_Mo_other kv_Mo_other ml_Mo_175 rfl (by decide) (dget dd_Mo_lookAt 75 rfl) (snd_add (dget dd_Mo_lookAt 76 rfl) (snd_ia (dget dd_Mo_lookAt 77 rfl) (snd_bipush (n := -2) (dget dd_Mo_lookAt 78 rfl) (inR_d rfl) (by decide) (snd_ceq (tg := 181) (dget dd_Mo_lookAt 79 rfl) rfl (S_Mo_lookAt_181 lc lz) (snd_al_n (n := 0) (dget dd_Mo_lookAt 80 rfl) rfl (snd_al_n (n := 0) (dget dd_Mo_lookAt 81 rfl) rfl (snd_gR (kn := 23) fd_Mo_54 rfl (dget dd_Mo_lookAt 82 rfl) (snd_bipush (n := 10) (dget dd_Mo_lookAt 83 rfl) (inR_d rfl) (by decide) (snd_al_n (n := 0) (dget dd_Mo_lookAt 84 rfl) rfl (snd_gI (kn := 37) fd_Mo_249 rfl (dget dd_Mo_lookAt 85 rfl) (snd_mul (dget dd_Mo_lookAt 86 rfl) (snd_al_n (n := 0) (dget dd_Mo_lookAt 87 rfl) rfl (snd_al_n (n := 1) (dget dd_Mo_lookAt 88 rfl) rfl (snd_il_n (n := 2) (dget dd_Mo_lookAt 89 rfl) rfl (snd_al_n (n := 0) (dget dd_Mo_lookAt 90 rfl) rfl (snd_gI (kn := 38) fd_Mo_252 rfl (dget dd_Mo_lookAt 91 rfl) (snd_add (dget dd_Mo_lookAt 92 rfl) (snd_iconst (n := 1) (dget dd_Mo_lookAt 93 rfl) (inR_d rfl) rfl (snd_sub (dget dd_Mo_lookAt 94 rfl) (snd_ia (dget dd_Mo_lookAt 95 rfl) (snd_cV (n := 1) met_Mo_other mi_Mo_other ki_Mo_other kv_Mo_other ml_Mo_175 rfl (by decide) (dget dd_Mo_lookAt 96 rfl) (snd_add (dget dd_Mo_lookAt 97 rfl) (snd_ia (dget dd_Mo_lookAt 98 rfl) (snd_pI (kn := 37) fd_Mo_249 rfl (dget dd_Mo_lookAt 99 rfl) (snd_al_n (n := 0) (dget dd_Mo_lookAt 100 rfl) rfl (snd_dup (dget dd_Mo_lookAt 101 rfl) (snd_gI (kn := 38) fd_Mo_252 rfl (dget dd_Mo_lookAt 102 rfl) (snd_iconst (n := 1) (dget dd_Mo_lookAt 103 rfl) (inR_d rfl) rfl (snd_sub (dget dd_Mo_lookAt 104 rfl) (snd_pI (kn := 38) fd_Mo_252 rfl (dget dd_Mo_lookAt 105 rfl) (snd_goto (tg := 94) (dget dd_Mo_lookAt 106 rfl) rfl snd_cut))))))))))))))))))))))))))))))))))))))))))))))))))))
def B_Mo_lookAt_83 : TT := (tt_al 0 (tt_il 4 (tt_pI 9 37 (tt_al 0 (tt_il 3 (tt_pI 9 38 (tt_cut 94)))))))
theorem S_Mo_lookAt_83 (lc lz : Nat) : Snd md_Mo_lookAt lc lz 83 (B_Mo_lookAt_83) := (snd_al_n (n := 0) (dget dd_Mo_lookAt 49 rfl) rfl (snd_il (dget dd_Mo_lookAt 50 rfl) (snd_pI (kn := 37) fd_Mo_249 rfl (dget dd_Mo_lookAt 51 rfl) (snd_al_n (n := 0) (dget dd_Mo_lookAt 52 rfl) rfl (snd_il_n (n := 3) (dget dd_Mo_lookAt 53 rfl) rfl (snd_pI (kn := 38) fd_Mo_252 rfl (dget dd_Mo_lookAt 54 rfl) snd_cut))))))
def B_Mo_lookAt_11 : TT := (tt_al 0 (tt_gI 9 36 (tt_il 3 (tt_cge (B_Mo_lookAt_83) (tt_al 0 (tt_gR 9 23 (tt_ci 10 (tt_al 0 (tt_gI 9 35 (tt_mul (tt_al 1 (tt_il 2 (tt_al 0 (tt_gI 9 36 (tt_add (tt_ia (tt_add (tt_ia (tt_ci (-2) (tt_ceq (B_Mo_lookAt_83) (tt_al 0 (tt_al 0 (tt_gR 9 23 (tt_ci 10 (tt_al 0 (tt_gI 9 35 (tt_mul (tt_al 1 (tt_il 2 (tt_al 0 (tt_gI 9 36 (tt_add (tt_ia (tt_add (tt_ia (tt_pI 9 35 (tt_al 0 (tt_dup (tt_gI 9 36 (tt_ci 1 (tt_add (tt_pI 9 36 (tt_cut 11)))))))))))))))))))))))))))))))))))))))))))
theorem S_Mo_lookAt_11 (lc lz : Nat) : Snd md_Mo_lookAt lc lz 11 (B_Mo_lookAt_11) := (snd_al_n (n := 0) (dget dd_Mo_lookAt 6 rfl) rfl (snd_gI (kn := 36) fd_Mo_246 rfl (dget dd_Mo_lookAt 7 rfl) (snd_il_n (n := 3) (dget dd_Mo_lookAt 8 rfl) rfl (snd_cge (tg := 83) (dget dd_Mo_lookAt 9 rfl) rfl (S_Mo_lookAt_83 lc lz) (snd_al_n (n := 0) (dget dd_Mo_lookAt 10 rfl) rfl (snd_gR (kn := 23) fd_Mo_54 rfl (dget dd_Mo_lookAt 11 rfl) (snd_bipush (n := 10) (dget dd_Mo_lookAt 12 rfl) (inR_d rfl) (by decide) (snd_al_n (n := 0) (dget dd_Mo_lookAt 13 rfl) rfl (snd_gI (kn := 35) fd_Mo_243 rfl (dget dd_Mo_lookAt 14 rfl) (snd_mul (dget dd_Mo_lookAt 15 rfl) (snd_al_n (n := 1) (dget dd_Mo_lookAt 16 rfl) rfl (snd_il_n (n := 2) (dget dd_Mo_lookAt 17 rfl) rfl (snd_al_n (n := 0) (dget dd_Mo_lookAt 18 rfl) rfl (snd_gI (kn := 36) fd_Mo_246 rfl (dget dd_Mo_lookAt 19 rfl) (snd_add (dget dd_Mo_lookAt 20 rfl) (snd_ia (dget dd_Mo_lookAt 21 rfl) (snd_add (dget dd_Mo_lookAt 22 rfl) (snd_ia (dget dd_Mo_lookAt 23 rfl) (snd_bipush (n := -2) (dget dd_Mo_lookAt 24 rfl) (inR_d rfl) (by decide) (snd_ceq (tg := 83) (dget dd_Mo_lookAt 25 rfl) rfl (S_Mo_lookAt_83 lc lz) (snd_al_n (n := 0) (dget dd_Mo_lookAt 26 rfl) rfl (snd_al_n (n := 0) (dget dd_Mo_lookAt 27 rfl) rfl (snd_gR (kn := 23) fd_Mo_54 rfl (dget dd_Mo_lookAt 28 rfl) (snd_bipush (n := 10) (dget dd_Mo_lookAt 29 rfl) (inR_d rfl) (by decide) (snd_al_n (n := 0) (dget dd_Mo_lookAt 30 rfl) rfl (snd_gI (kn := 35) fd_Mo_243 rfl (dget dd_Mo_lookAt 31 rfl) (snd_mul (dget dd_Mo_lookAt 32 rfl) (snd_al_n (n := 1) (dget dd_Mo_lookAt 33 rfl) rfl (snd_il_n (n := 2) (dget dd_Mo_lookAt 34 rfl) rfl (snd_al_n (n := 0) (dget dd_Mo_lookAt 35 rfl) rfl (snd_gI (kn := 36) fd_Mo_246 rfl (dget dd_Mo_lookAt 36 rfl) (snd_add (dget dd_Mo_lookAt 37 rfl) (snd_ia (dget dd_Mo_lookAt 38 rfl) (snd_add (dget dd_Mo_lookAt 39 rfl) (snd_ia (dget dd_Mo_lookAt 40 rfl) (snd_pI (kn := 35) fd_Mo_243 rfl (dget dd_Mo_lookAt 41 rfl) (snd_al_n (n := 0) (dget dd_Mo_lookAt 42 rfl) rfl (snd_dup (dget dd_Mo_lookAt 43 rfl) (snd_gI (kn := 36) fd_Mo_246 rfl (dget dd_Mo_lookAt 44 rfl) (snd_iconst (n := 1) (dget dd_Mo_lookAt 45 rfl) (inR_d rfl) rfl (snd_add (dget dd_Mo_lookAt 46 rfl) (snd_pI (kn := 36) fd_Mo_246 rfl (dget dd_Mo_lookAt 47 rfl) (snd_goto (tg := 11) (dget dd_Mo_lookAt 48 rfl) rfl snd_cut)))))))))))))))))))))))))))))))))))))))))))
def B_Mo_lookAt_0 : TT := (tt_al 0 (tt_il 4 (tt_pI 9 35 (tt_al 0 (tt_ci 0 (tt_pI 9 36 (tt_cut 11)))))))
theorem S_Mo_lookAt_0 (lc lz : Nat) : Snd md_Mo_lookAt lc lz 0 (B_Mo_lookAt_0) := (snd_al_n (n := 0) (dget dd_Mo_lookAt 0 rfl) rfl (snd_il (dget dd_Mo_lookAt 1 rfl) (snd_pI (kn := 35) fd_Mo_243 rfl (dget dd_Mo_lookAt 2 rfl) (snd_al_n (n := 0) (dget dd_Mo_lookAt 3 rfl) rfl (snd_iconst (n := 0) (dget dd_Mo_lookAt 4 rfl) (inR_d rfl) rfl (snd_pI (kn := 36) fd_Mo_246 rfl (dget dd_Mo_lookAt 5 rfl) snd_cut))))))
def muL (pc : Nat) (ls : LSt) (h' : PH) : Nat := if pc = 11 then 100 + (40 - gI h' pMo 36).toNat else (gI h' pMo 38).toNat
theorem muL_11 {ls : LSt} {h' : PH} : muL 11 ls h' = 100 + (40 - gI h' pMo 36).toNat := rfl
theorem muL_94 {ls : LSt} {h' : PH} : muL 94 ls h' = (gI h' pMo 38).toNat := rfl
theorem met_Mo_lookAt : MetP y_Mo_lookAt md_Mo_lookAt (fun _ => 0) (fun _ => 0) Ct_Mo_lookAt := by
  refine metL2 (body := B_Mo_lookAt_0) (B1 := B_Mo_lookAt_11) (B2 := B_Mo_lookAt_94) (by decide) rfl rfl (fun lc lz => S_Mo_lookAt_0 lc lz) (fun lc lz => S_Mo_lookAt_11 lc lz) (fun lc lz => S_Mo_lookAt_94 lc lz) (by decide) ?_
  intro av h post hc hH hav
  unfold Ct_Mo_lookAt at hc
  split at hc
  rotate_left
  · exact hc.elim
  rename_i t b f n r
  obtain ⟨rfl, w, hb, u, L, Q, hL, hL2, hW, hQ, hr, rfl, hu40, f0, f1, hu1, hu, hp⟩ := hc
  refine ⟨Nat.le_of_ble_eq_true rfl, ?_⟩
  obtain ⟨mu, hmu⟩ : ∃ mu, mu = muL := ⟨_, rfl⟩
  obtain ⟨E, hE⟩ : ∃ E, E = aE (atM h) := ⟨_, rfl⟩
  refine ⟨fun ls h' => ls = [some (.inr (.inl (some pMo))), some (.inr (.inl (some b))), some (.inl f), some (.inl u.length), some (.inl r)] ∧ FrP Pk h h' ∧ ∃ k : Nat, k ≤ u.length ∧ gI h' pMo 36 = k ∧ VV (atM h) (gI h' pMo 35) ∧ lkp E u r = ((goF E (u.drop k) (gI h' pMo 35)).1, (goF E (u.drop k) (gI h' pMo 35)).2 + k),
    fun ls h' => ls = [some (.inr (.inl (some pMo))), some (.inr (.inl (some b))), some (.inl f), some (.inl u.length), some (.inl r)] ∧ FrP Pk h h' ∧ gI h' pMo 35 = (lkp E u r).1 ∧ gI h' pMo 36 = (lkp E u r).2 ∧ ∃ k : Nat, k + (lkp E u r).2 ≤ u.length ∧ gI h' pMo 38 = u.length - k ∧ VV (atM h) (gI h' pMo 37) ∧ lkq E u r = ((goF E ((bk u (lkp E u r).2).drop k) (gI h' pMo 37)).1, (goF E ((bk u (lkp E u r).2).drop k) (gI h' pMo 37)).2 + k), mu, ?_, ?_, ?_⟩
  · rintro ls h' ⟨rfl, hF, k, hk, h36, hv, he⟩
    have w1 := FrP_MW hF w
    have hb' : isAr h' b 0 := wAr_isAr w1 hb
    have ec : gI h' pMo_cells = gI h pMo_cells := FrP_arr hF (fun j z => absurd z.1 (by decide))
    have eb : gI h' b = gI h b := FrP_arr hF (wAr_Pk hb)
    have hln := wAr_ln hb
    simp (decide := true) only [B_Mo_lookAt_0, B_Mo_lookAt_11, B_Mo_lookAt_83, B_Mo_lookAt_94, B_Mo_lookAt_181, B_Mo_lookAt_218, B_Mo_lookAt_256, Ct_Mo_other, Ct_Mo_quarrel, Ct_Mo_set, tt_ci, tt_cl, tt_nul, tt_il, tt_al, tt_ll, tt_is, tt_as, tt_ls, tt_inc, tt_add, tt_sub, tt_mul, tt_div, tt_rem, tt_ladd, tt_lmul, tt_ldiv, tt_lrem, tt_zeq, tt_zne, tt_zlt, tt_zge, tt_zgt, tt_zle, tt_ceq, tt_cne, tt_clt, tt_cge, tt_cgt, tt_cle, tt_nn, tt_cut, tt_pop, tt_dup, tt_dup2, tt_gI, tt_gR, tt_pI, tt_pZ, tt_pR, tt_ia, tt_ba, tt_za, tt_iS, tt_bS, tt_zS, tt_aa, tt_aS, tt_len, tt_and, tt_xor, tt_shr, tt_ushr, tt_lcmp, tt_i2b, tt_i2l, tt_l2i, tt_sw, swG, tt_ir, tt_zr, tt_br, tt_lr, tt_ar, tt_vr, tt_cV, tt_cS, tt_min, tt_max, tt_acp, pI, pII, pO, pA, pIA, pIIA, pOA, pOIA, pL, pLL, pLIA, pV, pCP, lI, lO, lL, nth, stL, clL, entA, fitL, rcv, List.take_succ_cons, List.take_zero, List.drop_succ_cons, List.drop_zero, List.reverse_cons, List.reverse_nil, List.nil_append, List.cons_append, List.length_cons, List.length_nil, Option.toList_some, Option.toList_none, gI_sI, gI_sA, gR_sI, gR_sA, gI_sR, gR_sR, hN_sI, hN_sA, hN_sR, isO_sI, isO_sA, isO_sR, isAr_sI, isAr_sA, isAr_sR, hC_sI, hC_sA, hC_sR, hZ_sI, hZ_sA, hZ_sR, MW_sI, MW_sA, true_and, and_true, true_or, or_true, and_self, forall_const, imp_self, implies_true, if_true, if_false, false_and, and_false, false_or, or_false, not_false_eq_true, not_true_eq_false, sI_sI, mr_tape w1, mr_text w1, mr_words w1, mr_wordSize w1, mr_subs w1, mr_subSize w1, mr_asked w1, mr_pile w1, mr_pileSize w1, mr_opened w1, mr_openedAt w1, mr_begun w1, mr_cells w1, mr_keptCells w1, mr_name w1, mr_isLeft w1, mr_isDone w1, mr_keptLeft w1, mr_keptDone w1, mr_state w1, mr_keptState w1, mr_newOf w1, mr_oldOf w1, mr_spare w1, mr_spareDone w1, mr_out w1, mr_metFrom w1, mr_metBy w1, mr_far w1, mr_low w1, mr_lows w1, mr_lowSize w1, mr_triedRow w1, mr_triedColumn w1, mr_triedValue w1, mr_triedRows w1, mr_sheet w1, ma_tape w1, ma_text w1, ma_words w1, ma_wordSize w1, ma_subs w1, ma_subSize w1, ma_asked w1, ma_pile w1, ma_pileSize w1, ma_opened w1, ma_openedAt w1, ma_begun w1, ma_cells w1, ma_keptCells w1, ma_name w1, ma_isLeft w1, ma_isDone w1, ma_keptLeft w1, ma_keptDone w1, ma_state w1, ma_keptState w1, ma_newOf w1, ma_oldOf w1, ma_spare w1, ma_spareDone w1, ma_out w1, ma_metFrom w1, ma_metBy w1, ma_far w1, ma_low w1, ma_lows w1, ma_lowSize w1, ma_triedRow w1, ma_triedColumn w1, ma_triedValue w1, ma_triedRows w1, ma_sheet w1, ml_tape, ml_text, ml_words, ml_wordSize, ml_subs, ml_subSize, ml_asked, ml_pile, ml_pileSize, ml_opened, ml_openedAt, ml_begun, ml_cells, ml_keptCells, ml_name, ml_isLeft, ml_isDone, ml_keptLeft, ml_keptDone, ml_state, ml_keptState, ml_newOf, ml_oldOf, ml_spare, ml_spareDone, ml_out, ml_metFrom, ml_metBy, ml_far, ml_low, ml_lows, ml_lowSize, ml_triedRow, ml_triedColumn, ml_triedValue, ml_triedRows, ml_sheet, mo_O w1, hb', h36, ec, eb]
    obtain ⟨x, hx⟩ : ∃ x, x = gI h' pMo 35 := ⟨_, rfl⟩
    rw [← hx] at hv he ⊢
    have x0 := hW.1.2.1 x hv
    have x1 := (hW.2.1 x hv).2
    have x2 := hW.2.2.2.2.1
    have ex : goF E (u.drop k) x = (x, 0) → (FrP Pk h (sI (sI h' pMo 37 r) pMo 38 u.length) ∧ x = (lkp E u r).1 ∧ (k : Int) = (lkp E u r).2 ∧ ∃ k : Nat, k + (lkp E u r).2 ≤ u.length ∧ (u.length : Int) = u.length - k ∧ VV (atM h) r ∧ lkq E u r = ((goF E ((bk u (lkp E u r).2).drop k) r).1, (goF E ((bk u (lkp E u r).2).drop k) r).2 + k)) ∧ mu 94 [some (.inr (.inl (some pMo))), some (.inr (.inl (some b))), some (.inl f), some (.inl u.length), some (.inl r)] (sI (sI h' pMo 37 r) pMo 38 u.length) < mu 11 [some (.inr (.inl (some pMo))), some (.inr (.inl (some b))), some (.inl f), some (.inl u.length), some (.inl r)] h' := by
      intro q
      rw [q] at he
      refine ⟨⟨FrP_sI ⟨rfl, by omega, by omega⟩ (FrP_sI ⟨rfl, by omega, by omega⟩ hF), by rw [he], by rw [he]; simp, 0, ?_, by omega, hr, rfl⟩, ?_⟩
      · rw [he]; simpa using hk
      · rw [hmu, muL_11, muL_94, h36]
        simp (decide := true) only [gI_sI, if_true]
        omega
    refine ⟨fun q => ex ?_, fun q => ?_⟩
    · rw [List.drop_of_length_le (by omega)]; rfl
    · have hd := drop_wf (u := u) (k := k) (by omega)
      have hc := hu _ (wf_mem (u := u) (i := k) (by omega))
      rw [hu1 k (by omega)]
      have eE : E x (wf u k) = gI h pMo_cells (10 * x + wf u k) := by rw [hE]; exact aE_atM hv hc.1 (by omega)
      rw [← eE]
      have r1 : inR (10 * x) := ⟨by omega, by omega⟩
      have r2 : inR (f + (k : Int)) := ⟨by omega, by omega⟩
      have r3 : inR (10 * x + wf u k) := ⟨by omega, by omega⟩
      refine ⟨r1, r2, by omega, by omega, r3, by omega, by omega, fun z => ex ?_, fun z => ⟨r1, r2, by omega, by omega, r3, by omega, by omega, ⟨by omega, by omega⟩, ⟨FrP_sI ⟨rfl, by omega, by omega⟩ (FrP_sI ⟨rfl, by omega, by omega⟩ hF), k + 1, by omega, by omega, ?_, ?_⟩, ?_⟩⟩
      · rw [hd]; exact if_pos z
      · have := (hW.1.2.2 x (wf u k) hv hc.1 hc.2).resolve_left (by rw [← hE]; exact z)
        rw [hE]; exact this.1
      · have e2 : goF E (u.drop k) x = ((goF E (u.drop (k + 1)) (E x (wf u k))).1, (goF E (u.drop (k + 1)) (E x (wf u k))).2 + 1) := by rw [hd]; exact if_neg z
        rw [he, e2]
        simp only [Prod.mk.injEq, true_and]
        omega
      · rw [hmu, muL_11, muL_11, h36]
        simp (decide := true) only [gI_sI, if_true]
        omega
  · rintro ls h' ⟨rfl, hF, h35, h36, k, hk, h38, hv, he⟩
    have w1 := FrP_MW hF w
    have hb' : isAr h' b 0 := wAr_isAr w1 hb
    have ec : gI h' pMo_cells = gI h pMo_cells := FrP_arr hF (fun j z => absurd z.1 (by decide))
    have eb : gI h' b = gI h b := FrP_arr hF (wAr_Pk hb)
    have es : gI h' pMo_state = gI h pMo_state := FrP_arr hF (fun j z => absurd z.1 (by decide))
    have hln := wAr_ln hb
    have e0 : gI h' pMo 0 = gI h pMo 0 := hF.1 pMo 0 (fun z => by have := z.2; omega)
    have e34 : gI h' pMo 34 = gI h pMo 34 := hF.1 pMo 34 (fun z => by have := z.2; omega)
    have el : gI h' pMo_isLeft = gI h pMo_isLeft := FrP_arr hF (fun j z => absurd z.1 (by decide))
    have hFr : Fr h h' := FrP_mono (fun _ _ => Pk_Tb) hF
    have hAt : atM h' = atM h := atM_Pk hF
    have hL0 : L % 2 = 0 := by omega
    obtain ⟨sp1, sp2, sp3, sp4, sp5, sp6, sp7, sp8⟩ := look_spec hL0 hW.1 hr hu
    rw [← hE] at sp1 sp2 sp3 sp4 sp5 sp6 sp7 sp8 hp
    obtain ⟨x, hx⟩ : ∃ x, x = gI h' pMo 37 := ⟨_, rfl⟩
    rw [← hx] at hv he
    have x0 := hW.1.2.1 x hv
    have x1 := (hW.2.1 x hv).2
    have x2 := hW.2.2.2.2.1
    have x3 := hW.2.2.2.2.2
    have y0 := hW.1.2.1 _ sp2
    have y1 := (hW.2.1 _ sp2).2
    have tail : lkq E u r = (x, k) → ∀ I, B_Mo_lookAt_181 I (fun r h'' => post r h'' ∧ hC h'' = hC h ∧ hZ h'' = hZ h) [some (.inr (.inl (some pMo))), some (.inr (.inl (some b))), some (.inl f), some (.inl u.length), some (.inl r)] [] h' := by
      intro q I
      have q1 : (lkq E u r).1 = x := by rw [q]
      have q2 : (lkq E u r).2 = k := by rw [q]
      have hg : gap E u r = u.length - (lkp E u r).2 - k := by unfold gap; rw [q2]
      simp (decide := true) only [B_Mo_lookAt_0, B_Mo_lookAt_11, B_Mo_lookAt_83, B_Mo_lookAt_94, B_Mo_lookAt_181, B_Mo_lookAt_218, B_Mo_lookAt_256, Ct_Mo_other, Ct_Mo_quarrel, Ct_Mo_set, tt_ci, tt_cl, tt_nul, tt_il, tt_al, tt_ll, tt_is, tt_as, tt_ls, tt_inc, tt_add, tt_sub, tt_mul, tt_div, tt_rem, tt_ladd, tt_lmul, tt_ldiv, tt_lrem, tt_zeq, tt_zne, tt_zlt, tt_zge, tt_zgt, tt_zle, tt_ceq, tt_cne, tt_clt, tt_cge, tt_cgt, tt_cle, tt_nn, tt_cut, tt_pop, tt_dup, tt_dup2, tt_gI, tt_gR, tt_pI, tt_pZ, tt_pR, tt_ia, tt_ba, tt_za, tt_iS, tt_bS, tt_zS, tt_aa, tt_aS, tt_len, tt_and, tt_xor, tt_shr, tt_ushr, tt_lcmp, tt_i2b, tt_i2l, tt_l2i, tt_sw, swG, tt_ir, tt_zr, tt_br, tt_lr, tt_ar, tt_vr, tt_cV, tt_cS, tt_min, tt_max, tt_acp, pI, pII, pO, pA, pIA, pIIA, pOA, pOIA, pL, pLL, pLIA, pV, pCP, lI, lO, lL, nth, stL, clL, entA, fitL, rcv, List.take_succ_cons, List.take_zero, List.drop_succ_cons, List.drop_zero, List.reverse_cons, List.reverse_nil, List.nil_append, List.cons_append, List.length_cons, List.length_nil, Option.toList_some, Option.toList_none, gI_sI, gI_sA, gR_sI, gR_sA, gI_sR, gR_sR, hN_sI, hN_sA, hN_sR, isO_sI, isO_sA, isO_sR, isAr_sI, isAr_sA, isAr_sR, hC_sI, hC_sA, hC_sR, hZ_sI, hZ_sA, hZ_sR, MW_sI, MW_sA, true_and, and_true, true_or, or_true, and_self, forall_const, imp_self, implies_true, if_true, if_false, false_and, and_false, false_or, or_false, not_false_eq_true, not_true_eq_false, sI_sI, mr_tape w1, mr_text w1, mr_words w1, mr_wordSize w1, mr_subs w1, mr_subSize w1, mr_asked w1, mr_pile w1, mr_pileSize w1, mr_opened w1, mr_openedAt w1, mr_begun w1, mr_cells w1, mr_keptCells w1, mr_name w1, mr_isLeft w1, mr_isDone w1, mr_keptLeft w1, mr_keptDone w1, mr_state w1, mr_keptState w1, mr_newOf w1, mr_oldOf w1, mr_spare w1, mr_spareDone w1, mr_out w1, mr_metFrom w1, mr_metBy w1, mr_far w1, mr_low w1, mr_lows w1, mr_lowSize w1, mr_triedRow w1, mr_triedColumn w1, mr_triedValue w1, mr_triedRows w1, mr_sheet w1, ma_tape w1, ma_text w1, ma_words w1, ma_wordSize w1, ma_subs w1, ma_subSize w1, ma_asked w1, ma_pile w1, ma_pileSize w1, ma_opened w1, ma_openedAt w1, ma_begun w1, ma_cells w1, ma_keptCells w1, ma_name w1, ma_isLeft w1, ma_isDone w1, ma_keptLeft w1, ma_keptDone w1, ma_state w1, ma_keptState w1, ma_newOf w1, ma_oldOf w1, ma_spare w1, ma_spareDone w1, ma_out w1, ma_metFrom w1, ma_metBy w1, ma_far w1, ma_low w1, ma_lows w1, ma_lowSize w1, ma_triedRow w1, ma_triedColumn w1, ma_triedValue w1, ma_triedRows w1, ma_sheet w1, ml_tape, ml_text, ml_words, ml_wordSize, ml_subs, ml_subSize, ml_asked, ml_pile, ml_pileSize, ml_opened, ml_openedAt, ml_begun, ml_cells, ml_keptCells, ml_name, ml_isLeft, ml_isDone, ml_keptLeft, ml_keptDone, ml_state, ml_keptState, ml_newOf, ml_oldOf, ml_spare, ml_spareDone, ml_out, ml_metFrom, ml_metBy, ml_far, ml_low, ml_lows, ml_lowSize, ml_triedRow, ml_triedColumn, ml_triedValue, ml_triedRows, ml_sheet, mo_O w1, hb', h35, h36, h38, ec, eb, es, ← hx]
      have same : ¬ chg (atM h) u r → post none h' ∧ hC h' = hC h ∧ hZ h' = hZ h := by
        intro z
        refine ⟨hp h' hFr (by rw [hAt, lookA_same z]) (by rw [hAt]; exact hW) (fun g n => absurd (Or.inl ⟨by rw [← hE]; exact g, by rw [← hE]; exact n⟩) z) h35 h36 (by rw [h38, q2]) (fun c => absurd c z) (fun _ => e34) (BB_of el (FrP_arr hF (fun j z => absurd z.1 (by decide)))), hF.2.2.2.1, hF.2.2.2.2⟩
      refine ⟨fun z => ⟨⟨by omega, by omega⟩, fun z1 => same ?_, fun z1 => ?_⟩, fun z => ⟨fun z1 => same ?_, fun z1 => ?_⟩⟩
      · unfold chg
        rw [← hE, hg]
        rintro (c | c)
        · have := c.1; omega
        · omega
      · have g1 : gap E u r = 1 := by omega
        have hc := hu _ (wf_mem (u := u) (i := (lkp E u r).2) (by omega))
        have ch : chg (atM h) u r := Or.inr (by rw [← hE]; exact g1)
        rw [hu1 _ (by omega)]
        refine ⟨⟨by omega, by omega⟩, by omega, by omega, w1, y0, by omega, hc.1, by omega, x0, by omega, hp _ ?_ ?_ ?_ (fun g => by omega) ?_ ?_ ?_ (fun _ => ?_) (fun c => absurd ch c) (fun bb => BB_sI (by decide) (by decide) (BB_sI (by decide) (by decide) (BB_sI (by decide) (by decide) (BB_of el (FrP_arr hF (fun j z => absurd z.1 (by decide))) bb)))), hF.2.2.2.1, hF.2.2.2.2⟩
        · exact FrP_sI (Or.inr (Or.inr (Or.inr (Or.inr (Or.inr ⟨rfl, by omega, by omega⟩))))) (FrP_sI (Or.inl rfl) (FrP_sI (Or.inl rfl) hFr))
        · rw [atM_sI (by decide), atM_put (by rw [hAt]; exact sp2) (by rw [hAt]; exact hv) hc.1 (by omega), hAt]
          unfold lookA
          rw [← hE, if_neg (by omega), if_pos g1, q1]
        · rw [atM_sI (by decide), atM_put (by rw [hAt]; exact sp2) (by rw [hAt]; exact hv) hc.1 (by omega), hAt]
          obtain ⟨o1, o2, o3, o4, o5⟩ := look_one hL0 hW.1 hr hu (by rw [← hE]; exact g1)
          rw [← hE] at o2 o3 o4 o5
          rw [q1] at o5
          exact WT_put hL0 hW sp2 hv o2 o3 (by rw [← hE]; exact o4) (by rw [← hE]; exact o5)
        · simp (decide := true) only [gI_sI, if_false, false_and, h35]
        · simp (decide := true) only [gI_sI, if_false, false_and, h36]
        · simp (decide := true) only [gI_sI, if_false, false_and, h38, q2]
        · simp (decide := true) only [gI_sI, if_true]
      · unfold chg
        rw [← hE, hg, q1]
        rintro (c | c)
        · exact c.2 z1
        · omega
      · have g0 : gap E u r = 0 := by omega
        have ch : chg (atM h) u r := Or.inl ⟨by rw [← hE]; exact g0, by rw [← hE, q1]; exact z1⟩
        have hN : (((gI h pMo_state 0).toNat : Nat) : Int) = gI h pMo_state 0 := by
          rw [aS_atM (by omega) (by omega)] at x2
          omega
        have hl : ∀ y, lfV (gI h pMo_state 0).toNat (gI h pMo_isLeft) y ↔ VV (atM h) y := by
          intro y
          rw [VV_atM]
          unfold lfV
          rw [hN]
        have hc2 : ∀ y c, VV (atM h) y → 0 ≤ c → c < L → aE (atM h) y c = c2 (gI h pMo_cells) y c := fun y c hy c0 c1 => aE_atM hy c0 (by omega)
        have x4 := hW.2.2.2.2.2.1
        have x5 := hW.2.2.2.2.2.2.1
        have x6 := WT_left hW
        simp only [aS_atM (h := h) (by decide : (0 : Int) ≤ 0) (by decide), aS_atM (h := h) (by decide : (0 : Int) ≤ 1) (by decide), aS_atM (h := h) (by decide : (0 : Int) ≤ 2) (by decide), aS_atM (h := h) (by decide : (0 : Int) ≤ 3) (by decide), aS_atM (h := h) (by decide : (0 : Int) ≤ 7) (by decide), aS_atM (h := h) (by decide : (0 : Int) ≤ 9) (by decide), aS_atM (h := h) (by decide : (0 : Int) ≤ 10) (by decide)] at x2 x4 x5 x6
        rw [e0, el]
        refine ⟨w1, (gI h pMo_state 0).toNat, L, hN.symm, by omega, by omega, hL, hL2.1, hL2.2, (hl _).mpr sp2, (hl _).mpr hv, z1, TW_cong hL0 (fun y => (hl y).symm) hc2 hW.1, ⟨by omega, by omega⟩, ⟨by omega, by omega⟩, ⟨by omega, by omega⟩, fun nm cl lf S hQR hA hB hC9 hS => ?_⟩
        have vl : ∀ y, lfV (gI h pMo_state 0).toNat lf y ↔ cV (gI h pMo_state 0) lf y ≠ 0 := by
          intro y
          unfold lfV cV
          rw [hN]
          split
          · rename_i t; exact ⟨fun _ => by decide, fun _ => t⟩
          · rename_i t; exact ⟨fun t2 => absurd t2 t, fun t2 => absurd rfl t2⟩
        have hq1 : QR L (VV (atM h)) (aE (atM h)) (lkp E u r).1 x (fun y => cV (gI h pMo_state 0) lf y ≠ 0) (c2 cl) := QR_cong vl (fun _ _ _ _ _ => rfl) (QR_cong2 (TW_cong hL0 (fun y => (hl y).symm) hc2 hW.1) hl (fun y c hy c0 c1 => (hc2 y c ((hl y).mp hy) c0 c1).symm) hQR)
        have hm : atM (HF h' nm cl lf S) = mel L (atM h) (cV (gI h pMo_state 0) lf) (c2 cl) := by
          rw [← hAt, ← es]
          refine atM_HF (L := L) (Q := Q) (a := 0) (b := 0) hL2.2 (by rw [hAt]; exact hW) (fun y hy => ?_) (fun r c c0 c1 c9 => ?_) ?_
          · rw [es] at hy
            rw [es, el]
            have : lfV (gI h pMo_state 0).toNat (gI h pMo_isLeft) y := by
              obtain ⟨ρ, -, t2, -⟩ := hQR
              exact (t2 y hy).1
            exact this
          · rw [ec]; exact hC9 r c c0 c1 c9
          · rw [es, el]; exact hS
        have hq2 : quA L (atM h) (lkp E u r).1 x = atM (HF h' nm cl lf S) := by rw [hm]; exact quA_eq hW.1 hq1
        have hq3 : hasQ L (atM h) (lkp E u r).1 x := ⟨_, _, hq1⟩
        have ed : gI h' pMo_isDone = gI h pMo_isDone := FrP_arr hF (fun j z => absurd z.1 (by decide))
        refine ⟨hp _ ?_ ?_ ?_ (fun _ _ => ?_) ?_ ?_ ?_ (fun _ => ?_) (fun c => absurd ch c) (fun bb j => ?_), hF.2.2.2.1, hF.2.2.2.2⟩
        · unfold HF HQ
          exact FrP_sA (fun j => by unfold Tb; simp) (FrP_sA (fun j => by unfold Tb; simp) (FrP_sA (fun j => by unfold Tb; simp) (FrP_sA (fun j => by unfold Tb; simp) (FrP_sI (Or.inr (Or.inr (Or.inr (Or.inr (Or.inr ⟨rfl, by omega, by omega⟩))))) hFr))))
        · rw [← hq2]
          unfold lookA
          rw [← hE, if_pos g0, q1, if_neg z1]
        · rw [← hq2]
          exact quA_WT hL0 hW hq3
        · rw [q1]; exact hq3
        · simp (decide := true) only [HF_I, if_false, h35]
        · simp (decide := true) only [HF_I, if_false, h36]
        · simp (decide := true) only [HF_I, if_false, h38, q2]
        · simp (decide := true) only [HF_I, if_true, if_false]
        · simp (decide := true) only [HF_I, if_true, if_false, false_and]
          rw [ed]
          refine ⟨?_, (bb j).2⟩
          rcases hB j with z | z
          · exact Or.inl z
          · rw [z]; exact (bb j).1
    simp (decide := true) only [B_Mo_lookAt_0, B_Mo_lookAt_11, B_Mo_lookAt_83, B_Mo_lookAt_94, B_Mo_lookAt_218, B_Mo_lookAt_256, Ct_Mo_other, Ct_Mo_quarrel, Ct_Mo_set, tt_ci, tt_cl, tt_nul, tt_il, tt_al, tt_ll, tt_is, tt_as, tt_ls, tt_inc, tt_add, tt_sub, tt_mul, tt_div, tt_rem, tt_ladd, tt_lmul, tt_ldiv, tt_lrem, tt_zeq, tt_zne, tt_zlt, tt_zge, tt_zgt, tt_zle, tt_ceq, tt_cne, tt_clt, tt_cge, tt_cgt, tt_cle, tt_nn, tt_cut, tt_pop, tt_dup, tt_dup2, tt_gI, tt_gR, tt_pI, tt_pZ, tt_pR, tt_ia, tt_ba, tt_za, tt_iS, tt_bS, tt_zS, tt_aa, tt_aS, tt_len, tt_and, tt_xor, tt_shr, tt_ushr, tt_lcmp, tt_i2b, tt_i2l, tt_l2i, tt_sw, swG, tt_ir, tt_zr, tt_br, tt_lr, tt_ar, tt_vr, tt_cV, tt_cS, tt_min, tt_max, tt_acp, pI, pII, pO, pA, pIA, pIIA, pOA, pOIA, pL, pLL, pLIA, pV, pCP, lI, lO, lL, nth, stL, clL, entA, fitL, rcv, List.take_succ_cons, List.take_zero, List.drop_succ_cons, List.drop_zero, List.reverse_cons, List.reverse_nil, List.nil_append, List.cons_append, List.length_cons, List.length_nil, Option.toList_some, Option.toList_none, gI_sI, gI_sA, gR_sI, gR_sA, gI_sR, gR_sR, hN_sI, hN_sA, hN_sR, isO_sI, isO_sA, isO_sR, isAr_sI, isAr_sA, isAr_sR, hC_sI, hC_sA, hC_sR, hZ_sI, hZ_sA, hZ_sR, MW_sI, MW_sA, true_and, and_true, true_or, or_true, and_self, forall_const, imp_self, implies_true, if_true, if_false, false_and, and_false, false_or, or_false, not_false_eq_true, not_true_eq_false, sI_sI, mr_tape w1, mr_text w1, mr_words w1, mr_wordSize w1, mr_subs w1, mr_subSize w1, mr_asked w1, mr_pile w1, mr_pileSize w1, mr_opened w1, mr_openedAt w1, mr_begun w1, mr_cells w1, mr_keptCells w1, mr_name w1, mr_isLeft w1, mr_isDone w1, mr_keptLeft w1, mr_keptDone w1, mr_state w1, mr_keptState w1, mr_newOf w1, mr_oldOf w1, mr_spare w1, mr_spareDone w1, mr_out w1, mr_metFrom w1, mr_metBy w1, mr_far w1, mr_low w1, mr_lows w1, mr_lowSize w1, mr_triedRow w1, mr_triedColumn w1, mr_triedValue w1, mr_triedRows w1, mr_sheet w1, ma_tape w1, ma_text w1, ma_words w1, ma_wordSize w1, ma_subs w1, ma_subSize w1, ma_asked w1, ma_pile w1, ma_pileSize w1, ma_opened w1, ma_openedAt w1, ma_begun w1, ma_cells w1, ma_keptCells w1, ma_name w1, ma_isLeft w1, ma_isDone w1, ma_keptLeft w1, ma_keptDone w1, ma_state w1, ma_keptState w1, ma_newOf w1, ma_oldOf w1, ma_spare w1, ma_spareDone w1, ma_out w1, ma_metFrom w1, ma_metBy w1, ma_far w1, ma_low w1, ma_lows w1, ma_lowSize w1, ma_triedRow w1, ma_triedColumn w1, ma_triedValue w1, ma_triedRows w1, ma_sheet w1, ml_tape, ml_text, ml_words, ml_wordSize, ml_subs, ml_subSize, ml_asked, ml_pile, ml_pileSize, ml_opened, ml_openedAt, ml_begun, ml_cells, ml_keptCells, ml_name, ml_isLeft, ml_isDone, ml_keptLeft, ml_keptDone, ml_state, ml_keptState, ml_newOf, ml_oldOf, ml_spare, ml_spareDone, ml_out, ml_metFrom, ml_metBy, ml_far, ml_low, ml_lows, ml_lowSize, ml_triedRow, ml_triedColumn, ml_triedValue, ml_triedRows, ml_sheet, mo_O w1, hb', h35, h36, h38, ec, eb, es, ← hx]
    have hbl : (bk u (lkp E u r).2).length = u.length - (lkp E u r).2 := bk_len
    refine ⟨fun q => tail ?_ _, fun q => ?_⟩
    · rw [he, List.drop_of_length_le (by omega)]; simp [goF]
    · have hd := drop_wf (u := bk u (lkp E u r).2) (k := k) (by omega)
      have hwb : wf (bk u (lkp E u r).2) k = oc (wf u ((u.length : Int) - 1 - k)) := wf_bk (by omega)
      have ei : (u.length : Int) - 1 - k = ((u.length - 1 - k : Nat) : Int) := by omega
      rw [ei] at hwb
      have hc := hu _ (wf_mem (u := u) (i := u.length - 1 - k) (by omega))
      have ho := oc_in hL0 hc.1 hc.2
      have e9 : gI h b (f + ((u.length : Int) - k) - 1) = wf u ((u.length - 1 - k : Nat) : Int) := by
        rw [← hu1 (u.length - 1 - k) (by omega)]
        congr 1
        omega
      rw [e9]
      have eE : E x (oc (wf u ((u.length - 1 - k : Nat) : Int))) = gI h pMo_cells (10 * x + oc (wf u ((u.length - 1 - k : Nat) : Int))) := by rw [hE]; exact aE_atM hv ho.1 (by omega)
      rw [← eE, ← hwb]
      rw [← hwb] at ho
      have r1 : inR (10 * x) := ⟨by omega, by omega⟩
      have r2 : inR (f + ((u.length : Int) - k)) := ⟨by omega, by omega⟩
      have r3 : inR (f + ((u.length : Int) - k) - 1) := ⟨by omega, by omega⟩
      have r4 : inR (10 * x + wf (bk u (lkp E u r).2) k) := ⟨by omega, by omega⟩
      refine ⟨r1, r2, r3, by omega, by omega, hc.1, by omega, r4, by omega, by omega, fun z => tail ?_ _, fun z => ⟨r1, r2, r3, by omega, by omega, hc.1, by omega, r4, by omega, by omega, ⟨by omega, by omega⟩, ⟨FrP_sI ⟨rfl, by omega, by omega⟩ (FrP_sI ⟨rfl, by omega, by omega⟩ hF), k + 1, by omega, by omega, ?_, ?_⟩, ?_⟩⟩
      · have e2 : goF E ((bk u (lkp E u r).2).drop k) x = (x, 0) := by rw [hd]; exact if_pos z
        rw [he, e2]; simp
      · have := (hW.1.2.2 x _ hv ho.1 ho.2).resolve_left (by rw [← hE]; exact z)
        rw [hE] at this ⊢
        exact this.1
      · have e2 : goF E ((bk u (lkp E u r).2).drop k) x = ((goF E ((bk u (lkp E u r).2).drop (k + 1)) (E x (wf (bk u (lkp E u r).2) k))).1, (goF E ((bk u (lkp E u r).2).drop (k + 1)) (E x (wf (bk u (lkp E u r).2) k))).2 + 1) := by rw [hd]; exact if_neg z
        rw [he, e2]
        simp only [Prod.mk.injEq, true_and]
        omega
      · rw [hmu, muL_94, muL_94, h38]
        simp (decide := true) only [gI_sI, if_true]
        omega
  · simp (decide := true) only [B_Mo_lookAt_0, B_Mo_lookAt_11, B_Mo_lookAt_83, B_Mo_lookAt_94, B_Mo_lookAt_181, B_Mo_lookAt_218, B_Mo_lookAt_256, Ct_Mo_other, Ct_Mo_quarrel, Ct_Mo_set, tt_ci, tt_cl, tt_nul, tt_il, tt_al, tt_ll, tt_is, tt_as, tt_ls, tt_inc, tt_add, tt_sub, tt_mul, tt_div, tt_rem, tt_ladd, tt_lmul, tt_ldiv, tt_lrem, tt_zeq, tt_zne, tt_zlt, tt_zge, tt_zgt, tt_zle, tt_ceq, tt_cne, tt_clt, tt_cge, tt_cgt, tt_cle, tt_nn, tt_cut, tt_pop, tt_dup, tt_dup2, tt_gI, tt_gR, tt_pI, tt_pZ, tt_pR, tt_ia, tt_ba, tt_za, tt_iS, tt_bS, tt_zS, tt_aa, tt_aS, tt_len, tt_and, tt_xor, tt_shr, tt_ushr, tt_lcmp, tt_i2b, tt_i2l, tt_l2i, tt_sw, swG, tt_ir, tt_zr, tt_br, tt_lr, tt_ar, tt_vr, tt_cV, tt_cS, tt_min, tt_max, tt_acp, pI, pII, pO, pA, pIA, pIIA, pOA, pOIA, pL, pLL, pLIA, pV, pCP, lI, lO, lL, nth, stL, clL, entA, fitL, rcv, List.take_succ_cons, List.take_zero, List.drop_succ_cons, List.drop_zero, List.reverse_cons, List.reverse_nil, List.nil_append, List.cons_append, List.length_cons, List.length_nil, Option.toList_some, Option.toList_none, gI_sI, gI_sA, gR_sI, gR_sA, gI_sR, gR_sR, hN_sI, hN_sA, hN_sR, isO_sI, isO_sA, isO_sR, isAr_sI, isAr_sA, isAr_sR, hC_sI, hC_sA, hC_sR, hZ_sI, hZ_sA, hZ_sR, MW_sI, MW_sA, true_and, and_true, true_or, or_true, and_self, forall_const, imp_self, implies_true, if_true, if_false, false_and, and_false, false_or, or_false, not_false_eq_true, not_true_eq_false, sI_sI, mr_tape w, mr_text w, mr_words w, mr_wordSize w, mr_subs w, mr_subSize w, mr_asked w, mr_pile w, mr_pileSize w, mr_opened w, mr_openedAt w, mr_begun w, mr_cells w, mr_keptCells w, mr_name w, mr_isLeft w, mr_isDone w, mr_keptLeft w, mr_keptDone w, mr_state w, mr_keptState w, mr_newOf w, mr_oldOf w, mr_spare w, mr_spareDone w, mr_out w, mr_metFrom w, mr_metBy w, mr_far w, mr_low w, mr_lows w, mr_lowSize w, mr_triedRow w, mr_triedColumn w, mr_triedValue w, mr_triedRows w, mr_sheet w, ma_tape w, ma_text w, ma_words w, ma_wordSize w, ma_subs w, ma_subSize w, ma_asked w, ma_pile w, ma_pileSize w, ma_opened w, ma_openedAt w, ma_begun w, ma_cells w, ma_keptCells w, ma_name w, ma_isLeft w, ma_isDone w, ma_keptLeft w, ma_keptDone w, ma_state w, ma_keptState w, ma_newOf w, ma_oldOf w, ma_spare w, ma_spareDone w, ma_out w, ma_metFrom w, ma_metBy w, ma_far w, ma_low w, ma_lows w, ma_lowSize w, ma_triedRow w, ma_triedColumn w, ma_triedValue w, ma_triedRows w, ma_sheet w, ml_tape, ml_text, ml_words, ml_wordSize, ml_subs, ml_subSize, ml_asked, ml_pile, ml_pileSize, ml_opened, ml_openedAt, ml_begun, ml_cells, ml_keptCells, ml_name, ml_isLeft, ml_isDone, ml_keptLeft, ml_keptDone, ml_state, ml_keptState, ml_newOf, ml_oldOf, ml_spare, ml_spareDone, ml_out, ml_metFrom, ml_metBy, ml_far, ml_low, ml_lows, ml_lowSize, ml_triedRow, ml_triedColumn, ml_triedValue, ml_triedRows, ml_sheet, mo_O w]
    exact ⟨FrP_sI ⟨rfl, by omega, by omega⟩ (FrP_sI ⟨rfl, by omega, by omega⟩ (FrP_refl _ h)), 0, by omega, by omega, hr, rfl⟩
