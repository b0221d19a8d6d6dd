/-! THE MODEL'S QUARREL -/
def c2 (cl : Int → Int) : Int → Int → Int := fun r c => cl (10 * r + c)
theorem cnN_bound (f : Int → Int) (n : Nat) : cnN f n ≤ n := by
  induction n with
  | zero => exact Nat.le_refl _
  | succ n ih => show cnN f n + _ ≤ n + 1; split <;> omega
theorem cnN_same {f g : Int → Int} {n : Nat} (h : ∀ j, 0 ≤ j → j < (n : Int) → (f j ≠ 0 ↔ g j ≠ 0)) : cnN f n = cnN g n := by
  induction n with
  | zero => rfl
  | succ n ih =>
    show cnN f n + (if f n ≠ 0 then 1 else 0) = cnN g n + (if g n ≠ 0 then 1 else 0)
    rw [ih (fun j h0 h1 => h j h0 (by omega))]
    have := h n (by omega) (by omega)
    by_cases q : f n ≠ 0
    · rw [if_pos q, if_pos (this.mp q)]
    · rw [if_neg q, if_neg (fun z => q (this.mpr z))]
theorem cnN_lt {f g : Int → Int} {n : Nat} {k : Int} (h0 : 0 ≤ k) (h1 : k < n) (hf : f k ≠ 0) (hg : g k = 0) (h : ∀ j, 0 ≤ j → j < (n : Int) → j ≠ k → (f j ≠ 0 ↔ g j ≠ 0)) : cnN g n < cnN f n := by
  induction n with
  | zero => omega
  | succ n ih =>
    show cnN g n + (if g n ≠ 0 then 1 else 0) < cnN f n + (if f n ≠ 0 then 1 else 0)
    by_cases e : k = n
    · have := cnN_same (f := f) (g := g) (n := n) (fun j a b => h j a (by omega) (by omega))
      rw [this, ← e, if_pos hf, if_neg (by rw [hg]; simp)]
      omega
    · have := ih (by omega) (fun j a b c => h j a (by omega) c)
      have q := h n (by omega) (by omega) (fun z => e z.symm)
      by_cases z : f n ≠ 0
      · rw [if_pos z, if_pos (q.mp z)]; omega
      · rw [if_neg z, if_neg (fun y => z (q.mpr y))]; omega
def SQ (nm cl : Int → Int) (N : Nat) : Nat := cnN (fun j => if nm j = j then 1 else 0) N + cnN (fun j => if cl j = -2 then 1 else 0) (10 * N)
theorem SQ_join {nm cl : Int → Int} {N : Nat} {x y : Int} (y0 : 0 ≤ y) (y1 : y < N) (hy : nm y = y) (hxy : x ≠ y) : SQ (upI nm y x) cl N < SQ nm cl N := by
  have := cnN_lt (f := fun j => if nm j = j then 1 else 0) (g := fun j => if upI nm y x j = j then 1 else 0) (n := N) y0 y1 (by simp [hy]) (by simp [upI, hxy]) (fun j a b c => by simp [upI, c])
  unfold SQ
  omega
theorem SQ_set {nm cl : Int → Int} {N : Nat} {k v : Int} (k0 : 0 ≤ k) (k1 : k < 10 * (N : Int)) (hk : cl k = -2) (hv : v ≠ -2) : SQ nm (upI cl k v) N < SQ nm cl N := by
  have := cnN_lt (f := fun j => if cl j = -2 then 1 else 0) (g := fun j => if upI cl k v j = -2 then 1 else 0) (n := 10 * N) k0 (by push_cast; exact k1) (by simp [hk]) (by simp [upI, hv]) (fun j a b c => by simp [upI, c])
  unfold SQ
  omega
theorem SQ_pos {nm cl : Int → Int} {N : Nat} (h : nm 0 = 0) (hN : 0 < N) : 0 < SQ nm cl N := by
  have h1 : cnN (fun j => if nm j = j then 1 else 0) 1 = 1 := by simp [cnN, h]
  have h2 := cnN_le (f := fun j => if nm j = j then 1 else 0) (m := 1) (n := N) hN
  unfold SQ
  omega
def HQ (h : PH) (nm cl : Int → Int) : PH := sA (sA (sI h pMo 34 1) pMo_name nm) pMo_cells cl
def HF (h : PH) (nm cl lf S : Int → Int) : PH := sA (sA (HQ h nm cl) pMo_isLeft lf) pMo_state S
theorem HQ_I {h : PH} {nm cl : Int → Int} {b : Nat} {j : Int} : gI (HQ h nm cl) b j = if b = pMo_cells then cl j else if b = pMo_name then nm j else if b = pMo ∧ j = 34 then 1 else gI h b j := by
  simp only [HQ, gI_sA, gI_sI]
theorem HF_I {h : PH} {nm cl lf S : Int → Int} {b : Nat} {j : Int} : gI (HF h nm cl lf S) b j = if b = pMo_state then S j else if b = pMo_isLeft then lf j else if b = pMo_cells then cl j else if b = pMo_name then nm j else if b = pMo ∧ j = 34 then 1 else gI h b j := by
  simp only [HF, gI_sA, HQ_I]
theorem HQ_nm {h : PH} {nm cl : Int → Int} : gI (HQ h nm cl) pMo_name = nm := by funext j; simp (decide := true) [HQ_I]
theorem HQ_cl {h : PH} {nm cl : Int → Int} : gI (HQ h nm cl) pMo_cells = cl := by funext j; simp (decide := true) [HQ_I]
theorem HF_nm {h : PH} {nm cl lf S : Int → Int} : gI (HF h nm cl lf S) pMo_name = nm := by funext j; simp (decide := true) [HF_I]
theorem HQ_W {h : PH} {nm cl : Int → Int} (w : MW h) : MW (HQ h nm cl) := w
theorem HF_W {h : PH} {nm cl lf S : Int → Int} (w : MW h) : MW (HF h nm cl lf S) := w
/-- the left rows, as a set -/
def lfV (N : Nat) (lf : Int → Int) : Int → Prop := fun x => 0 ≤ x ∧ x < (N : Int) ∧ lf x ≠ 0
def Ct_Mo_quarrel : CtT := fun av h post => match av with
  | [.inr (.inl (some t)), .inl a, .inl b] => t = pMo ∧ MW h ∧ ∃ (N : Nat) (L : Int), gI h pMo_state 0 = N ∧ 0 < N ∧ N ≤ 2000 ∧ L = 2 * gI h pMo 0 ∧ 2 ≤ L ∧ L ≤ 10 ∧ lfV N (gI h pMo_isLeft) a ∧ lfV N (gI h pMo_isLeft) b ∧ a ≠ b ∧ TW L (lfV N (gI h pMo_isLeft)) (c2 (gI h pMo_cells)) ∧
      (0 ≤ gI h pMo_state 1 ∧ gI h pMo_state 1 ≤ 2000) ∧ (0 ≤ gI h pMo_state 3 ∧ gI h pMo_state 3 ≤ 1000000) ∧ (0 ≤ gI h pMo_state 10 ∧ gI h pMo_state 10 ≤ 1000000) ∧
      ∀ nm cl lf S : Int → Int, QR L (lfV N (gI h pMo_isLeft)) (c2 (gI h pMo_cells)) a b (lfV N lf) (c2 cl) → (∀ x, ¬ (0 ≤ x ∧ x < (N : Int)) → lf x = gI h pMo_isLeft x) → (∀ x, lf x = 0 ∨ lf x = gI h pMo_isLeft x) → (∀ r c, 0 ≤ c → c < 10 → L ≤ c → cl (10 * r + c) = gI h pMo_cells (10 * r + c)) →
        (∃ k : Int, k = cnN (gI h pMo_isLeft) N - cnN lf N ∧ ∀ j, S j = if j = 1 then gI h pMo_state 1 - k else if j = 3 then gI h pMo_state 3 + k else if j = 10 then gI h pMo_state 10 + k else gI h pMo_state j) → post none (HF h nm cl lf S)
  | _ => False
def B_Mo_quarrel_365 : TT := tt_vr
theorem S_Mo_quarrel_365 (lc lz : Nat) : Snd md_Mo_quarrel lc lz 365 (B_Mo_quarrel_365) := (snd_vr (dget dd_Mo_quarrel 203 rfl) rfl)
def B_Mo_quarrel_359 : TT := (tt_inc 4 1 (tt_cut 214))
theorem S_Mo_quarrel_359 (lc lz : Nat) : Snd md_Mo_quarrel lc lz 359 (B_Mo_quarrel_359) := (snd_inc (dget dd_Mo_quarrel 201 rfl) (snd_goto (tg := 214) (dget dd_Mo_quarrel 202 rfl) rfl snd_cut))
def B_Mo_quarrel_353 : TT := (tt_inc 5 1 (tt_cut 294))
theorem S_Mo_quarrel_353 (lc lz : Nat) : Snd md_Mo_quarrel lc lz 353 (B_Mo_quarrel_353) := (snd_inc (dget dd_Mo_quarrel 199 rfl) (snd_goto (tg := 294) (dget dd_Mo_quarrel 200 rfl) rfl snd_cut))
def B_Mo_quarrel_294 : TT := (tt_il 5 (tt_ci 2 (tt_al 0 (tt_gI 9 0 (tt_mul (tt_cge (B_Mo_quarrel_359) (tt_al 0 (tt_gR 9 23 (tt_ci 10 (tt_il 4 (tt_mul (tt_il 5 (tt_add (tt_ia (tt_ci (-2) (tt_ceq (B_Mo_quarrel_353) (tt_al 0 (tt_gR 9 23 (tt_ci 10 (tt_il 4 (tt_mul (tt_il 5 (tt_add (tt_al 0 (tt_al 0 (tt_gR 9 23 (tt_ci 10 (tt_il 4 (tt_mul (tt_il 5 (tt_add (tt_ia (tt_cV 9 2 Ct_Mo_nameOf (tt_iS (B_Mo_quarrel_353)))))))))))))))))))))))))))))))))))
theorem S_Mo_quarrel_294 (lc lz : Nat) : Snd md_Mo_quarrel lc lz 294 (B_Mo_quarrel_294) := (snd_il (dget dd_Mo_quarrel 165 rfl) (snd_iconst (n := 2) (dget dd_Mo_quarrel 166 rfl) (inR_d rfl) rfl (snd_al_n (n := 0) (dget dd_Mo_quarrel 167 rfl) rfl (snd_gI (kn := 0) fd_Mo_7 rfl (dget dd_Mo_quarrel 168 rfl) (snd_mul (dget dd_Mo_quarrel 169 rfl) (snd_cge (tg := 359) (dget dd_Mo_quarrel 170 rfl) rfl (S_Mo_quarrel_359 lc lz) (snd_al_n (n := 0) (dget dd_Mo_quarrel 171 rfl) rfl (snd_gR (kn := 23) fd_Mo_54 rfl (dget dd_Mo_quarrel 172 rfl) (snd_bipush (n := 10) (dget dd_Mo_quarrel 173 rfl) (inR_d rfl) (by decide) (snd_il (dget dd_Mo_quarrel 174 rfl) (snd_mul (dget dd_Mo_quarrel 175 rfl) (snd_il (dget dd_Mo_quarrel 176 rfl) (snd_add (dget dd_Mo_quarrel 177 rfl) (snd_ia (dget dd_Mo_quarrel 178 rfl) (snd_bipush (n := -2) (dget dd_Mo_quarrel 179 rfl) (inR_d rfl) (by decide) (snd_ceq (tg := 353) (dget dd_Mo_quarrel 180 rfl) rfl (S_Mo_quarrel_353 lc lz) (snd_al_n (n := 0) (dget dd_Mo_quarrel 181 rfl) rfl (snd_gR (kn := 23) fd_Mo_54 rfl (dget dd_Mo_quarrel 182 rfl) (snd_bipush (n := 10) (dget dd_Mo_quarrel 183 rfl) (inR_d rfl) (by decide) (snd_il (dget dd_Mo_quarrel 184 rfl) (snd_mul (dget dd_Mo_quarrel 185 rfl) (snd_il (dget dd_Mo_quarrel 186 rfl) (snd_add (dget dd_Mo_quarrel 187 rfl) (snd_al_n (n := 0) (dget dd_Mo_quarrel 188 rfl) rfl (snd_al_n (n := 0) (dget dd_Mo_quarrel 189 rfl) rfl (snd_gR (kn := 23) fd_Mo_54 rfl (dget dd_Mo_quarrel 190 rfl) (snd_bipush (n := 10) (dget dd_Mo_quarrel 191 rfl) (inR_d rfl) (by decide) (snd_il (dget dd_Mo_quarrel 192 rfl) (snd_mul (dget dd_Mo_quarrel 193 rfl) (snd_il (dget dd_Mo_quarrel 194 rfl) (snd_add (dget dd_Mo_quarrel 195 rfl) (snd_ia (dget dd_Mo_quarrel 196 rfl) (snd_cV (n := 1) met_Mo_nameOf mi_Mo_nameOf ki_Mo_nameOf kv_Mo_nameOf ml_Mo_240 rfl (by decide) (dget dd_Mo_quarrel 197 rfl) (snd_iS (dget dd_Mo_quarrel 198 rfl) (S_Mo_quarrel_353 lc lz)))))))))))))))))))))))))))))))))))
def B_Mo_quarrel_291 : TT := (tt_ci 0 (tt_is 5 (tt_cut 294)))
theorem S_Mo_quarrel_291 (lc lz : Nat) : Snd md_Mo_quarrel lc lz 291 (B_Mo_quarrel_291) := (snd_iconst (n := 0) (dget dd_Mo_quarrel 163 rfl) (inR_d rfl) rfl (snd_is (dget dd_Mo_quarrel 164 rfl) snd_cut))
def B_Mo_quarrel_238 : TT := (tt_al 0 (tt_il 4 (tt_cV 9 2 Ct_Mo_nameOf (tt_il 4 (tt_ceq (B_Mo_quarrel_291) (tt_al 0 (tt_gR 9 26 (tt_il 4 (tt_ci 0 (tt_zS (tt_al 0 (tt_gR 9 30 (tt_ci 1 (tt_dup2 (tt_ia (tt_ci 1 (tt_sub (tt_iS (tt_al 0 (tt_gR 9 30 (tt_ci 3 (tt_dup2 (tt_ia (tt_ci 1 (tt_add (tt_iS (tt_al 0 (tt_gR 9 30 (tt_ci 10 (tt_dup2 (tt_ia (tt_ci 1 (tt_add (tt_iS (B_Mo_quarrel_359)))))))))))))))))))))))))))))))))))
theorem S_Mo_quarrel_238 (lc lz : Nat) : Snd md_Mo_quarrel lc lz 238 (B_Mo_quarrel_238) := (snd_al_n (n := 0) (dget dd_Mo_quarrel 128 rfl) rfl (snd_il (dget dd_Mo_quarrel 129 rfl) (snd_cV (n := 1) met_Mo_nameOf mi_Mo_nameOf ki_Mo_nameOf kv_Mo_nameOf ml_Mo_240 rfl (by decide) (dget dd_Mo_quarrel 130 rfl) (snd_il (dget dd_Mo_quarrel 131 rfl) (snd_ceq (tg := 291) (dget dd_Mo_quarrel 132 rfl) rfl (S_Mo_quarrel_291 lc lz) (snd_al_n (n := 0) (dget dd_Mo_quarrel 133 rfl) rfl (snd_gR (kn := 26) fd_Mo_63 rfl (dget dd_Mo_quarrel 134 rfl) (snd_il (dget dd_Mo_quarrel 135 rfl) (snd_iconst (n := 0) (dget dd_Mo_quarrel 136 rfl) (inR_d rfl) rfl (snd_zS (dget dd_Mo_quarrel 137 rfl) (snd_al_n (n := 0) (dget dd_Mo_quarrel 138 rfl) rfl (snd_gR (kn := 30) fd_Mo_76 rfl (dget dd_Mo_quarrel 139 rfl) (snd_iconst (n := 1) (dget dd_Mo_quarrel 140 rfl) (inR_d rfl) rfl (snd_dup2 (dget dd_Mo_quarrel 141 rfl) (snd_ia (dget dd_Mo_quarrel 142 rfl) (snd_iconst (n := 1) (dget dd_Mo_quarrel 143 rfl) (inR_d rfl) rfl (snd_sub (dget dd_Mo_quarrel 144 rfl) (snd_iS (dget dd_Mo_quarrel 145 rfl) (snd_al_n (n := 0) (dget dd_Mo_quarrel 146 rfl) rfl (snd_gR (kn := 30) fd_Mo_76 rfl (dget dd_Mo_quarrel 147 rfl) (snd_iconst (n := 3) (dget dd_Mo_quarrel 148 rfl) (inR_d rfl) rfl (snd_dup2 (dget dd_Mo_quarrel 149 rfl) (snd_ia (dget dd_Mo_quarrel 150 rfl) (snd_iconst (n := 1) (dget dd_Mo_quarrel 151 rfl) (inR_d rfl) rfl (snd_add (dget dd_Mo_quarrel 152 rfl) (snd_iS (dget dd_Mo_quarrel 153 rfl) (snd_al_n (n := 0) (dget dd_Mo_quarrel 154 rfl) rfl (snd_gR (kn := 30) fd_Mo_76 rfl (dget dd_Mo_quarrel 155 rfl) (snd_bipush (n := 10) (dget dd_Mo_quarrel 156 rfl) (inR_d rfl) (by decide) (snd_dup2 (dget dd_Mo_quarrel 157 rfl) (snd_ia (dget dd_Mo_quarrel 158 rfl) (snd_iconst (n := 1) (dget dd_Mo_quarrel 159 rfl) (inR_d rfl) rfl (snd_add (dget dd_Mo_quarrel 160 rfl) (snd_iS (dget dd_Mo_quarrel 161 rfl) (snd_goto (tg := 359) (dget dd_Mo_quarrel 162 rfl) rfl (S_Mo_quarrel_359 lc lz))))))))))))))))))))))))))))))))))))
def B_Mo_quarrel_214 : TT := (tt_il 4 (tt_al 0 (tt_gR 9 30 (tt_ci 0 (tt_ia (tt_cge (B_Mo_quarrel_365) (tt_al 0 (tt_gR 9 26 (tt_il 4 (tt_za (tt_zne (B_Mo_quarrel_238) (B_Mo_quarrel_359))))))))))))
theorem S_Mo_quarrel_214 (lc lz : Nat) : Snd md_Mo_quarrel lc lz 214 (B_Mo_quarrel_214) := (snd_il (dget dd_Mo_quarrel 116 rfl) (snd_al_n (n := 0) (dget dd_Mo_quarrel 117 rfl) rfl (snd_gR (kn := 30) fd_Mo_76 rfl (dget dd_Mo_quarrel 118 rfl) (snd_iconst (n := 0) (dget dd_Mo_quarrel 119 rfl) (inR_d rfl) rfl (snd_ia (dget dd_Mo_quarrel 120 rfl) (snd_cge (tg := 365) (dget dd_Mo_quarrel 121 rfl) rfl (S_Mo_quarrel_365 lc lz) (snd_al_n (n := 0) (dget dd_Mo_quarrel 122 rfl) rfl (snd_gR (kn := 26) fd_Mo_63 rfl (dget dd_Mo_quarrel 123 rfl) (snd_il (dget dd_Mo_quarrel 124 rfl) (snd_za (dget dd_Mo_quarrel 125 rfl) (snd_zne (tg := 238) (dget dd_Mo_quarrel 126 rfl) rfl (S_Mo_quarrel_238 lc lz) (snd_goto (tg := 359) (dget dd_Mo_quarrel 127 rfl) rfl (S_Mo_quarrel_359 lc lz)))))))))))))
def B_Mo_quarrel_211 : TT := (tt_ci 0 (tt_is 4 (tt_cut 214)))
theorem S_Mo_quarrel_211 (lc lz : Nat) : Snd md_Mo_quarrel lc lz 211 (B_Mo_quarrel_211) := (snd_iconst (n := 0) (dget dd_Mo_quarrel 114 rfl) (inR_d rfl) rfl (snd_is (dget dd_Mo_quarrel 115 rfl) snd_cut))
def B_Mo_quarrel_208 : TT := (tt_cut 38)
theorem S_Mo_quarrel_208 (lc lz : Nat) : Snd md_Mo_quarrel lc lz 208 (B_Mo_quarrel_208) := (snd_goto (tg := 38) (dget dd_Mo_quarrel 113 rfl) rfl snd_cut)
def B_Mo_quarrel_202 : TT := (tt_inc 4 1 (tt_cut 47))
theorem S_Mo_quarrel_202 (lc lz : Nat) : Snd md_Mo_quarrel lc lz 202 (B_Mo_quarrel_202) := (snd_inc (dget dd_Mo_quarrel 111 rfl) (snd_goto (tg := 47) (dget dd_Mo_quarrel 112 rfl) rfl snd_cut))
def B_Mo_quarrel_196 : TT := (tt_inc 5 1 (tt_cut 85))
theorem S_Mo_quarrel_196 (lc lz : Nat) : Snd md_Mo_quarrel lc lz 196 (B_Mo_quarrel_196) := (snd_inc (dget dd_Mo_quarrel 109 rfl) (snd_goto (tg := 85) (dget dd_Mo_quarrel 110 rfl) rfl snd_cut))
def B_Mo_quarrel_171 : TT := (tt_al 0 (tt_il 6 (tt_cV 9 2 Ct_Mo_nameOf (tt_al 0 (tt_il 8 (tt_cV 9 2 Ct_Mo_nameOf (tt_ceq (B_Mo_quarrel_196) (tt_al 0 (tt_il 6 (tt_il 8 (tt_cV 9 3 Ct_Mo_join (tt_ci 1 (tt_is 3 (B_Mo_quarrel_196))))))))))))))
theorem S_Mo_quarrel_171 (lc lz : Nat) : Snd md_Mo_quarrel lc lz 171 (B_Mo_quarrel_171) := (snd_al_n (n := 0) (dget dd_Mo_quarrel 96 rfl) rfl (snd_il (dget dd_Mo_quarrel 97 rfl) (snd_cV (n := 1) met_Mo_nameOf mi_Mo_nameOf ki_Mo_nameOf kv_Mo_nameOf ml_Mo_240 rfl (by decide) (dget dd_Mo_quarrel 98 rfl) (snd_al_n (n := 0) (dget dd_Mo_quarrel 99 rfl) rfl (snd_il (dget dd_Mo_quarrel 100 rfl) (snd_cV (n := 1) met_Mo_nameOf mi_Mo_nameOf ki_Mo_nameOf kv_Mo_nameOf ml_Mo_240 rfl (by decide) (dget dd_Mo_quarrel 101 rfl) (snd_ceq (tg := 196) (dget dd_Mo_quarrel 102 rfl) rfl (S_Mo_quarrel_196 lc lz) (snd_al_n (n := 0) (dget dd_Mo_quarrel 103 rfl) rfl (snd_il (dget dd_Mo_quarrel 104 rfl) (snd_il (dget dd_Mo_quarrel 105 rfl) (snd_cV (n := 2) met_Mo_join mi_Mo_join ki_Mo_join kv_Mo_join ml_Mo_237 rfl (by decide) (dget dd_Mo_quarrel 106 rfl) (snd_iconst (n := 1) (dget dd_Mo_quarrel 107 rfl) (inR_d rfl) rfl (snd_is_n (n := 3) (dget dd_Mo_quarrel 108 rfl) rfl (S_Mo_quarrel_196 lc lz))))))))))))))
def B_Mo_quarrel_121 : TT := (tt_al 0 (tt_il 4 (tt_cV 9 2 Ct_Mo_nameOf (tt_is 7 (tt_al 0 (tt_gR 9 23 (tt_ci 10 (tt_il 7 (tt_mul (tt_il 5 (tt_add (tt_ia (tt_is 8 (tt_il 8 (tt_ci (-2) (tt_cne (B_Mo_quarrel_171) (tt_al 0 (tt_gR 9 23 (tt_ci 10 (tt_il 7 (tt_mul (tt_il 5 (tt_add (tt_il 6 (tt_iS (tt_ci 1 (tt_is 3 (B_Mo_quarrel_196))))))))))))))))))))))))))))
theorem S_Mo_quarrel_121 (lc lz : Nat) : Snd md_Mo_quarrel lc lz 121 (B_Mo_quarrel_121) := (snd_al_n (n := 0) (dget dd_Mo_quarrel 68 rfl) rfl (snd_il (dget dd_Mo_quarrel 69 rfl) (snd_cV (n := 1) met_Mo_nameOf mi_Mo_nameOf ki_Mo_nameOf kv_Mo_nameOf ml_Mo_240 rfl (by decide) (dget dd_Mo_quarrel 70 rfl) (snd_is (dget dd_Mo_quarrel 71 rfl) (snd_al_n (n := 0) (dget dd_Mo_quarrel 72 rfl) rfl (snd_gR (kn := 23) fd_Mo_54 rfl (dget dd_Mo_quarrel 73 rfl) (snd_bipush (n := 10) (dget dd_Mo_quarrel 74 rfl) (inR_d rfl) (by decide) (snd_il (dget dd_Mo_quarrel 75 rfl) (snd_mul (dget dd_Mo_quarrel 76 rfl) (snd_il (dget dd_Mo_quarrel 77 rfl) (snd_add (dget dd_Mo_quarrel 78 rfl) (snd_ia (dget dd_Mo_quarrel 79 rfl) (snd_is (dget dd_Mo_quarrel 80 rfl) (snd_il (dget dd_Mo_quarrel 81 rfl) (snd_bipush (n := -2) (dget dd_Mo_quarrel 82 rfl) (inR_d rfl) (by decide) (snd_cne (tg := 171) (dget dd_Mo_quarrel 83 rfl) rfl (S_Mo_quarrel_171 lc lz) (snd_al_n (n := 0) (dget dd_Mo_quarrel 84 rfl) rfl (snd_gR (kn := 23) fd_Mo_54 rfl (dget dd_Mo_quarrel 85 rfl) (snd_bipush (n := 10) (dget dd_Mo_quarrel 86 rfl) (inR_d rfl) (by decide) (snd_il (dget dd_Mo_quarrel 87 rfl) (snd_mul (dget dd_Mo_quarrel 88 rfl) (snd_il (dget dd_Mo_quarrel 89 rfl) (snd_add (dget dd_Mo_quarrel 90 rfl) (snd_il (dget dd_Mo_quarrel 91 rfl) (snd_iS (dget dd_Mo_quarrel 92 rfl) (snd_iconst (n := 1) (dget dd_Mo_quarrel 93 rfl) (inR_d rfl) rfl (snd_is_n (n := 3) (dget dd_Mo_quarrel 94 rfl) rfl (snd_goto (tg := 196) (dget dd_Mo_quarrel 95 rfl) rfl (S_Mo_quarrel_196 lc lz)))))))))))))))))))))))))))))
def B_Mo_quarrel_85 : TT := (tt_il 5 (tt_ci 2 (tt_al 0 (tt_gI 9 0 (tt_mul (tt_cge (B_Mo_quarrel_202) (tt_al 0 (tt_gR 9 23 (tt_ci 10 (tt_il 4 (tt_mul (tt_il 5 (tt_add (tt_ia (tt_is 6 (tt_il 6 (tt_ci (-2) (tt_cne (B_Mo_quarrel_121) (B_Mo_quarrel_196)))))))))))))))))))
theorem S_Mo_quarrel_85 (lc lz : Nat) : Snd md_Mo_quarrel lc lz 85 (B_Mo_quarrel_85) := (snd_il (dget dd_Mo_quarrel 49 rfl) (snd_iconst (n := 2) (dget dd_Mo_quarrel 50 rfl) (inR_d rfl) rfl (snd_al_n (n := 0) (dget dd_Mo_quarrel 51 rfl) rfl (snd_gI (kn := 0) fd_Mo_7 rfl (dget dd_Mo_quarrel 52 rfl) (snd_mul (dget dd_Mo_quarrel 53 rfl) (snd_cge (tg := 202) (dget dd_Mo_quarrel 54 rfl) rfl (S_Mo_quarrel_202 lc lz) (snd_al_n (n := 0) (dget dd_Mo_quarrel 55 rfl) rfl (snd_gR (kn := 23) fd_Mo_54 rfl (dget dd_Mo_quarrel 56 rfl) (snd_bipush (n := 10) (dget dd_Mo_quarrel 57 rfl) (inR_d rfl) (by decide) (snd_il (dget dd_Mo_quarrel 58 rfl) (snd_mul (dget dd_Mo_quarrel 59 rfl) (snd_il (dget dd_Mo_quarrel 60 rfl) (snd_add (dget dd_Mo_quarrel 61 rfl) (snd_ia (dget dd_Mo_quarrel 62 rfl) (snd_is (dget dd_Mo_quarrel 63 rfl) (snd_il (dget dd_Mo_quarrel 64 rfl) (snd_bipush (n := -2) (dget dd_Mo_quarrel 65 rfl) (inR_d rfl) (by decide) (snd_cne (tg := 121) (dget dd_Mo_quarrel 66 rfl) rfl (S_Mo_quarrel_121 lc lz) (snd_goto (tg := 196) (dget dd_Mo_quarrel 67 rfl) rfl (S_Mo_quarrel_196 lc lz))))))))))))))))))))
def B_Mo_quarrel_82 : TT := (tt_ci 0 (tt_is 5 (tt_cut 85)))
theorem S_Mo_quarrel_82 (lc lz : Nat) : Snd md_Mo_quarrel lc lz 82 (B_Mo_quarrel_82) := (snd_iconst (n := 0) (dget dd_Mo_quarrel 47 rfl) (inR_d rfl) rfl (snd_is (dget dd_Mo_quarrel 48 rfl) snd_cut))
def B_Mo_quarrel_47 : TT := (tt_il 4 (tt_al 0 (tt_gR 9 30 (tt_ci 0 (tt_ia (tt_cge (B_Mo_quarrel_208) (tt_al 0 (tt_gR 9 26 (tt_il 4 (tt_za (tt_zeq (B_Mo_quarrel_202) (tt_al 0 (tt_il 4 (tt_cV 9 2 Ct_Mo_nameOf (tt_il 4 (tt_cne (B_Mo_quarrel_82) (B_Mo_quarrel_202)))))))))))))))))
theorem S_Mo_quarrel_47 (lc lz : Nat) : Snd md_Mo_quarrel lc lz 47 (B_Mo_quarrel_47) := (snd_il (dget dd_Mo_quarrel 30 rfl) (snd_al_n (n := 0) (dget dd_Mo_quarrel 31 rfl) rfl (snd_gR (kn := 30) fd_Mo_76 rfl (dget dd_Mo_quarrel 32 rfl) (snd_iconst (n := 0) (dget dd_Mo_quarrel 33 rfl) (inR_d rfl) rfl (snd_ia (dget dd_Mo_quarrel 34 rfl) (snd_cge (tg := 208) (dget dd_Mo_quarrel 35 rfl) rfl (S_Mo_quarrel_208 lc lz) (snd_al_n (n := 0) (dget dd_Mo_quarrel 36 rfl) rfl (snd_gR (kn := 26) fd_Mo_63 rfl (dget dd_Mo_quarrel 37 rfl) (snd_il (dget dd_Mo_quarrel 38 rfl) (snd_za (dget dd_Mo_quarrel 39 rfl) (snd_zeq (tg := 202) (dget dd_Mo_quarrel 40 rfl) rfl (S_Mo_quarrel_202 lc lz) (snd_al_n (n := 0) (dget dd_Mo_quarrel 41 rfl) rfl (snd_il (dget dd_Mo_quarrel 42 rfl) (snd_cV (n := 1) met_Mo_nameOf mi_Mo_nameOf ki_Mo_nameOf kv_Mo_nameOf ml_Mo_240 rfl (by decide) (dget dd_Mo_quarrel 43 rfl) (snd_il (dget dd_Mo_quarrel 44 rfl) (snd_cne (tg := 82) (dget dd_Mo_quarrel 45 rfl) rfl (S_Mo_quarrel_82 lc lz) (snd_goto (tg := 202) (dget dd_Mo_quarrel 46 rfl) rfl (S_Mo_quarrel_202 lc lz))))))))))))))))))
def B_Mo_quarrel_38 : TT := (tt_il 3 (tt_zeq (B_Mo_quarrel_211) (tt_ci 0 (tt_is 3 (tt_ci 0 (tt_is 4 (tt_cut 47)))))))
theorem S_Mo_quarrel_38 (lc lz : Nat) : Snd md_Mo_quarrel lc lz 38 (B_Mo_quarrel_38) := (snd_il_n (n := 3) (dget dd_Mo_quarrel 24 rfl) rfl (snd_zeq (tg := 211) (dget dd_Mo_quarrel 25 rfl) rfl (S_Mo_quarrel_211 lc lz) (snd_iconst (n := 0) (dget dd_Mo_quarrel 26 rfl) (inR_d rfl) rfl (snd_is_n (n := 3) (dget dd_Mo_quarrel 27 rfl) rfl (snd_iconst (n := 0) (dget dd_Mo_quarrel 28 rfl) (inR_d rfl) rfl (snd_is (dget dd_Mo_quarrel 29 rfl) snd_cut))))))
def B_Mo_quarrel_30 : TT := (tt_al 0 (tt_il 1 (tt_il 2 (tt_cV 9 3 Ct_Mo_join (tt_ci 1 (tt_is 3 (tt_cut 38)))))))
theorem S_Mo_quarrel_30 (lc lz : Nat) : Snd md_Mo_quarrel lc lz 30 (B_Mo_quarrel_30) := (snd_al_n (n := 0) (dget dd_Mo_quarrel 18 rfl) rfl (snd_il_n (n := 1) (dget dd_Mo_quarrel 19 rfl) rfl (snd_il_n (n := 2) (dget dd_Mo_quarrel 20 rfl) rfl (snd_cV (n := 2) met_Mo_join mi_Mo_join ki_Mo_join kv_Mo_join ml_Mo_237 rfl (by decide) (dget dd_Mo_quarrel 21 rfl) (snd_iconst (n := 1) (dget dd_Mo_quarrel 22 rfl) (inR_d rfl) rfl (snd_is_n (n := 3) (dget dd_Mo_quarrel 23 rfl) rfl snd_cut))))))
def B_Mo_quarrel_7 : TT := (tt_il 3 (tt_al 0 (tt_gR 9 30 (tt_ci 0 (tt_ia (tt_cge (B_Mo_quarrel_30) (tt_al 0 (tt_gR 9 25 (tt_il 3 (tt_il 3 (tt_iS (tt_inc 3 1 (tt_cut 7)))))))))))))
theorem S_Mo_quarrel_7 (lc lz : Nat) : Snd md_Mo_quarrel lc lz 7 (B_Mo_quarrel_7) := (snd_il_n (n := 3) (dget dd_Mo_quarrel 5 rfl) rfl (snd_al_n (n := 0) (dget dd_Mo_quarrel 6 rfl) rfl (snd_gR (kn := 30) fd_Mo_76 rfl (dget dd_Mo_quarrel 7 rfl) (snd_iconst (n := 0) (dget dd_Mo_quarrel 8 rfl) (inR_d rfl) rfl (snd_ia (dget dd_Mo_quarrel 9 rfl) (snd_cge (tg := 30) (dget dd_Mo_quarrel 10 rfl) rfl (S_Mo_quarrel_30 lc lz) (snd_al_n (n := 0) (dget dd_Mo_quarrel 11 rfl) rfl (snd_gR (kn := 25) fd_Mo_60 rfl (dget dd_Mo_quarrel 12 rfl) (snd_il_n (n := 3) (dget dd_Mo_quarrel 13 rfl) rfl (snd_il_n (n := 3) (dget dd_Mo_quarrel 14 rfl) rfl (snd_iS (dget dd_Mo_quarrel 15 rfl) (snd_inc (dget dd_Mo_quarrel 16 rfl) (snd_goto (tg := 7) (dget dd_Mo_quarrel 17 rfl) rfl snd_cut)))))))))))))
def B_Mo_quarrel_0 : TT := (tt_al 0 (tt_ci 1 (tt_pZ 9 34 (tt_ci 0 (tt_is 3 (tt_cut 7))))))
theorem S_Mo_quarrel_0 (lc lz : Nat) : Snd md_Mo_quarrel lc lz 0 (B_Mo_quarrel_0) := (snd_al_n (n := 0) (dget dd_Mo_quarrel 0 rfl) rfl (snd_iconst (n := 1) (dget dd_Mo_quarrel 1 rfl) (inR_d rfl) rfl (snd_pZ (kn := 34) fd_Mo_234 rfl (dget dd_Mo_quarrel 2 rfl) (snd_iconst (n := 0) (dget dd_Mo_quarrel 3 rfl) (inR_d rfl) rfl (snd_is_n (n := 3) (dget dd_Mo_quarrel 4 rfl) rfl snd_cut)))))
theorem HQ_0 {h : PH} {nm : Int → Int} : HQ h nm (gI h pMo_cells) = sA (sI h pMo 34 1) pMo_name nm := by
  refine PH_ext (fun b j => ?_) (fun _ _ => rfl) rfl rfl rfl
  simp only [HQ_I, gI_sA, gI_sI]
  by_cases e : b = pMo_cells
  · subst e; simp (decide := true)
  · rw [if_neg e]
theorem HQ_sc {h : PH} {nm cl : Int → Int} {k v : Int} : sI (HQ h nm cl) pMo_cells k v = HQ h nm (upI cl k v) := by unfold HQ; rw [sI_sA]
theorem HQ_sn {h : PH} {nm cl : Int → Int} {k v : Int} : sI (HQ h nm cl) pMo_name k v = HQ h (upI nm k v) cl := by
  refine PH_ext (fun b j => ?_) (fun _ _ => rfl) rfl rfl rfl
  simp only [gI_sI, HQ_I, upI]
  by_cases e : b = pMo_cells
  · subst e; simp (decide := true)
  · by_cases e2 : b = pMo_name
    · subst e2; simp (decide := true)
    · simp (decide := true) only [e, e2, false_and, if_false]
theorem HF_0 {h : PH} {nm cl : Int → Int} : HQ h nm cl = HF h nm cl (gI h pMo_isLeft) (gI h pMo_state) := by
  refine PH_ext (fun b j => ?_) (fun _ _ => rfl) rfl rfl rfl
  simp only [HF_I, HQ_I]
  by_cases e : b = pMo_state
  · subst e; simp (decide := true)
  · by_cases e2 : b = pMo_isLeft
    · subst e2; simp (decide := true)
    · simp (decide := true) only [e, e2, if_false]
theorem QR_congr {L : Int} {V : Int → Prop} {E : Int → Int → Int} {a b : Int} {V1 V2 : Int → Prop} {E1 E2 : Int → Int → Int} (hV : ∀ r, V1 r ↔ V2 r) (hE : ∀ r c, V1 r → 0 ≤ c → c < L → E1 r c = E2 r c) (h : QR L V E a b V1 E1) : QR L V E a b V2 E2 := by
  obtain ⟨ρ, h1, h2, h3, h4, h5, h6⟩ := h
  refine ⟨ρ, fun r hr => ⟨(hV _).mp (h1 r hr).1, (h1 r hr).2⟩, fun r hr => h2 r ((hV r).mpr hr), h3, fun r c hr c0 c1 hne => ?_, fun r c hr c0 c1 hne => ?_, h6⟩
  · rw [← hE _ c (h1 r hr).1 c0 c1]; exact h4 r c hr c0 c1 hne
  · have hr1 := (hV r).mpr hr
    rw [← hE r c hr1 c0 c1] at hne ⊢
    exact h5 r c hr1 c0 c1 hne
theorem HF_sl {h : PH} {nm cl lf S : Int → Int} {k v : Int} : sI (HF h nm cl lf S) pMo_isLeft k v = HF h nm cl (upI lf k v) S := by
  refine PH_ext (fun b j => ?_) (fun _ _ => rfl) rfl rfl rfl
  simp only [gI_sI, HF_I, upI]
  by_cases e : b = pMo_state
  · subst e; simp (decide := true)
  · by_cases e2 : b = pMo_isLeft
    · subst e2; simp (decide := true)
    · simp (decide := true) only [e, e2, false_and, if_false]
theorem HF_ss {h : PH} {nm cl lf S : Int → Int} {k v : Int} : sI (HF h nm cl lf S) pMo_state k v = HF h nm cl lf (upI S k v) := by unfold HF; rw [sI_sA]
theorem HF_sc {h : PH} {nm cl lf S : Int → Int} {k v : Int} : sI (HF h nm cl lf S) pMo_cells k v = HF h nm (upI cl k v) lf S := by
  refine PH_ext (fun b j => ?_) (fun _ _ => rfl) rfl rfl rfl
  simp only [gI_sI, HF_I, upI]
  by_cases e : b = pMo_state
  · subst e; simp (decide := true)
  · by_cases e2 : b = pMo_isLeft
    · subst e2; simp (decide := true)
    · by_cases e3 : b = pMo_cells
      · subst e3; simp (decide := true)
      · simp (decide := true) only [e, e2, e3, false_and, if_false]
theorem cnN_one {f g : Int → Int} {n : Nat} {k : Int} (h0 : 0 ≤ k) (h1 : k < n) (hf : f k ≠ 0) (hg : g k = 0) (h : ∀ j, 0 ≤ j → j < (n : Int) → j ≠ k → (f j ≠ 0 ↔ g j ≠ 0)) : cnN f n = cnN g n + 1 := by
  induction n with
  | zero => omega
  | succ n ih =>
    show cnN f n + (if f n ≠ 0 then 1 else 0) = cnN g n + (if g n ≠ 0 then 1 else 0) + 1
    by_cases e : k = n
    · have := cnN_same (f := f) (g := g) (n := n) (fun j a b => h j a (by omega) (by omega))
      rw [this, ← e, if_pos hf, if_neg (by rw [hg]; simp)]
    · have := ih (by omega) (fun j a b c => h j a (by omega) c)
      have q := h n (by omega) (by omega) (fun z => e z.symm)
      by_cases z : f n ≠ 0
      · rw [if_pos z, if_pos (q.mp z)]; omega
      · rw [if_neg z, if_neg (fun y => z (q.mpr y))]; omega
def lfF (nm lf : Int → Int) (r : Int) : Int → Int := fun x => if 0 ≤ x ∧ x < r ∧ nm x ≠ x then 0 else lf x
noncomputable def clF (L : Int) (N : Nat) (lf nm cl : Int → Int) (r d : Int) : Int → Int := fun j => if j % 10 < L ∧ cl j ≠ -2 ∧ nm (j / 10) = j / 10 ∧ 0 ≤ j / 10 ∧ j / 10 < (N : Int) ∧ lf (j / 10) ≠ 0 ∧ (j / 10 < r ∨ (j / 10 = r ∧ j % 10 < d)) then root nm (cl j) else cl j
def Sf (S : Int → Int) (k : Int) : Int → Int := fun j => if j = 1 then S 1 - k else if j = 3 then S 3 + k else if j = 10 then S 10 + k else S j
def kq (N : Nat) (nm lf : Int → Int) (r : Int) : Int := cnN lf N - cnN (lfF nm lf r) N
theorem kq_in {N : Nat} {nm lf : Int → Int} {r : Int} : -(N : Int) ≤ kq N nm lf r ∧ kq N nm lf r ≤ N := by
  have a := cnN_bound lf N
  have b := cnN_bound (lfF nm lf r) N
  unfold kq
  omega
theorem HF_R {h : PH} {nm cl lf S : Int → Int} {b : Nat} {k : Int} : gR (HF h nm cl lf S) b k = gR h b k := rfl
theorem HF_O {h : PH} {nm cl lf S : Int → Int} {b ci : Nat} : isO (HF h nm cl lf S) b ci ↔ isO h b ci := Iff.rfl
theorem HF_A {h : PH} {nm cl lf S : Int → Int} {b t : Nat} : isAr (HF h nm cl lf S) b t ↔ isAr h b t := Iff.rfl
theorem HF_M {h : PH} {nm cl lf S : Int → Int} : MW (HF h nm cl lf S) ↔ MW h := Iff.rfl
theorem HF_C {h : PH} {nm cl lf S : Int → Int} : hC (HF h nm cl lf S) = hC h := rfl
theorem HF_Z {h : PH} {nm cl lf S : Int → Int} : hZ (HF h nm cl lf S) = hZ h := rfl
theorem upI_ne {f : Int → Int} {k v j : Int} (h : j ≠ k) : upI f k v j = f j := if_neg h
theorem upI_eq {f : Int → Int} {k v : Int} : upI f k v k = v := if_pos rfl
theorem clF_skip {L : Int} {N : Nat} {lf nm cl : Int → Int} {r : Int} (h : ¬ (nm r = r ∧ lf r ≠ 0)) : clF L N lf nm cl (r + 1) 0 = clF L N lf nm cl r 0 := by
  funext j
  have hj : 0 ≤ j % 10 := Int.emod_nonneg j (by decide)
  unfold clF
  by_cases e : j / 10 = r
  · rw [if_neg, if_neg]
    · rintro ⟨-, -, -, -, -, -, z⟩; omega
    · rintro ⟨-, -, z1, -, -, z2, -⟩; rw [e] at z1 z2; exact h ⟨z1, z2⟩
  · have hc : (j / 10 < r + 1 ∨ j / 10 = r + 1 ∧ j % 10 < 0) ↔ (j / 10 < r ∨ j / 10 = r ∧ j % 10 < 0) := by omega
    simp only [hc]
theorem clF_row {L : Int} {N : Nat} {lf nm cl : Int → Int} {r c : Int} (h : L ≤ c) : clF L N lf nm cl (r + 1) 0 = clF L N lf nm cl r c := by
  funext j
  have hj : 0 ≤ j % 10 := Int.emod_nonneg j (by decide)
  unfold clF
  by_cases hL : j % 10 < L
  · have hc : (j / 10 < r + 1 ∨ j / 10 = r + 1 ∧ j % 10 < 0) ↔ (j / 10 < r ∨ j / 10 = r ∧ j % 10 < c) := by omega
    simp only [hc]
  · rw [if_neg (fun z => hL z.1), if_neg (fun z => hL z.1)]
theorem clF_at {L : Int} {N : Nat} {lf nm cl : Int → Int} {r c : Int} (c0 : 0 ≤ c) (c1 : c < 10) : clF L N lf nm cl r c (10 * r + c) = cl (10 * r + c) := by
  unfold clF
  rw [if_neg]
  rintro ⟨-, -, -, -, -, -, z⟩
  omega
theorem clF_next {L : Int} {N : Nat} {lf nm cl : Int → Int} {r c : Int} (c0 : 0 ≤ c) (c1 : c < L) (hL : L ≤ 10) (r0 : 0 ≤ r) (r1 : r < N) (h1 : nm r = r) (h2 : lf r ≠ 0) : clF L N lf nm cl r (c + 1) = if cl (10 * r + c) = -2 then clF L N lf nm cl r c else upI (clF L N lf nm cl r c) (10 * r + c) (root nm (cl (10 * r + c))) := by
  funext j
  have hj : 0 ≤ j % 10 ∧ j % 10 < 10 := ⟨Int.emod_nonneg j (by decide), Int.emod_lt_of_pos j (by decide)⟩
  by_cases e : j = 10 * r + c
  · subst e
    have d1 : (10 * r + c) / 10 = r := by omega
    have d2 : (10 * r + c) % 10 = c := by omega
    by_cases q : cl (10 * r + c) = -2
    · rw [if_pos q]
      unfold clF
      rw [if_neg (fun z => z.2.1 q), if_neg (fun z => z.2.1 q)]
    · rw [if_neg q, upI_eq]
      unfold clF
      rw [d1, d2, if_pos ⟨c1, q, h1, r0, r1, h2, Or.inr ⟨rfl, by omega⟩⟩]
  · have hc : (j / 10 < r ∨ j / 10 = r ∧ j % 10 < c + 1) ↔ (j / 10 < r ∨ j / 10 = r ∧ j % 10 < c) := by omega
    have g : clF L N lf nm cl r (c + 1) j = clF L N lf nm cl r c j := by unfold clF; simp only [hc]
    rw [g]
    split
    · rfl
    · rw [upI_ne e]
def muQ (N : Nat) (pc : Nat) (ls : LSt) (h' : PH) : Nat :=
  if pc = 7 then 2000000000 + (2000 - locI ls 3).toNat
  else if pc = 38 then (2 * SQ (gI h' pMo_name) (gI h' pMo_cells) N + (locI ls 3).toNat) * 30000
  else if pc = 47 then (2 * SQ (gI h' pMo_name) (gI h' pMo_cells) N + (locI ls 3).toNat) * 30000 + (24001 - 12 * locI ls 4).toNat
  else if pc = 85 then (2 * SQ (gI h' pMo_name) (gI h' pMo_cells) N + (locI ls 3).toNat) * 30000 + (24000 - 12 * locI ls 4 - locI ls 5).toNat
  else if pc = 214 then (24001 - 12 * locI ls 4).toNat
  else (24000 - 12 * locI ls 4 - locI ls 5).toNat
/-- a pass found nothing in rows below r -/
def PCr (L : Int) (V : Int → Prop) (nm : Int → Int) (E : Int → Int → Int) (r : Int) : Prop := ∀ x c, V x → x < r → 0 ≤ c → c < L → E x c ≠ -2 → E (root nm x) c ≠ -2 ∧ root nm (E (root nm x) c) = root nm (E x c)
def PCc (L : Int) (nm : Int → Int) (E : Int → Int → Int) (r d : Int) : Prop := ∀ c, 0 ≤ c → c < d → E r c ≠ -2 → E (root nm r) c ≠ -2 ∧ root nm (E (root nm r) c) = root nm (E r c)
theorem SQ_le (nm cl : Int → Int) (N : Nat) : SQ nm cl N ≤ 11 * N := by
  have := cnN_bound (fun j => if nm j = j then 1 else 0) N
  have := cnN_bound (fun j => if cl j = -2 then 1 else 0) (10 * N)
  unfold SQ
  omega
theorem muQ_7 {N : Nat} {ls : LSt} {h' : PH} : muQ N 7 ls h' = 2000000000 + (2000 - locI ls 3).toNat := if_pos rfl
theorem muQ_38 {N : Nat} {ls : LSt} {h' : PH} : muQ N 38 ls h' = (2 * SQ (gI h' pMo_name) (gI h' pMo_cells) N + (locI ls 3).toNat) * 30000 := rfl
theorem muQ_47 {N : Nat} {ls : LSt} {h' : PH} : muQ N 47 ls h' = (2 * SQ (gI h' pMo_name) (gI h' pMo_cells) N + (locI ls 3).toNat) * 30000 + (24001 - 12 * locI ls 4).toNat := rfl
theorem muQ_85 {N : Nat} {ls : LSt} {h' : PH} : muQ N 85 ls h' = (2 * SQ (gI h' pMo_name) (gI h' pMo_cells) N + (locI ls 3).toNat) * 30000 + (24000 - 12 * locI ls 4 - locI ls 5).toNat := rfl
theorem muQ_214 {N : Nat} {ls : LSt} {h' : PH} : muQ N 214 ls h' = (24001 - 12 * locI ls 4).toNat := rfl
theorem muQ_294 {N : Nat} {ls : LSt} {h' : PH} : muQ N 294 ls h' = (24000 - 12 * locI ls 4 - locI ls 5).toNat := rfl
theorem met_Mo_quarrel : MetP y_Mo_quarrel md_Mo_quarrel (fun _ => 0) (fun _ => 0) Ct_Mo_quarrel := by
  refine metL6 (body := B_Mo_quarrel_0) (B1 := B_Mo_quarrel_7) (B2 := B_Mo_quarrel_38) (B3 := B_Mo_quarrel_47) (B4 := B_Mo_quarrel_85) (B5 := B_Mo_quarrel_214) (B6 := B_Mo_quarrel_294) (by decide) rfl rfl (fun lc lz => S_Mo_quarrel_0 lc lz) (fun lc lz => S_Mo_quarrel_7 lc lz) (fun lc lz => S_Mo_quarrel_38 lc lz) (fun lc lz => S_Mo_quarrel_47 lc lz) (fun lc lz => S_Mo_quarrel_85 lc lz) (fun lc lz => S_Mo_quarrel_214 lc lz) (fun lc lz => S_Mo_quarrel_294 lc lz) (by decide) ?_
  intro av h post hc hH hav
  unfold Ct_Mo_quarrel at hc
  split at hc
  rotate_left
  · exact hc.elim
  rename_i t a b
  obtain ⟨rfl, w, N, L, hN, hN0, hN1, hL, hL1, hL2, ha, hb, hab, hT, s1, s3, s10, hp⟩ := hc
  refine ⟨Nat.le_of_ble_eq_true rfl, ?_⟩
  have hL0 : L % 2 = 0 := by omega
  have vb : ∀ x, lfV N (gI h pMo_isLeft) x → 0 ≤ x ∧ x < (N : Int) := fun x q => ⟨q.1, q.2.1⟩
  have hE : ∀ r c, (lfV N (gI h pMo_isLeft)) r → 0 ≤ c → c < L → (c2 (gI h pMo_cells)) r c ≠ -2 → (lfV N (gI h pMo_isLeft)) ((c2 (gI h pMo_cells)) r c) := fun r c hr h0 h1 hne => ((hT.2.2 r c hr h0 h1).resolve_left hne).1
  obtain ⟨mu, hmu⟩ : ∃ mu, mu = muQ N := ⟨_, rfl⟩
  refine ⟨
    fun ls h' => ∃ k : Nat, ls = [some (.inr (.inl (some pMo))), some (.inl a), some (.inl b), some (.inl k), none, none, none, none, none] ∧ k ≤ N ∧ h' = sA (sI h pMo 34 1) pMo_name (fun j => if 0 ≤ j ∧ j < (k : Int) then j else gI h pMo_name j),
    fun ls h' => ∃ (m : Int) (nm cl : Int → Int) (x4 x5 x6 x7 x8 : Option PV), ls = [some (.inr (.inl (some pMo))), some (.inl a), some (.inl b), some (.inl m), x4, x5, x6, x7, x8] ∧ (m = 0 ∨ m = 1) ∧ h' = HQ h nm cl ∧ QI L N (lfV N (gI h pMo_isLeft)) (c2 (gI h pMo_cells)) a b nm (c2 cl) ∧ (∀ r c, 0 ≤ c → c < 10 → L ≤ c → cl (10 * r + c) = gI h pMo_cells (10 * r + c)) ∧ (m = 0 → PCr L (lfV N (gI h pMo_isLeft)) nm (c2 cl) N),
    fun ls h' => ∃ (m r : Int) (nm cl : Int → Int) (x5 x6 x7 x8 : Option PV), ls = [some (.inr (.inl (some pMo))), some (.inl a), some (.inl b), some (.inl m), some (.inl r), x5, x6, x7, x8] ∧ (m = 0 ∨ m = 1) ∧ 0 ≤ r ∧ r ≤ N ∧ h' = HQ h nm cl ∧ QI L N (lfV N (gI h pMo_isLeft)) (c2 (gI h pMo_cells)) a b nm (c2 cl) ∧ (∀ r c, 0 ≤ c → c < 10 → L ≤ c → cl (10 * r + c) = gI h pMo_cells (10 * r + c)) ∧ (m = 0 → PCr L (lfV N (gI h pMo_isLeft)) nm (c2 cl) r),
    fun ls h' => ∃ (m r c : Int) (nm cl : Int → Int) (x6 x7 x8 : Option PV), ls = [some (.inr (.inl (some pMo))), some (.inl a), some (.inl b), some (.inl m), some (.inl r), some (.inl c), x6, x7, x8] ∧ (m = 0 ∨ m = 1) ∧ (lfV N (gI h pMo_isLeft)) r ∧ 0 ≤ c ∧ c ≤ L ∧ h' = HQ h nm cl ∧ QI L N (lfV N (gI h pMo_isLeft)) (c2 (gI h pMo_cells)) a b nm (c2 cl) ∧ (∀ r c, 0 ≤ c → c < 10 → L ≤ c → cl (10 * r + c) = gI h pMo_cells (10 * r + c)) ∧ (m = 0 → PCr L (lfV N (gI h pMo_isLeft)) nm (c2 cl) r ∧ PCc L nm (c2 cl) r c),
    fun ls h' => ∃ (m r : Int) (nm cl : Int → Int) (x5 x6 x7 x8 : Option PV), ls = [some (.inr (.inl (some pMo))), some (.inl a), some (.inl b), some (.inl m), some (.inl r), x5, x6, x7, x8] ∧ 0 ≤ r ∧ r ≤ N ∧ QI L N (lfV N (gI h pMo_isLeft)) (c2 (gI h pMo_cells)) a b nm (c2 cl) ∧ (∀ r c, 0 ≤ c → c < 10 → L ≤ c → cl (10 * r + c) = gI h pMo_cells (10 * r + c)) ∧ PCr L (lfV N (gI h pMo_isLeft)) nm (c2 cl) N ∧ h' = HF h nm (clF L N (gI h pMo_isLeft) nm cl r 0) (lfF nm (gI h pMo_isLeft) r) (Sf (gI h pMo_state) (kq N nm (gI h pMo_isLeft) r)),
    fun ls h' => ∃ (m r c : Int) (nm cl : Int → Int) (x6 x7 x8 : Option PV), ls = [some (.inr (.inl (some pMo))), some (.inl a), some (.inl b), some (.inl m), some (.inl r), some (.inl c), x6, x7, x8] ∧ (lfV N (gI h pMo_isLeft)) r ∧ nm r = r ∧ 0 ≤ c ∧ c ≤ L ∧ QI L N (lfV N (gI h pMo_isLeft)) (c2 (gI h pMo_cells)) a b nm (c2 cl) ∧ (∀ r c, 0 ≤ c → c < 10 → L ≤ c → cl (10 * r + c) = gI h pMo_cells (10 * r + c)) ∧ PCr L (lfV N (gI h pMo_isLeft)) nm (c2 cl) N ∧ h' = HF h nm (clF L N (gI h pMo_isLeft) nm cl r c) (lfF nm (gI h pMo_isLeft) r) (Sf (gI h pMo_state) (kq N nm (gI h pMo_isLeft) r)), mu, ?_, ?_, ?_, ?_, ?_, ?_, ?_⟩
  · rintro ls h' ⟨k, rfl, hk, rfl⟩
    simp (decide := true) only [B_Mo_quarrel_0, B_Mo_quarrel_7, B_Mo_quarrel_30, B_Mo_quarrel_38, B_Mo_quarrel_47, B_Mo_quarrel_82, B_Mo_quarrel_85, B_Mo_quarrel_121, B_Mo_quarrel_171, B_Mo_quarrel_196, B_Mo_quarrel_202, B_Mo_quarrel_208, B_Mo_quarrel_211, B_Mo_quarrel_214, B_Mo_quarrel_238, B_Mo_quarrel_291, B_Mo_quarrel_294, B_Mo_quarrel_353, B_Mo_quarrel_359, B_Mo_quarrel_365, Ct_Mo_join, Ct_Mo_nameOf, tt_ci, tt_cl, tt_nul, tt_il, tt_al, tt_ll, tt_is, tt_as, tt_ls, tt_inc, tt_add, tt_sub, tt_mul, tt_div, tt_rem, tt_ladd, tt_lmul, tt_ldiv, tt_lrem, tt_zeq, tt_zne, tt_zlt, tt_zge, tt_zgt, tt_zle, tt_ceq, tt_cne, tt_clt, tt_cge, tt_cgt, tt_cle, tt_nn, tt_cut, tt_pop, tt_dup, tt_dup2, tt_gI, tt_gR, tt_pI, tt_pZ, tt_pR, tt_ia, tt_ba, tt_za, tt_iS, tt_bS, tt_zS, tt_aa, tt_aS, tt_len, tt_and, tt_xor, tt_shr, tt_ushr, tt_lcmp, tt_i2b, tt_i2l, tt_l2i, tt_sw, swG, tt_ir, tt_zr, tt_br, tt_lr, tt_ar, tt_vr, tt_cV, tt_cS, tt_min, tt_max, tt_acp, pI, pII, pO, pA, pIA, pIIA, pOA, pOIA, pL, pLL, pLIA, pV, pCP, lI, lO, lL, nth, stL, clL, entA, fitL, rcv, List.take_succ_cons, List.take_zero, List.drop_succ_cons, List.drop_zero, List.reverse_cons, List.reverse_nil, List.nil_append, List.cons_append, List.length_cons, List.length_nil, Option.toList_some, Option.toList_none, gI_sI, gI_sA, gR_sI, gR_sA, gI_sR, gR_sR, hN_sI, hN_sA, hN_sR, isO_sI, isO_sA, isO_sR, isAr_sI, isAr_sA, isAr_sR, hC_sI, hC_sA, hC_sR, hZ_sI, hZ_sA, hZ_sR, MW_sI, MW_sA, true_and, and_true, true_or, or_true, and_self, forall_const, imp_self, implies_true, if_true, if_false, false_and, and_false, false_or, or_false, not_false_eq_true, not_true_eq_false, sI_sI, mr_tape w, mr_text w, mr_words w, mr_wordSize w, mr_subs w, mr_subSize w, mr_asked w, mr_pile w, mr_pileSize w, mr_opened w, mr_openedAt w, mr_begun w, mr_cells w, mr_keptCells w, mr_name w, mr_isLeft w, mr_isDone w, mr_keptLeft w, mr_keptDone w, mr_state w, mr_keptState w, mr_newOf w, mr_oldOf w, mr_spare w, mr_spareDone w, mr_out w, mr_metFrom w, mr_metBy w, mr_far w, mr_low w, mr_lows w, mr_lowSize w, mr_triedRow w, mr_triedColumn w, mr_triedValue w, mr_triedRows w, mr_sheet w, ma_tape w, ma_text w, ma_words w, ma_wordSize w, ma_subs w, ma_subSize w, ma_asked w, ma_pile w, ma_pileSize w, ma_opened w, ma_openedAt w, ma_begun w, ma_cells w, ma_keptCells w, ma_name w, ma_isLeft w, ma_isDone w, ma_keptLeft w, ma_keptDone w, ma_state w, ma_keptState w, ma_newOf w, ma_oldOf w, ma_spare w, ma_spareDone w, ma_out w, ma_metFrom w, ma_metBy w, ma_far w, ma_low w, ma_lows w, ma_lowSize w, ma_triedRow w, ma_triedColumn w, ma_triedValue w, ma_triedRows w, ma_sheet w, ml_tape, ml_text, ml_words, ml_wordSize, ml_subs, ml_subSize, ml_asked, ml_pile, ml_pileSize, ml_opened, ml_openedAt, ml_begun, ml_cells, ml_keptCells, ml_name, ml_isLeft, ml_isDone, ml_keptLeft, ml_keptDone, ml_state, ml_keptState, ml_newOf, ml_oldOf, ml_spare, ml_spareDone, ml_out, ml_metFrom, ml_metBy, ml_far, ml_low, ml_lows, ml_lowSize, ml_triedRow, ml_triedColumn, ml_triedValue, ml_triedRows, ml_sheet, mo_O w, hN]
    refine ⟨fun q => ?_, fun q => ⟨by omega, by omega, ⟨by omega, by omega⟩, ⟨k + 1, rfl, by omega, ?_⟩, ?_⟩⟩
    · have e : k = N := by omega
      subst e
      have eN : gI (sA (sI h pMo 34 1) pMo_name (fun j => if 0 ≤ j ∧ j < (k : Int) then j else gI h pMo_name j)) pMo_name = (fun j => if 0 ≤ j ∧ j < (k : Int) then j else gI h pMo_name j) := by funext j; simp (decide := true) only [gI_sA, if_true]
      rw [eN]
      have hid : ∀ z : Int, 0 ≤ z → z < (k : Int) → (if 0 ≤ z ∧ z < (k : Int) then z else gI h pMo_name z) = z := fun z z0 z1 => if_pos ⟨z0, z1⟩
      refine ⟨w, ha.1, by have := ha.2.1; omega, hb.1, by have := hb.2.1; omega, fun x x0 x1 => ?_, fun x y x0 x1 y0 y1 hx hy => ?_⟩
      · have hxN : x < (k : Int) := by have := ha.2.1; have := hb.2.1; omega
        rw [hid x x0 hxN]; omega
      · have ex : x = a := rt_uniq hx ⟨hid a ha.1 ha.2.1, 0, rfl⟩
        have ey : y = b := rt_uniq hy ⟨hid b hb.1 hb.2.1, 0, rfl⟩
        subst ex; subst ey
        rw [← HQ_0]
        simp only [HQ_sn]
        by_cases hlt : x < y
        · rw [if_pos hlt]
          refine ⟨⟨1, _, _, none, none, none, none, none, rfl, Or.inr rfl, rfl, QI_first vb hE (fun z z0 z1 => hid z z0 z1) ha hb hlt (Or.inl ⟨rfl, rfl⟩), fun _ _ _ _ _ => rfl, fun z => absurd z (by decide)⟩, ?_⟩
          rw [hmu, muQ_38, muQ_7, HQ_nm, HQ_cl]
          have := SQ_le (upI (fun j => if 0 ≤ j ∧ j < (k : Int) then j else gI h pMo_name j) y x) (gI h pMo_cells) k
          simp only [locI, nth]
          omega
        · rw [if_neg hlt]
          refine ⟨⟨1, _, _, none, none, none, none, none, rfl, Or.inr rfl, rfl, QI_first vb hE (fun z z0 z1 => hid z z0 z1) hb ha (by omega) (Or.inr ⟨rfl, rfl⟩), fun _ _ _ _ _ => rfl, fun z => absurd z (by decide)⟩, ?_⟩
          rw [hmu, muQ_38, muQ_7, HQ_nm, HQ_cl]
          have := SQ_le (upI (fun j => if 0 ≤ j ∧ j < (k : Int) then j else gI h pMo_name j) x y) (gI h pMo_cells) k
          simp only [locI, nth]
          omega
    · rw [sI_sA]
      congr 1
      funext j
      unfold upI
      grind
    · rw [hmu, muQ_7, muQ_7]
      simp only [locI, nth]
      omega
  · rintro ls h' ⟨m, nm, cl, x4, x5, x6, x7, x8, rfl, hm, rfl, hQ, hC9, hP⟩
    simp (decide := true) only [B_Mo_quarrel_0, B_Mo_quarrel_7, B_Mo_quarrel_30, B_Mo_quarrel_38, B_Mo_quarrel_47, B_Mo_quarrel_82, B_Mo_quarrel_85, B_Mo_quarrel_121, B_Mo_quarrel_171, B_Mo_quarrel_196, B_Mo_quarrel_202, B_Mo_quarrel_208, B_Mo_quarrel_211, B_Mo_quarrel_214, B_Mo_quarrel_238, B_Mo_quarrel_291, B_Mo_quarrel_294, B_Mo_quarrel_353, B_Mo_quarrel_359, B_Mo_quarrel_365, Ct_Mo_join, Ct_Mo_nameOf, tt_ci, tt_cl, tt_nul, tt_il, tt_al, tt_ll, tt_is, tt_as, tt_ls, tt_inc, tt_add, tt_sub, tt_mul, tt_div, tt_rem, tt_ladd, tt_lmul, tt_ldiv, tt_lrem, tt_zeq, tt_zne, tt_zlt, tt_zge, tt_zgt, tt_zle, tt_ceq, tt_cne, tt_clt, tt_cge, tt_cgt, tt_cle, tt_nn, tt_cut, tt_pop, tt_dup, tt_dup2, tt_gI, tt_gR, tt_pI, tt_pZ, tt_pR, tt_ia, tt_ba, tt_za, tt_iS, tt_bS, tt_zS, tt_aa, tt_aS, tt_len, tt_and, tt_xor, tt_shr, tt_ushr, tt_lcmp, tt_i2b, tt_i2l, tt_l2i, tt_sw, swG, tt_ir, tt_zr, tt_br, tt_lr, tt_ar, tt_vr, tt_cV, tt_cS, tt_min, tt_max, tt_acp, pI, pII, pO, pA, pIA, pIIA, pOA, pOIA, pL, pLL, pLIA, pV, pCP, lI, lO, lL, nth, stL, clL, entA, fitL, rcv, List.take_succ_cons, List.take_zero, List.drop_succ_cons, List.drop_zero, List.reverse_cons, List.reverse_nil, List.nil_append, List.cons_append, List.length_cons, List.length_nil, Option.toList_some, Option.toList_none, gI_sI, gI_sA, gR_sI, gR_sA, gI_sR, gR_sR, hN_sI, hN_sA, hN_sR, isO_sI, isO_sA, isO_sR, isAr_sI, isAr_sA, isAr_sR, hC_sI, hC_sA, hC_sR, hZ_sI, hZ_sA, hZ_sR, MW_sI, MW_sA, true_and, and_true, true_or, or_true, and_self, forall_const, imp_self, implies_true, if_true, if_false, false_and, and_false, false_or, or_false, not_false_eq_true, not_true_eq_false, sI_sI, HQ_I, HQ_nm, HQ_cl]
    refine ⟨fun q => ?_, fun q => ⟨⟨0, 0, nm, cl, x5, x6, x7, x8, rfl, Or.inl rfl, by omega, by omega, rfl, hQ, hC9, fun _ x c hx h9 => by have := hx.1; omega⟩, ?_⟩⟩
    · have e1 : clF L N (gI h pMo_isLeft) nm cl 0 0 = cl := by
        funext j
        unfold clF
        rw [if_neg]
        rintro ⟨-, -, -, z0, -, -, z⟩
        omega
      have e2 : lfF nm (gI h pMo_isLeft) 0 = (gI h pMo_isLeft) := by
        funext j
        unfold lfF
        rw [if_neg]
        rintro ⟨z0, z1, -⟩
        omega
      have e3 : kq N nm (gI h pMo_isLeft) 0 = 0 := by unfold kq; rw [e2]; omega
      have e4 : Sf (gI h pMo_state) 0 = (gI h pMo_state) := by
        funext j
        unfold Sf
        grind
      refine ⟨⟨m, 0, nm, cl, x5, x6, x7, x8, rfl, by omega, by omega, hQ, hC9, hP q, ?_⟩, ?_⟩
      · rw [e1, e2, e3, e4]; exact HF_0
      · rw [hmu, muQ_214, muQ_38, HQ_nm, HQ_cl]
        have h00 : nm 0 = 0 := by have := hQ.1 0 (by omega) (by omega); omega
        have := SQ_pos (nm := nm) (cl := cl) h00 hN0
        simp only [locI, nth]
        omega
    · rw [hmu, muQ_47, muQ_38]
      simp only [locI, nth]
      omega
  · rintro ls h' ⟨m, r, nm, cl, x5, x6, x7, x8, rfl, hm, r0, r1, rfl, hQ, hC9, hP⟩
    have w := HQ_W (nm := nm) (cl := cl) w
    have nxt : (m = 0 → PCr L (lfV N (gI h pMo_isLeft)) nm (c2 cl) (r + 1)) → r < N → (∃ (m' r' : Int) (nm' cl' : Int → Int) (x5' x6' x7' x8' : Option PV), ([some (.inr (.inl (some pMo))), some (.inl a), some (.inl b), some (.inl m), some (.inl (r + 1)), x5, x6, x7, x8] : LSt) = [some (.inr (.inl (some pMo))), some (.inl a), some (.inl b), some (.inl m'), some (.inl r'), x5', x6', x7', x8'] ∧ (m' = 0 ∨ m' = 1) ∧ 0 ≤ r' ∧ r' ≤ N ∧ HQ h nm cl = HQ h nm' cl' ∧ QI L N (lfV N (gI h pMo_isLeft)) (c2 (gI h pMo_cells)) a b nm' (c2 cl') ∧ (∀ r c, 0 ≤ c → c < 10 → L ≤ c → cl' (10 * r + c) = gI h pMo_cells (10 * r + c)) ∧ (m' = 0 → PCr L (lfV N (gI h pMo_isLeft)) nm' (c2 cl') r')) ∧ mu 47 [some (.inr (.inl (some pMo))), some (.inl a), some (.inl b), some (.inl m), some (.inl (r + 1)), x5, x6, x7, x8] (HQ h nm cl) < mu 47 [some (.inr (.inl (some pMo))), some (.inl a), some (.inl b), some (.inl m), some (.inl r), x5, x6, x7, x8] (HQ h nm cl) := by
      intro h1 h2
      refine ⟨⟨m, r + 1, nm, cl, x5, x6, x7, x8, rfl, hm, by omega, by omega, rfl, hQ, hC9, h1⟩, ?_⟩
      rw [hmu, muQ_47, muQ_47]
      simp only [locI, nth]
      omega
    simp (decide := true) only [B_Mo_quarrel_0, B_Mo_quarrel_7, B_Mo_quarrel_30, B_Mo_quarrel_38, B_Mo_quarrel_47, B_Mo_quarrel_82, B_Mo_quarrel_85, B_Mo_quarrel_121, B_Mo_quarrel_171, B_Mo_quarrel_196, B_Mo_quarrel_202, B_Mo_quarrel_208, B_Mo_quarrel_211, B_Mo_quarrel_214, B_Mo_quarrel_238, B_Mo_quarrel_291, B_Mo_quarrel_294, B_Mo_quarrel_353, B_Mo_quarrel_359, B_Mo_quarrel_365, Ct_Mo_join, Ct_Mo_nameOf, tt_ci, tt_cl, tt_nul, tt_il, tt_al, tt_ll, tt_is, tt_as, tt_ls, tt_inc, tt_add, tt_sub, tt_mul, tt_div, tt_rem, tt_ladd, tt_lmul, tt_ldiv, tt_lrem, tt_zeq, tt_zne, tt_zlt, tt_zge, tt_zgt, tt_zle, tt_ceq, tt_cne, tt_clt, tt_cge, tt_cgt, tt_cle, tt_nn, tt_cut, tt_pop, tt_dup, tt_dup2, tt_gI, tt_gR, tt_pI, tt_pZ, tt_pR, tt_ia, tt_ba, tt_za, tt_iS, tt_bS, tt_zS, tt_aa, tt_aS, tt_len, tt_and, tt_xor, tt_shr, tt_ushr, tt_lcmp, tt_i2b, tt_i2l, tt_l2i, tt_sw, swG, tt_ir, tt_zr, tt_br, tt_lr, tt_ar, tt_vr, tt_cV, tt_cS, tt_min, tt_max, tt_acp, pI, pII, pO, pA, pIA, pIIA, pOA, pOIA, pL, pLL, pLIA, pV, pCP, lI, lO, lL, nth, stL, clL, entA, fitL, rcv, List.take_succ_cons, List.take_zero, List.drop_succ_cons, List.drop_zero, List.reverse_cons, List.reverse_nil, List.nil_append, List.cons_append, List.length_cons, List.length_nil, Option.toList_some, Option.toList_none, gI_sI, gI_sA, gR_sI, gR_sA, gI_sR, gR_sR, hN_sI, hN_sA, hN_sR, isO_sI, isO_sA, isO_sR, isAr_sI, isAr_sA, isAr_sR, hC_sI, hC_sA, hC_sR, hZ_sI, hZ_sA, hZ_sR, MW_sI, MW_sA, true_and, and_true, true_or, or_true, and_self, forall_const, imp_self, implies_true, if_true, if_false, false_and, and_false, false_or, or_false, not_false_eq_true, not_true_eq_false, sI_sI, mr_tape w, mr_text w, mr_words w, mr_wordSize w, mr_subs w, mr_subSize w, mr_asked w, mr_pile w, mr_pileSize w, mr_opened w, mr_openedAt w, mr_begun w, mr_cells w, mr_keptCells w, mr_name w, mr_isLeft w, mr_isDone w, mr_keptLeft w, mr_keptDone w, mr_state w, mr_keptState w, mr_newOf w, mr_oldOf w, mr_spare w, mr_spareDone w, mr_out w, mr_metFrom w, mr_metBy w, mr_far w, mr_low w, mr_lows w, mr_lowSize w, mr_triedRow w, mr_triedColumn w, mr_triedValue w, mr_triedRows w, mr_sheet w, ma_tape w, ma_text w, ma_words w, ma_wordSize w, ma_subs w, ma_subSize w, ma_asked w, ma_pile w, ma_pileSize w, ma_opened w, ma_openedAt w, ma_begun w, ma_cells w, ma_keptCells w, ma_name w, ma_isLeft w, ma_isDone w, ma_keptLeft w, ma_keptDone w, ma_state w, ma_keptState w, ma_newOf w, ma_oldOf w, ma_spare w, ma_spareDone w, ma_out w, ma_metFrom w, ma_metBy w, ma_far w, ma_low w, ma_lows w, ma_lowSize w, ma_triedRow w, ma_triedColumn w, ma_triedValue w, ma_triedRows w, ma_sheet w, ml_tape, ml_text, ml_words, ml_wordSize, ml_subs, ml_subSize, ml_asked, ml_pile, ml_pileSize, ml_opened, ml_openedAt, ml_begun, ml_cells, ml_keptCells, ml_name, ml_isLeft, ml_isDone, ml_keptLeft, ml_keptDone, ml_state, ml_keptState, ml_newOf, ml_oldOf, ml_spare, ml_spareDone, ml_out, ml_metFrom, ml_metBy, ml_far, ml_low, ml_lows, ml_lowSize, ml_triedRow, ml_triedColumn, ml_triedValue, ml_triedRows, ml_sheet, mo_O w, HQ_I, HQ_nm, HQ_cl, hN]
    refine ⟨fun q => ⟨⟨m, nm, cl, some (.inl r), x5, x6, x7, x8, rfl, hm, rfl, hQ, hC9, fun z => ?_⟩, ?_⟩, fun q => ⟨r0, by omega, fun q2 => ⟨⟨by omega, by omega⟩, ?_⟩, fun q2 => ⟨w, r0, by omega, fun x x0 x1 => hQ.1 x x0 (by omega), fun n n0 n1 hn => ⟨fun q3 => ⟨⟨m, r, 0, nm, cl, x6, x7, x8, rfl, hm, ⟨r0, by omega, q2⟩, by omega, by omega, rfl, hQ, hC9, fun z => ⟨hP z, fun c c0 c1 => by omega⟩⟩, ?_⟩, fun q3 => ⟨⟨by omega, by omega⟩, ?_⟩⟩⟩⟩⟩
    · have e : r = N := by omega
      rw [← e]; exact hP z
    · rw [hmu, muQ_47, muQ_38]
      simp only [locI, nth]
      omega
    · refine nxt (fun z x c hx h9 => ?_) (by omega)
      by_cases e : x = r
      · rw [e] at hx; exact absurd q2 hx.2.2
      · exact hP z x c hx (by omega)
    · rw [hmu, muQ_47, muQ_85]
      simp only [locI, nth]
      omega
    · refine nxt (fun z x c hx h9 => ?_) (by omega)
      by_cases e : x = r
      · subst e
        have : root nm x = x := by rw [root_rt hn, q3]
        intro c0 c1 hne
        rw [this]
        exact ⟨hne, rfl⟩
      · exact hP z x c hx (by omega)
  · rintro ls h' ⟨m, r, c, nm, cl, x6, x7, x8, rfl, hm, hr, c0, c1, rfl, hQ, hC9, hP⟩
    have w := HQ_W (nm := nm) (cl := cl) w
    simp (decide := true) only [B_Mo_quarrel_0, B_Mo_quarrel_7, B_Mo_quarrel_30, B_Mo_quarrel_38, B_Mo_quarrel_47, B_Mo_quarrel_82, B_Mo_quarrel_85, B_Mo_quarrel_121, B_Mo_quarrel_171, B_Mo_quarrel_196, B_Mo_quarrel_202, B_Mo_quarrel_208, B_Mo_quarrel_211, B_Mo_quarrel_214, B_Mo_quarrel_238, B_Mo_quarrel_291, B_Mo_quarrel_294, B_Mo_quarrel_353, B_Mo_quarrel_359, B_Mo_quarrel_365, Ct_Mo_join, Ct_Mo_nameOf, tt_ci, tt_cl, tt_nul, tt_il, tt_al, tt_ll, tt_is, tt_as, tt_ls, tt_inc, tt_add, tt_sub, tt_mul, tt_div, tt_rem, tt_ladd, tt_lmul, tt_ldiv, tt_lrem, tt_zeq, tt_zne, tt_zlt, tt_zge, tt_zgt, tt_zle, tt_ceq, tt_cne, tt_clt, tt_cge, tt_cgt, tt_cle, tt_nn, tt_cut, tt_pop, tt_dup, tt_dup2, tt_gI, tt_gR, tt_pI, tt_pZ, tt_pR, tt_ia, tt_ba, tt_za, tt_iS, tt_bS, tt_zS, tt_aa, tt_aS, tt_len, tt_and, tt_xor, tt_shr, tt_ushr, tt_lcmp, tt_i2b, tt_i2l, tt_l2i, tt_sw, swG, tt_ir, tt_zr, tt_br, tt_lr, tt_ar, tt_vr, tt_cV, tt_cS, tt_min, tt_max, tt_acp, pI, pII, pO, pA, pIA, pIIA, pOA, pOIA, pL, pLL, pLIA, pV, pCP, lI, lO, lL, nth, stL, clL, entA, fitL, rcv, List.take_succ_cons, List.take_zero, List.drop_succ_cons, List.drop_zero, List.reverse_cons, List.reverse_nil, List.nil_append, List.cons_append, List.length_cons, List.length_nil, Option.toList_some, Option.toList_none, gI_sI, gI_sA, gR_sI, gR_sA, gI_sR, gR_sR, hN_sI, hN_sA, hN_sR, isO_sI, isO_sA, isO_sR, isAr_sI, isAr_sA, isAr_sR, hC_sI, hC_sA, hC_sR, hZ_sI, hZ_sA, hZ_sR, MW_sI, MW_sA, true_and, and_true, true_or, or_true, and_self, forall_const, imp_self, implies_true, if_true, if_false, false_and, and_false, false_or, or_false, not_false_eq_true, not_true_eq_false, sI_sI, mr_tape w, mr_text w, mr_words w, mr_wordSize w, mr_subs w, mr_subSize w, mr_asked w, mr_pile w, mr_pileSize w, mr_opened w, mr_openedAt w, mr_begun w, mr_cells w, mr_keptCells w, mr_name w, mr_isLeft w, mr_isDone w, mr_keptLeft w, mr_keptDone w, mr_state w, mr_keptState w, mr_newOf w, mr_oldOf w, mr_spare w, mr_spareDone w, mr_out w, mr_metFrom w, mr_metBy w, mr_far w, mr_low w, mr_lows w, mr_lowSize w, mr_triedRow w, mr_triedColumn w, mr_triedValue w, mr_triedRows w, mr_sheet w, ma_tape w, ma_text w, ma_words w, ma_wordSize w, ma_subs w, ma_subSize w, ma_asked w, ma_pile w, ma_pileSize w, ma_opened w, ma_openedAt w, ma_begun w, ma_cells w, ma_keptCells w, ma_name w, ma_isLeft w, ma_isDone w, ma_keptLeft w, ma_keptDone w, ma_state w, ma_keptState w, ma_newOf w, ma_oldOf w, ma_spare w, ma_spareDone w, ma_out w, ma_metFrom w, ma_metBy w, ma_far w, ma_low w, ma_lows w, ma_lowSize w, ma_triedRow w, ma_triedColumn w, ma_triedValue w, ma_triedRows w, ma_sheet w, ml_tape, ml_text, ml_words, ml_wordSize, ml_subs, ml_subSize, ml_asked, ml_pile, ml_pileSize, ml_opened, ml_openedAt, ml_begun, ml_cells, ml_keptCells, ml_name, ml_isLeft, ml_isDone, ml_keptLeft, ml_keptDone, ml_state, ml_keptState, ml_newOf, ml_oldOf, ml_spare, ml_spareDone, ml_out, ml_metFrom, ml_metBy, ml_far, ml_low, ml_lows, ml_lowSize, ml_triedRow, ml_triedColumn, ml_triedValue, ml_triedRows, ml_sheet, mo_O w, HQ_I, HQ_nm, HQ_cl, hN, HQ_sc, HQ_sn]
    rw [← hL]
    have hrN := hr.2.1
    have hr0 := hr.1
    have vE : ∀ x d, (lfV N (gI h pMo_isLeft)) x → 0 ≤ d → d < L → cl (10 * x + d) ≠ -2 → (lfV N (gI h pMo_isLeft)) (cl (10 * x + d)) := fun x d hx d0 d1 hne => (hQ.2.2.2.2.1 x d hx d0 d1 hne).1
    have fr : forest nm N := hQ.1
    refine ⟨⟨by omega, by omega⟩, fun q => ⟨⟨by omega, by omega⟩, ⟨m, r + 1, nm, cl, some (.inl c), x6, x7, x8, rfl, hm, by omega, by omega, rfl, hQ, hC9, fun z x d hx h9 d0 d1 hne => ?_⟩, ?_⟩, fun q => ⟨⟨by omega, by omega⟩, ⟨by omega, by omega⟩, by omega, by omega, fun q2 => ⟨w, hr0, by omega, fun x x0 x1 => fr x x0 (by omega), fun n n0 n1 hn => ?_⟩, fun q2 => ⟨⟨by omega, by omega⟩, ⟨m, r, c + 1, nm, cl, _, x7, x8, rfl, hm, hr, by omega, by omega, rfl, hQ, hC9, fun z => ⟨(hP z).1, fun d d0 d1 hne => ?_⟩⟩, ?_⟩⟩⟩
    · by_cases e : x = r
      · rw [e] at hne ⊢; exact (hP z).2 d d0 (by omega) hne
      · exact (hP z).1 x d hx (by omega) d0 d1 hne
    · rw [hmu, muQ_47, muQ_85]
      simp only [locI, nth]
      omega
    · have en : root nm r = n := root_rt hn
      have hnV : (lfV N (gI h pMo_isLeft)) n := by rw [← en]; exact root_in vb fr hQ.2.1 hr
      have nN := hnV.2.1
      have sV := vE r c hr c0 (by omega) q2
      have s0 := sV.1
      have s1' := sV.2.1
      refine ⟨⟨by omega, by omega⟩, ⟨by omega, by omega⟩, by omega, by omega, fun q3 => ?_, fun q3 => ?_⟩
      · have tV := vE n c hnV c0 (by omega) q3
        have t0 := tV.1
        have t1 := tV.2.1
        refine ⟨w, s0, by omega, fun x x0 x1 => fr x x0 (by omega), fun x x0 x1 hx => ⟨w, t0, by omega, fun y y0 y1 => fr y y0 (by omega), fun y y0 y1 hy => ⟨fun q4 => ⟨⟨by omega, by omega⟩, ⟨m, r, c + 1, nm, cl, _, _, _, rfl, hm, hr, by omega, by omega, rfl, hQ, hC9, fun z => ⟨(hP z).1, fun d d0 d1 hne => ?_⟩⟩, ?_⟩, fun q4 => ⟨w, s0, by omega, t0, by omega, fun z z0 z1 => fr z z0 (by omega), fun x' y' x0' x1' y0' y1' hx' hy' => ?_⟩⟩⟩⟩
        · by_cases e : d = c
          · subst e
            show cl (10 * root nm r + d) ≠ -2 ∧ root nm (cl (10 * root nm r + d)) = root nm (cl (10 * r + d))
            rw [en]
            exact ⟨q3, by rw [root_rt hx, root_rt hy, q4]⟩
          · exact (hP z).2 d d0 (by omega) hne
        · rw [hmu, muQ_85, muQ_85]
          simp only [locI, nth]
          omega
        · have ex := rt_uniq hx' hx
          have ey := rt_uniq hy' hy
          subst ex
          subst ey
          have hxV : (lfV N (gI h pMo_isLeft)) x' := by rw [← root_rt hx]; exact root_in vb fr hQ.2.1 sV
          have hyV : (lfV N (gI h pMo_isLeft)) y' := by rw [← root_rt hy]; exact root_in vb fr hQ.2.1 tV
          have must : ∀ (X : Type) (φ : Int → X) (F : X → Int → X → Prop), Det F → Hm L (lfV N (gI h pMo_isLeft)) (c2 (gI h pMo_cells)) φ F → φ a = φ b → φ x' = φ y' := by
            intro X φ F h1 h2 h3
            have g := QI_must vb hQ hr c0 (by omega) q2 (by rw [en]; exact q3) X φ F h1 h2 h3
            rw [en] at g
            have g1 : root nm (c2 cl r c) = x' := root_rt hx
            have g2 : root nm (c2 cl n c) = y' := root_rt hy
            rw [g1, g2] at g
            exact g
          by_cases hlt : x' < y'
          · simp only [if_pos hlt]
            refine ⟨⟨by omega, by omega⟩, ⟨1, r, c + 1, _, cl, _, _, _, rfl, Or.inr rfl, hr, by omega, by omega, rfl, QI_join vb hQ ⟨ha, hb⟩ hxV hyV hx.1 hy.1 hlt must, hC9, fun z => absurd z (by decide)⟩, ?_⟩
            rw [hmu, muQ_85, muQ_85, HQ_nm, HQ_cl, HQ_nm, HQ_cl]
            have := SQ_join (nm := nm) (cl := cl) (N := N) (x := x') hyV.1 hyV.2.1 hy.1 (by omega)
            simp only [locI, nth]
            omega
          · simp only [if_neg hlt]
            refine ⟨⟨by omega, by omega⟩, ⟨1, r, c + 1, _, cl, _, _, _, rfl, Or.inr rfl, hr, by omega, by omega, rfl, QI_join vb hQ ⟨ha, hb⟩ hyV hxV hy.1 hx.1 (by omega) (fun X φ F h1 h2 h3 => (must X φ F h1 h2 h3).symm), hC9, fun z => absurd z (by decide)⟩, ?_⟩
            rw [hmu, muQ_85, muQ_85, HQ_nm, HQ_cl, HQ_nm, HQ_cl]
            have := SQ_join (nm := nm) (cl := cl) (N := N) (x := y') hxV.1 hxV.2.1 hx.1 (by omega)
            simp only [locI, nth]
            omega
      · refine ⟨⟨by omega, by omega⟩, ⟨by omega, by omega⟩, by omega, by omega, ⟨by omega, by omega⟩, ⟨1, r, c + 1, nm, _, _, _, _, rfl, Or.inr rfl, hr, by omega, by omega, rfl, QI_set vb hQ hr c0 (by omega) q2 (by rw [en]; exact q3) (fun x d d0 d1 => ?_), fun x d d0 d1 d2 => ?_, fun z => absurd z (by decide)⟩, ?_⟩
        · show upI cl (10 * n + c) (cl (10 * r + c)) (10 * x + d) = if x = root nm r ∧ d = c then cl (10 * r + c) else cl (10 * x + d)
          rw [en]
          unfold upI
          by_cases e : x = n ∧ d = c
          · rw [if_pos e, if_pos (by omega)]
          · rw [if_neg e, if_neg (by omega)]
        · unfold upI
          rw [if_neg (by omega)]
          exact hC9 x d d0 d1 d2
        · rw [hmu, muQ_85, muQ_85, HQ_nm, HQ_cl, HQ_nm, HQ_cl]
          have := SQ_set (nm := nm) (cl := cl) (N := N) (k := 10 * n + c) (v := cl (10 * r + c)) (by omega) (by omega) q3 q2
          simp only [locI, nth]
          omega
    · by_cases e : d = c
      · subst e; exact absurd q2 hne
      · exact (hP z).2 d d0 (by omega) hne
    · rw [hmu, muQ_85, muQ_85]
      simp only [locI, nth]
      omega
  · rintro ls h' ⟨m, r, nm, cl, x5, x6, x7, x8, rfl, r0, r1, hQ, hC9, hP, rfl⟩
    have eS : Sf (gI h pMo_state) (kq N nm (gI h pMo_isLeft) r) 0 = N := by unfold Sf; rw [if_neg (by decide), if_neg (by decide), if_neg (by decide)]; exact hN
    have eS1 : Sf (gI h pMo_state) (kq N nm (gI h pMo_isLeft) r) 1 = gI h pMo_state 1 - kq N nm (gI h pMo_isLeft) r := rfl
    have eS3 : Sf (gI h pMo_state) (kq N nm (gI h pMo_isLeft) r) 3 = gI h pMo_state 3 + kq N nm (gI h pMo_isLeft) r := rfl
    have eS10 : Sf (gI h pMo_state) (kq N nm (gI h pMo_isLeft) r) 10 = gI h pMo_state 10 + kq N nm (gI h pMo_isLeft) r := rfl
    have kb := kq_in (N := N) (nm := nm) (lf := (gI h pMo_isLeft)) (r := r)
    have elf : lfF nm (gI h pMo_isLeft) r r = gI h pMo_isLeft r := by unfold lfF; rw [if_neg (by omega)]
    simp (decide := true) only [B_Mo_quarrel_0, B_Mo_quarrel_7, B_Mo_quarrel_30, B_Mo_quarrel_38, B_Mo_quarrel_47, B_Mo_quarrel_82, B_Mo_quarrel_85, B_Mo_quarrel_121, B_Mo_quarrel_171, B_Mo_quarrel_196, B_Mo_quarrel_202, B_Mo_quarrel_208, B_Mo_quarrel_211, B_Mo_quarrel_214, B_Mo_quarrel_238, B_Mo_quarrel_291, B_Mo_quarrel_294, B_Mo_quarrel_353, B_Mo_quarrel_359, B_Mo_quarrel_365, Ct_Mo_join, Ct_Mo_nameOf, tt_ci, tt_cl, tt_nul, tt_il, tt_al, tt_ll, tt_is, tt_as, tt_ls, tt_inc, tt_add, tt_sub, tt_mul, tt_div, tt_rem, tt_ladd, tt_lmul, tt_ldiv, tt_lrem, tt_zeq, tt_zne, tt_zlt, tt_zge, tt_zgt, tt_zle, tt_ceq, tt_cne, tt_clt, tt_cge, tt_cgt, tt_cle, tt_nn, tt_cut, tt_pop, tt_dup, tt_dup2, tt_gI, tt_gR, tt_pI, tt_pZ, tt_pR, tt_ia, tt_ba, tt_za, tt_iS, tt_bS, tt_zS, tt_aa, tt_aS, tt_len, tt_and, tt_xor, tt_shr, tt_ushr, tt_lcmp, tt_i2b, tt_i2l, tt_l2i, tt_sw, swG, tt_ir, tt_zr, tt_br, tt_lr, tt_ar, tt_vr, tt_cV, tt_cS, tt_min, tt_max, tt_acp, pI, pII, pO, pA, pIA, pIIA, pOA, pOIA, pL, pLL, pLIA, pV, pCP, lI, lO, lL, nth, stL, clL, entA, fitL, rcv, List.take_succ_cons, List.take_zero, List.drop_succ_cons, List.drop_zero, List.reverse_cons, List.reverse_nil, List.nil_append, List.cons_append, List.length_cons, List.length_nil, Option.toList_some, Option.toList_none, gI_sI, gI_sA, gR_sI, gR_sA, gI_sR, gR_sR, hN_sI, hN_sA, hN_sR, isO_sI, isO_sA, isO_sR, isAr_sI, isAr_sA, isAr_sR, hC_sI, hC_sA, hC_sR, hZ_sI, hZ_sA, hZ_sR, MW_sI, MW_sA, true_and, and_true, true_or, or_true, and_self, forall_const, imp_self, implies_true, if_true, if_false, false_and, and_false, false_or, or_false, not_false_eq_true, not_true_eq_false, sI_sI, mr_tape w, mr_text w, mr_words w, mr_wordSize w, mr_subs w, mr_subSize w, mr_asked w, mr_pile w, mr_pileSize w, mr_opened w, mr_openedAt w, mr_begun w, mr_cells w, mr_keptCells w, mr_name w, mr_isLeft w, mr_isDone w, mr_keptLeft w, mr_keptDone w, mr_state w, mr_keptState w, mr_newOf w, mr_oldOf w, mr_spare w, mr_spareDone w, mr_out w, mr_metFrom w, mr_metBy w, mr_far w, mr_low w, mr_lows w, mr_lowSize w, mr_triedRow w, mr_triedColumn w, mr_triedValue w, mr_triedRows w, mr_sheet w, ma_tape w, ma_text w, ma_words w, ma_wordSize w, ma_subs w, ma_subSize w, ma_asked w, ma_pile w, ma_pileSize w, ma_opened w, ma_openedAt w, ma_begun w, ma_cells w, ma_keptCells w, ma_name w, ma_isLeft w, ma_isDone w, ma_keptLeft w, ma_keptDone w, ma_state w, ma_keptState w, ma_newOf w, ma_oldOf w, ma_spare w, ma_spareDone w, ma_out w, ma_metFrom w, ma_metBy w, ma_far w, ma_low w, ma_lows w, ma_lowSize w, ma_triedRow w, ma_triedColumn w, ma_triedValue w, ma_triedRows w, ma_sheet w, ml_tape, ml_text, ml_words, ml_wordSize, ml_subs, ml_subSize, ml_asked, ml_pile, ml_pileSize, ml_opened, ml_openedAt, ml_begun, ml_cells, ml_keptCells, ml_name, ml_isLeft, ml_isDone, ml_keptLeft, ml_keptDone, ml_state, ml_keptState, ml_newOf, ml_oldOf, ml_spare, ml_spareDone, ml_out, ml_metFrom, ml_metBy, ml_far, ml_low, ml_lows, ml_lowSize, ml_triedRow, ml_triedColumn, ml_triedValue, ml_triedRows, ml_sheet, mo_O w, HF_I, HF_nm, eS, HF_sl, HF_ss, HF_sc, HF_R, HF_O, HF_A, HF_M, HF_C, HF_Z, upI_ne, upI_eq, elf, eS1, eS3, eS10]
    refine ⟨fun q => ?_, fun q => ⟨r0, by omega, fun q2 => ⟨w, r0, by omega, fun x x0 x1 => hQ.1 x x0 (by omega), fun n n0 n1 hn => ⟨fun q3 => ⟨⟨m, r, 0, nm, cl, x6, x7, x8, rfl, ⟨r0, by omega, q2⟩, by have := hn.1; rw [q3] at this; exact this, by omega, by omega, hQ, hC9, hP, rfl⟩, ?_⟩, fun q3 => ⟨r0, by omega, ⟨by omega, by omega⟩, ⟨by omega, by omega⟩, ⟨by omega, by omega⟩, ⟨by omega, by omega⟩, ⟨m, r + 1, nm, cl, x5, x6, x7, x8, rfl, by omega, by omega, hQ, hC9, hP, ?_⟩, ?_⟩⟩⟩, fun q2 => ⟨⟨by omega, by omega⟩, ⟨m, r + 1, nm, cl, x5, x6, x7, x8, rfl, by omega, by omega, hQ, hC9, hP, ?_⟩, ?_⟩⟩⟩
    · have e : r = (N : Int) := by omega
      subst e
      refine hp nm _ _ _ (QR_congr ?_ ?_ (QI_end vb hE hQ (fun x c hx => hP x c hx hx.2.1))) (fun x hx => ?_) (fun x => ?_) (fun x c c0 c1 c2' => ?_) ⟨_, rfl, fun j => rfl⟩
      · intro x
        constructor
        · rintro ⟨⟨x0, x1, x2⟩, hn⟩
          refine ⟨x0, x1, ?_⟩
          unfold lfF
          rw [if_neg (fun z => z.2.2 hn)]
          exact x2
        · rintro ⟨x0, x1, x2⟩
          unfold lfF at x2
          by_cases z : nm x = x
          · rw [if_neg (fun y => y.2.2 z)] at x2
            exact ⟨⟨x0, x1, x2⟩, z⟩
          · rw [if_pos ⟨x0, x1, z⟩] at x2
            exact absurd rfl x2
      · rintro x c ⟨⟨x0, x1, x2⟩, hn⟩ c0 c1
        have d1 : (10 * x + c) / 10 = x := by omega
        have d2 : (10 * x + c) % 10 = c := by omega
        show (if cl (10 * x + c) = -2 then (-2 : Int) else root nm (cl (10 * x + c))) = clF L N (gI h pMo_isLeft) nm cl N 0 (10 * x + c)
        unfold clF
        rw [d1, d2]
        by_cases z : cl (10 * x + c) = -2
        · rw [if_pos z, if_neg (fun y => y.2.1 z), z]
        · rw [if_neg z, if_pos ⟨c1, z, hn, x0, x1, x2, Or.inl x1⟩]
      · unfold lfF
        rw [if_neg (fun z => hx ⟨z.1, z.2.1⟩)]
      · unfold lfF
        split
        · exact Or.inl rfl
        · exact Or.inr rfl
      · have d2 : (10 * x + c) % 10 = c := by omega
        unfold clF
        rw [if_neg (fun z => by have := z.1; omega)]
        exact hC9 x c c0 c1 c2'
    · rw [hmu, muQ_294, muQ_214]
      simp only [locI, nth]
      omega
    · have hnr : nm r ≠ r := fun z => q3 (rt_uniq hn ⟨z, 0, rfl⟩)
      have a2 : lfF nm (gI h pMo_isLeft) (r + 1) = upI (lfF nm (gI h pMo_isLeft) r) r 0 := by
        funext x
        unfold lfF upI
        by_cases z : x = r
        · subst z; rw [if_pos ⟨r0, by omega, hnr⟩, if_pos rfl]
        · rw [if_neg z]
          have hc : (0 ≤ x ∧ x < r + 1 ∧ nm x ≠ x) ↔ (0 ≤ x ∧ x < r ∧ nm x ≠ x) := by
            constructor
            · rintro ⟨y1, y2, y3⟩; exact ⟨y1, by omega, y3⟩
            · rintro ⟨y1, y2, y3⟩; exact ⟨y1, by omega, y3⟩
          simp only [hc]
      have a3 : kq N nm (gI h pMo_isLeft) (r + 1) = kq N nm (gI h pMo_isLeft) r + 1 := by
        have := cnN_one (f := lfF nm (gI h pMo_isLeft) r) (g := lfF nm (gI h pMo_isLeft) (r + 1)) (n := N) (k := r) r0 (by omega) (by rw [elf]; exact q2) (by rw [a2, upI_eq]) (fun j j0 j1 j2 => by rw [a2, upI_ne j2])
        unfold kq
        omega
      rw [clF_skip (fun z => hnr z.1), a2, a3]
      congr 1
      funext j
      unfold upI Sf
      grind
    · rw [hmu, muQ_214, muQ_214]
      simp only [locI, nth]
      omega
    · have a2 : lfF nm (gI h pMo_isLeft) (r + 1) = lfF nm (gI h pMo_isLeft) r := by
        funext x
        unfold lfF
        by_cases z : x = r
        · subst z
          by_cases z2 : nm x = x
          · rw [if_neg (fun y => y.2.2 z2), if_neg (fun y => y.2.2 z2)]
          · rw [if_pos ⟨r0, by omega, z2⟩, if_neg (fun y => by have := y.2.1; omega)]
            exact q2.symm
        · have hc : (0 ≤ x ∧ x < r + 1 ∧ nm x ≠ x) ↔ (0 ≤ x ∧ x < r ∧ nm x ≠ x) := by
            constructor
            · rintro ⟨y1, y2, y3⟩; exact ⟨y1, by omega, y3⟩
            · rintro ⟨y1, y2, y3⟩; exact ⟨y1, by omega, y3⟩
          simp only [hc]
      have a3 : kq N nm (gI h pMo_isLeft) (r + 1) = kq N nm (gI h pMo_isLeft) r := by unfold kq; rw [a2]
      rw [clF_skip (fun z => z.2 q2), a2, a3]
    · rw [hmu, muQ_214, muQ_214]
      simp only [locI, nth]
      omega
  · rintro ls h' ⟨m, r, c, nm, cl, x6, x7, x8, rfl, hr, hn, c0, c1, hQ, hC9, hP, rfl⟩
    simp (decide := true) only [B_Mo_quarrel_0, B_Mo_quarrel_7, B_Mo_quarrel_30, B_Mo_quarrel_38, B_Mo_quarrel_47, B_Mo_quarrel_82, B_Mo_quarrel_85, B_Mo_quarrel_121, B_Mo_quarrel_171, B_Mo_quarrel_196, B_Mo_quarrel_202, B_Mo_quarrel_208, B_Mo_quarrel_211, B_Mo_quarrel_214, B_Mo_quarrel_238, B_Mo_quarrel_291, B_Mo_quarrel_294, B_Mo_quarrel_353, B_Mo_quarrel_359, B_Mo_quarrel_365, Ct_Mo_join, Ct_Mo_nameOf, tt_ci, tt_cl, tt_nul, tt_il, tt_al, tt_ll, tt_is, tt_as, tt_ls, tt_inc, tt_add, tt_sub, tt_mul, tt_div, tt_rem, tt_ladd, tt_lmul, tt_ldiv, tt_lrem, tt_zeq, tt_zne, tt_zlt, tt_zge, tt_zgt, tt_zle, tt_ceq, tt_cne, tt_clt, tt_cge, tt_cgt, tt_cle, tt_nn, tt_cut, tt_pop, tt_dup, tt_dup2, tt_gI, tt_gR, tt_pI, tt_pZ, tt_pR, tt_ia, tt_ba, tt_za, tt_iS, tt_bS, tt_zS, tt_aa, tt_aS, tt_len, tt_and, tt_xor, tt_shr, tt_ushr, tt_lcmp, tt_i2b, tt_i2l, tt_l2i, tt_sw, swG, tt_ir, tt_zr, tt_br, tt_lr, tt_ar, tt_vr, tt_cV, tt_cS, tt_min, tt_max, tt_acp, pI, pII, pO, pA, pIA, pIIA, pOA, pOIA, pL, pLL, pLIA, pV, pCP, lI, lO, lL, nth, stL, clL, entA, fitL, rcv, List.take_succ_cons, List.take_zero, List.drop_succ_cons, List.drop_zero, List.reverse_cons, List.reverse_nil, List.nil_append, List.cons_append, List.length_cons, List.length_nil, Option.toList_some, Option.toList_none, gI_sI, gI_sA, gR_sI, gR_sA, gI_sR, gR_sR, hN_sI, hN_sA, hN_sR, isO_sI, isO_sA, isO_sR, isAr_sI, isAr_sA, isAr_sR, hC_sI, hC_sA, hC_sR, hZ_sI, hZ_sA, hZ_sR, MW_sI, MW_sA, true_and, and_true, true_or, or_true, and_self, forall_const, imp_self, implies_true, if_true, if_false, false_and, and_false, false_or, or_false, not_false_eq_true, not_true_eq_false, sI_sI, mr_tape w, mr_text w, mr_words w, mr_wordSize w, mr_subs w, mr_subSize w, mr_asked w, mr_pile w, mr_pileSize w, mr_opened w, mr_openedAt w, mr_begun w, mr_cells w, mr_keptCells w, mr_name w, mr_isLeft w, mr_isDone w, mr_keptLeft w, mr_keptDone w, mr_state w, mr_keptState w, mr_newOf w, mr_oldOf w, mr_spare w, mr_spareDone w, mr_out w, mr_metFrom w, mr_metBy w, mr_far w, mr_low w, mr_lows w, mr_lowSize w, mr_triedRow w, mr_triedColumn w, mr_triedValue w, mr_triedRows w, mr_sheet w, ma_tape w, ma_text w, ma_words w, ma_wordSize w, ma_subs w, ma_subSize w, ma_asked w, ma_pile w, ma_pileSize w, ma_opened w, ma_openedAt w, ma_begun w, ma_cells w, ma_keptCells w, ma_name w, ma_isLeft w, ma_isDone w, ma_keptLeft w, ma_keptDone w, ma_state w, ma_keptState w, ma_newOf w, ma_oldOf w, ma_spare w, ma_spareDone w, ma_out w, ma_metFrom w, ma_metBy w, ma_far w, ma_low w, ma_lows w, ma_lowSize w, ma_triedRow w, ma_triedColumn w, ma_triedValue w, ma_triedRows w, ma_sheet w, ml_tape, ml_text, ml_words, ml_wordSize, ml_subs, ml_subSize, ml_asked, ml_pile, ml_pileSize, ml_opened, ml_openedAt, ml_begun, ml_cells, ml_keptCells, ml_name, ml_isLeft, ml_isDone, ml_keptLeft, ml_keptDone, ml_state, ml_keptState, ml_newOf, ml_oldOf, ml_spare, ml_spareDone, ml_out, ml_metFrom, ml_metBy, ml_far, ml_low, ml_lows, ml_lowSize, ml_triedRow, ml_triedColumn, ml_triedValue, ml_triedRows, ml_sheet, mo_O w, HF_I, HF_nm, HF_sl, HF_ss, HF_sc, HF_R, HF_O, HF_A, HF_M, HF_C, HF_Z]
    rw [← hL]
    have hrN := hr.2.1
    have hr0 := hr.1
    have fr : forest nm N := hQ.1
    refine ⟨⟨by omega, by omega⟩, fun q => ⟨⟨by omega, by omega⟩, ⟨m, r + 1, nm, cl, some (.inl c), x6, x7, x8, rfl, by omega, by omega, hQ, hC9, hP, ?_⟩, ?_⟩, fun q => ?_⟩
    · have a2 : lfF nm (gI h pMo_isLeft) (r + 1) = lfF nm (gI h pMo_isLeft) r := by
        funext x
        unfold lfF
        by_cases z : x = r
        · subst z
          rw [if_neg (fun y => y.2.2 hn), if_neg (fun y => y.2.2 hn)]
        · have hc : (0 ≤ x ∧ x < r + 1 ∧ nm x ≠ x) ↔ (0 ≤ x ∧ x < r ∧ nm x ≠ x) := by
            constructor
            · rintro ⟨y1, y2, y3⟩; exact ⟨y1, by omega, y3⟩
            · rintro ⟨y1, y2, y3⟩; exact ⟨y1, by omega, y3⟩
          simp only [hc]
      have a3 : kq N nm (gI h pMo_isLeft) (r + 1) = kq N nm (gI h pMo_isLeft) r := by unfold kq; rw [a2]
      rw [clF_row q, a2, a3]
    · rw [hmu, muQ_214, muQ_294]
      simp only [locI, nth]
      omega
    · have ecl := clF_at (L := L) (N := N) (lf := (gI h pMo_isLeft)) (nm := nm) (cl := cl) (r := r) c0 (by omega : c < 10)
      have enx := clF_next (cl := cl) c0 (by omega : c < L) hL2 hr0 hrN hn hr.2.2
      rw [ecl]
      refine ⟨⟨by omega, by omega⟩, ⟨by omega, by omega⟩, by omega, by omega, fun q2 => ⟨⟨by omega, by omega⟩, ⟨m, r, c + 1, nm, cl, x6, x7, x8, rfl, hr, hn, by omega, by omega, hQ, hC9, hP, ?_⟩, ?_⟩, fun q2 => ?_⟩
      · rw [enx, if_pos q2]
      · rw [hmu, muQ_294, muQ_294]
        simp only [locI, nth]
        omega
      · have sV := (hQ.2.2.2.2.1 r c hr c0 (by omega) q2).1
        have s0 : 0 ≤ cl (10 * r + c) := sV.1
        have s1' : cl (10 * r + c) < N := sV.2.1
        refine ⟨⟨by omega, by omega⟩, ⟨by omega, by omega⟩, ⟨by omega, by omega⟩, ⟨by omega, by omega⟩, by omega, by omega, w, s0, by omega, fun x x0 x1 => fr x x0 (by omega), fun n n0 n1 hn2 => ⟨by omega, by omega, ⟨by omega, by omega⟩, ⟨m, r, c + 1, nm, cl, x6, x7, x8, rfl, hr, hn, by omega, by omega, hQ, hC9, hP, ?_⟩, ?_⟩⟩
        · rw [enx, if_neg q2, root_rt hn2]
        · rw [hmu, muQ_294, muQ_294]
          simp only [locI, nth]
          omega
  · simp (decide := true) only [B_Mo_quarrel_0, B_Mo_quarrel_7, B_Mo_quarrel_30, B_Mo_quarrel_38, B_Mo_quarrel_47, B_Mo_quarrel_82, B_Mo_quarrel_85, B_Mo_quarrel_121, B_Mo_quarrel_171, B_Mo_quarrel_196, B_Mo_quarrel_202, B_Mo_quarrel_208, B_Mo_quarrel_211, B_Mo_quarrel_214, B_Mo_quarrel_238, B_Mo_quarrel_291, B_Mo_quarrel_294, B_Mo_quarrel_353, B_Mo_quarrel_359, B_Mo_quarrel_365, Ct_Mo_join, Ct_Mo_nameOf, tt_ci, tt_cl, tt_nul, tt_il, tt_al, tt_ll, tt_is, tt_as, tt_ls, tt_inc, tt_add, tt_sub, tt_mul, tt_div, tt_rem, tt_ladd, tt_lmul, tt_ldiv, tt_lrem, tt_zeq, tt_zne, tt_zlt, tt_zge, tt_zgt, tt_zle, tt_ceq, tt_cne, tt_clt, tt_cge, tt_cgt, tt_cle, tt_nn, tt_cut, tt_pop, tt_dup, tt_dup2, tt_gI, tt_gR, tt_pI, tt_pZ, tt_pR, tt_ia, tt_ba, tt_za, tt_iS, tt_bS, tt_zS, tt_aa, tt_aS, tt_len, tt_and, tt_xor, tt_shr, tt_ushr, tt_lcmp, tt_i2b, tt_i2l, tt_l2i, tt_sw, swG, tt_ir, tt_zr, tt_br, tt_lr, tt_ar, tt_vr, tt_cV, tt_cS, tt_min, tt_max, tt_acp, pI, pII, pO, pA, pIA, pIIA, pOA, pOIA, pL, pLL, pLIA, pV, pCP, lI, lO, lL, nth, stL, clL, entA, fitL, rcv, List.take_succ_cons, List.take_zero, List.drop_succ_cons, List.drop_zero, List.reverse_cons, List.reverse_nil, List.nil_append, List.cons_append, List.length_cons, List.length_nil, Option.toList_some, Option.toList_none, gI_sI, gI_sA, gR_sI, gR_sA, gI_sR, gR_sR, hN_sI, hN_sA, hN_sR, isO_sI, isO_sA, isO_sR, isAr_sI, isAr_sA, isAr_sR, hC_sI, hC_sA, hC_sR, hZ_sI, hZ_sA, hZ_sR, MW_sI, MW_sA, true_and, and_true, true_or, or_true, and_self, forall_const, imp_self, implies_true, if_true, if_false, false_and, and_false, false_or, or_false, not_false_eq_true, not_true_eq_false, sI_sI, mr_tape w, mr_text w, mr_words w, mr_wordSize w, mr_subs w, mr_subSize w, mr_asked w, mr_pile w, mr_pileSize w, mr_opened w, mr_openedAt w, mr_begun w, mr_cells w, mr_keptCells w, mr_name w, mr_isLeft w, mr_isDone w, mr_keptLeft w, mr_keptDone w, mr_state w, mr_keptState w, mr_newOf w, mr_oldOf w, mr_spare w, mr_spareDone w, mr_out w, mr_metFrom w, mr_metBy w, mr_far w, mr_low w, mr_lows w, mr_lowSize w, mr_triedRow w, mr_triedColumn w, mr_triedValue w, mr_triedRows w, mr_sheet w, ma_tape w, ma_text w, ma_words w, ma_wordSize w, ma_subs w, ma_subSize w, ma_asked w, ma_pile w, ma_pileSize w, ma_opened w, ma_openedAt w, ma_begun w, ma_cells w, ma_keptCells w, ma_name w, ma_isLeft w, ma_isDone w, ma_keptLeft w, ma_keptDone w, ma_state w, ma_keptState w, ma_newOf w, ma_oldOf w, ma_spare w, ma_spareDone w, ma_out w, ma_metFrom w, ma_metBy w, ma_far w, ma_low w, ma_lows w, ma_lowSize w, ma_triedRow w, ma_triedColumn w, ma_triedValue w, ma_triedRows w, ma_sheet w, ml_tape, ml_text, ml_words, ml_wordSize, ml_subs, ml_subSize, ml_asked, ml_pile, ml_pileSize, ml_opened, ml_openedAt, ml_begun, ml_cells, ml_keptCells, ml_name, ml_isLeft, ml_isDone, ml_keptLeft, ml_keptDone, ml_state, ml_keptState, ml_newOf, ml_oldOf, ml_spare, ml_spareDone, ml_out, ml_metFrom, ml_metBy, ml_far, ml_low, ml_lows, ml_lowSize, ml_triedRow, ml_triedColumn, ml_triedValue, ml_triedRows, ml_sheet, mo_O w]
    refine ⟨0, rfl, by omega, ?_⟩
    refine PH_ext (fun q j => ?_) (fun _ _ => rfl) rfl rfl rfl
    simp only [gI_sA, gI_sI]
    grind
