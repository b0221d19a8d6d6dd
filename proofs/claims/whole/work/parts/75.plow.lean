/-! THE MODEL: low, its run -/
theorem putE_at {E : LE} {r c t x d : Int} (h1 : E r c = -2) (h2 : E t (oc c) = -2) : E x d = if (x = r ∧ d = c) ∨ (x = t ∧ d = oc c) then -2 else putE E r c t x d := by
  by_cases q : (x = r ∧ d = c) ∨ (x = t ∧ d = oc c)
  · rw [if_pos q]
    rcases q with ⟨rfl, rfl⟩ | ⟨rfl, rfl⟩
    · exact h1
    · exact h2
  · rw [if_neg q, putE_3 (fun z => q (Or.inr z)) (fun z => q (Or.inl z))]
theorem tb_rel {h : PH} {post : TR} {L M : Int} {E : LE} {N r c t : Int} {fs : List LF} (w : MW h) (L2 : L % 2 = 0) (L10 : L ≤ 10) (M6 : M ≤ 6) (hS : stkH h L M ((E, N, r, c, t) :: fs)) (hT : topR h L ((E, N, r, c, t) :: fs))
    (hp : ∀ h', FrP (fun b j => b = pMo_low ∨ (b = pMo ∧ j = 54)) h h' → lwC h' E N L → gI h' pMo 54 = N → post none h') : Ct_Mo_takesBack [.inr (.inl (some pMo)), .inl (fs.length : Int)] h post := by
  have hlen := stk_len L10 M6 hS
  simp only [List.length_cons] at hlen
  obtain ⟨⟨a1, a2, a3, a4⟩, ⟨b1, b2, b3, b4, b5, b6⟩, -, -⟩ := hS
  obtain ⟨⟨r0, r1, c0, c1⟩, he, -⟩ := b3
  have o := oc_in L2 c0 c1
  refine ⟨rfl, w, by omega, by omega, fun z => ?_, fun z => ?_⟩
  · have t0 : t = 0 := by omega
    have := hT.1 t0
    exact hp h (FrP_refl _ h) this.1 this.2
  · have tn : t ≠ 0 := by omega
    obtain ⟨d1, d2, d3⟩ := hT.2 tn
    rw [a1, a2, a3, a4]
    refine ⟨r0, by omega, c0, by omega, by omega, by omega, ?_⟩
    have eN : N ≤ upL N (t - 1) := by unfold upL; split <;> omega
    have e0 := fun x d => putE_at (x := x) (d := d) he d3
    by_cases q : t - 1 < N
    · rw [if_pos q]
      refine hp _ (FrP_sI (Or.inr ⟨rfl, rfl⟩) (FrP_sI (Or.inl rfl) (FrP_sI (Or.inl rfl) (FrP_refl _ h)))) (fun x d x0 x1 y0 y1 => ?_) rfl
      rw [e0 x d]
      simp (decide := true) only [gI_sI, if_false, false_and, true_and]
      by_cases q1 : x = t - 1 ∧ d = oc c
      · rw [if_pos (by rw [q1.1, q1.2]), if_pos (Or.inr q1)]
      · rw [if_neg (by omega)]
        by_cases q2 : x = r ∧ d = c
        · rw [if_pos (by rw [q2.1, q2.2]), if_pos (Or.inl q2)]
        · rw [if_neg (by omega), if_neg (by omega)]
          exact d1 x d x0 (by omega) y0 y1
    · rw [if_neg q]
      refine hp _ (FrP_sI (Or.inr ⟨rfl, rfl⟩) (FrP_sI (Or.inl rfl) (FrP_refl _ h))) (fun x d x0 x1 y0 y1 => ?_) rfl
      rw [e0 x d]
      simp (decide := true) only [gI_sI, if_false, false_and, true_and]
      by_cases q2 : x = r ∧ d = c
      · rw [if_pos (by rw [q2.1, q2.2]), if_pos (Or.inl q2)]
      · rw [if_neg (by omega), if_neg (by omega)]
        exact d1 x d x0 (by omega) y0 y1
/-- the loop's head -/
def lwJ (h : PH) (L n : Int) (ls : LSt) (h' : PH) : Prop := ∃ (d : Int) (x3 x4 : Option PV) (S : List LF) (a : LA), ls = [some (.inr (.inl (some pMo))), some (.inl n), some (.inl d), x3, x4] ∧ -1 ≤ d ∧ d ≤ 60 ∧ lwB h h' L n a ∧ fnA (wM h) L n S a = lowA (wM h) L n ∧ (a.2.1 = 0 → d = (S.length : Int) - 1 ∧ stkH h' L n S ∧ topR h' L S)
theorem lwB_keep {h h' h1 : PH} {L M : Int} {a : LA} (hB : lwB h h' L M a) (f : FrP (fun b j => b = pMo_low ∨ b = pMo_triedRow ∨ b = pMo_triedColumn ∨ b = pMo_triedValue ∨ b = pMo_triedRows ∨ (b = pMo ∧ j = 54)) h' h1) : lwB h h1 L M a := by
  obtain ⟨b1, b2, b3, b4, b5, b6, b7⟩ := hB
  have e : ∀ j, j ≠ 54 → gI h1 pMo j = gI h' pMo j := fun j hj => f.1 _ _ (by simp (decide := true) [hj])
  refine ⟨FrP_trans b1 (FrP_mono (fun b j z => ?_) f), (lwM_eq (FrQ_of f)).mpr b2, by rw [e 55 (by decide)]; exact b3, by rw [e 4 (by decide)]; exact b4, by rw [e 1 (by decide)]; exact b5, by rw [e 2 (by decide)]; exact b6, b7⟩
  unfold Plw
  rcases z with z | z | z | z | z | ⟨z1, z2⟩
  · exact Or.inr (Or.inl z)
  · exact Or.inr (Or.inr (Or.inl z))
  · exact Or.inr (Or.inr (Or.inr (Or.inl z)))
  · exact Or.inr (Or.inr (Or.inr (Or.inr (Or.inl z))))
  · exact Or.inr (Or.inr (Or.inr (Or.inr (Or.inr (Or.inl z)))))
  · exact Or.inr (Or.inr (Or.inr (Or.inr (Or.inr (Or.inr ⟨z1, Or.inr (Or.inr (Or.inr (by omega)))⟩)))))
theorem stkH_keep {h h1 : PH} {L M : Int} {S : List LF} (hS : stkH h L M S) (e1 : gI h1 pMo_triedRow = gI h pMo_triedRow) (e2 : gI h1 pMo_triedColumn = gI h pMo_triedColumn) (e3 : gI h1 pMo_triedValue = gI h pMo_triedValue) (e4 : gI h1 pMo_triedRows = gI h pMo_triedRows) : stkH h1 L M S := by
  unfold stkH
  rw [e1, e2, e3, e4]
  exact hS
theorem fst_ex {P : Int → Int → Prop} {N L : Int} (hL : L ≤ 10) (h : ¬ noP P N L) : ∃ r c, isFst P N L r c := by
  have ex : ∃ n : Nat, ∃ r c : Int, (n : Int) = 10 * r + c ∧ 0 ≤ r ∧ r < N ∧ 0 ≤ c ∧ c < L ∧ P r c := by
    apply Classical.byContradiction
    intro z
    exact h (fun r c r0 r1 c0 c1 hp => z ⟨(10 * r + c).toNat, r, c, by omega, r0, r1, c0, c1, hp⟩)
  obtain ⟨n, hn⟩ := ex
  obtain ⟨m, -, ⟨r, c, e, r0, r1, c0, c1, hp⟩, hm⟩ := least_of (P := fun n : Nat => ∃ r c : Int, (n : Int) = 10 * r + c ∧ 0 ≤ r ∧ r < N ∧ 0 ≤ c ∧ c < L ∧ P r c) n hn
  refine ⟨r, c, ⟨r0, r1, c0, c1⟩, hp, fun r' c' z0 y0 y1 z hp' => ?_⟩
  exact hm (10 * r' + c').toNat (by omega) ⟨r', c', by omega, z0, by omega, y0, y1, hp'⟩
/-- the try itself, from where the cells are set -/
theorem low_222 {h h1 : PH} {K : TK} {R : TR} {L n d v : Int} {x4 : Option PV} {E : LE} {N r c : Int} {fs : List LF} {a : LA} (w : MW h) (L0 : L = 2 * gI h pMo 0) (L2 : 2 ≤ L) (L10 : L ≤ 10) (n1 : 1 ≤ n) (n6 : n ≤ 6) (hD : MWd L h) (hd : d = fs.length) (hB : lwB h h1 L n (a.1 + 1, a.2)) (ha : a.1 < 3000) (hal : (a.2.2.length : Int) ≤ a.1) (he : a.2.1 = 0)
    (hS : stkH h1 L n ((E, N, r, c, v + 1) :: fs)) (v0 : 0 ≤ v) (v1 : v ≤ N) (vn : v < n) (hv : E v (oc c) = -2) (hC : lwC h1 E (upL N v) L) (h54 : gI h1 pMo 54 = upL N v) (hfn : fnA (wM h) L n fs (loA (goA (wM h) L n (KL - fs.length)) (wM h) L E N r c (ntA N n (v + 1)) (v + 1) (tyA (goA (wM h) L n (KL - fs.length)) (wM h) L E N r c v a)) = lowA (wM h) L n)
    (hK : ∀ ls' h2, lwJ h L n ls' h2 → gI h2 pMo 56 = a.1 + 1 → K 99 ls' h2) : B_Mo_low_222 K R [some (.inr (.inl (some pMo))), some (.inl n), some (.inl d), some (.inl v), x4] [] h1 := by
  have w1 := FrP_MW hB.1 w
  have hlen := stk_len L10 n6 hS
  simp only [List.length_cons] at hlen
  obtain ⟨⟨a1, a2, a3, a4⟩, ⟨b1, b2, b3, b4, b5, b6⟩, bt, bs⟩ := id hS
  obtain ⟨⟨r0, r1, c0, c1⟩, he0, -⟩ := id b3
  have o := oc_in (L := L) (by omega) c0 c1
  rw [← hd] at a1 a2 a3 a4
  have uN : upL N v ≤ n ∧ N ≤ upL N v ∧ v < upL N v := by unfold upL; split <;> omega
  have hW1 : LWT L (putE E r c v) (upL N v) := LWT_put (by omega) b1 r0 r1 c0 c1 v0 v1
  obtain ⟨h2, eh2⟩ : ∃ h2, h2 = sI (sI h1 pMo_low (10 * r + c) v) pMo_low (10 * v + oc c) r := ⟨_, rfl⟩
  have f2 : FrP (fun b j => b = pMo_low ∨ b = pMo_triedRow ∨ b = pMo_triedColumn ∨ b = pMo_triedValue ∨ b = pMo_triedRows ∨ (b = pMo ∧ j = 54)) h1 h2 := by rw [eh2]; exact FrP_sI (Or.inl rfl) (FrP_sI (Or.inl rfl) (FrP_refl _ h1))
  have hB2 := lwB_keep hB f2
  have w2 := FrP_MW hB2.1 w
  have hC2 : lwC h2 (putE E r c v) (upL N v) L := by
    intro x y x0 x1 y0 y1
    rw [eh2]
    simp (decide := true) only [gI_sI, true_and]
    by_cases q1 : x = v ∧ y = oc c
    · rw [if_pos (by rw [q1.1, q1.2]), q1.1, q1.2, putE_1]
    · rw [if_neg (by omega)]
      by_cases q2 : x = r ∧ y = c
      · rw [if_pos (by rw [q2.1, q2.2]), q2.1, q2.2, putE_2]
      · rw [if_neg (by omega), putE_3 q1 q2]
        exact hC x y x0 x1 y0 y1
  have h54' : gI h2 pMo 54 = upL N v := by rw [eh2]; exact h54
  have hS2 : stkH h2 L n ((E, N, r, c, v + 1) :: fs) := by rw [eh2]; exact stkH_keep hS rfl rfl rfl rfl
  have hT2 : topR h2 L ((E, N, r, c, v + 1) :: fs) := ⟨fun z => by omega, fun _ => by rw [show v + 1 - 1 = v by omega]; exact ⟨hC2, h54', hv⟩⟩
  have fr := hB2.1
  have eW : wM h2 = wM h ∧ (MWd L h2) := by
    have e1 := FrP_arr fr (b := pMo_words) (fun j z => by unfold Plw Pfo Pmc Pm at z; simp (decide := true) at z)
    have e2 := FrP_arr fr (b := pMo_subs) (fun j z => by unfold Plw Pfo Pmc Pm at z; simp (decide := true) at z)
    have e3 := FrP_arr fr (b := pMo_wordSize) (fun j z => by unfold Plw Pfo Pmc Pm at z; simp (decide := true) at z)
    have e4 := FrP_arr fr (b := pMo_subSize) (fun j z => by unfold Plw Pfo Pmc Pm at z; simp (decide := true) at z)
    have e5 : gI h2 pMo 14 = gI h pMo 14 := fr.1 _ _ (by unfold Plw Pfo Pmc Pm; simp (decide := true))
    have e6 : gI h2 pMo 15 = gI h pMo 15 := fr.1 _ _ (by unfold Plw Pfo Pmc Pm; simp (decide := true))
    unfold wM MWd
    rw [e1, e2, e3, e4, e5, e6]
    exact ⟨rfl, hD⟩
  have e0 : gI h2 pMo 0 = gI h pMo 0 := fr.1 _ _ (by unfold Plw Pfo Pmc Pm; simp (decide := true))
  have o2 : isO h2 pMo 9 := mo_O w2
  have e53 := hB2.2.1.2.2.2.2.1
  simp (decide := true) only [↓E_Mo_low_0, ↓E_Mo_low_16, ↓E_Mo_low_22, ↓E_Mo_low_46, ↓E_Mo_low_66, ↓E_Mo_low_99, ↓E_Mo_low_132, ↓E_Mo_low_157, ↓E_Mo_low_185, ↓E_Mo_low_212, ↓E_Mo_low_222, ↓E_Mo_low_280, ↓E_Mo_low_299, ↓E_Mo_low_312, ↓ce_Mo_no, ↓ce_Mo_good, ↓ce_Mo_opens, ↓ce_Mo_takesBack, ↓ce_Mo_nextValue, ↓ce_Mo_other, ↓ce_Mo_isBroken, ↓ce_Mo_firstEmpty, ↓ce_Mo_foundOne, ↓e_ci, ↓e_cl, ↓e_nul, ↓e_add, ↓e_sub, ↓e_mul, ↓e_ladd, ↓e_lmul, ↓e_div, ↓e_rem, ↓e_ldiv, ↓e_lrem, ↓e_zeq, ↓e_zne, ↓e_zlt, ↓e_zge, ↓e_zgt, ↓e_zle, ↓e_ceq, ↓e_cne, ↓e_clt, ↓e_cge, ↓e_cgt, ↓e_cle, ↓e_nn, ↓e_gI, ↓e_gR, ↓e_pI, ↓e_pZ, ↓e_pR, ↓e_ia, ↓e_ba, ↓e_za, ↓e_iS, ↓e_bS, ↓e_zS, ↓e_aa, ↓e_aS, ↓e_len, ↓e_and, ↓e_xor, ↓e_shr, ↓e_ushr, ↓e_lcmp, ↓e_i2b, ↓e_i2l, ↓e_l2i, ↓e_sw, ↓e_min, ↓e_max, ↓e_acp, ↓e_il_0, ↓e_al_0, ↓e_ll_0, ↓e_is_0n, ↓e_as_0n, ↓e_ls_0n, ↓e_inc_0n, ↓e_il_1, ↓e_al_1, ↓e_ll_1, ↓e_is_1i, ↓e_as_1i, ↓e_ls_1i, ↓e_inc_1i, ↓e_is_1o, ↓e_as_1o, ↓e_ls_1o, ↓e_inc_1o, ↓e_is_1n, ↓e_as_1n, ↓e_ls_1n, ↓e_inc_1n, ↓e_il_2, ↓e_al_2, ↓e_ll_2, ↓e_is_2i, ↓e_as_2i, ↓e_ls_2i, ↓e_inc_2i, ↓e_is_2o, ↓e_as_2o, ↓e_ls_2o, ↓e_inc_2o, ↓e_is_2n, ↓e_as_2n, ↓e_ls_2n, ↓e_inc_2n, ↓e_il_3, ↓e_al_3, ↓e_ll_3, ↓e_is_3i, ↓e_as_3i, ↓e_ls_3i, ↓e_inc_3i, ↓e_is_3o, ↓e_as_3o, ↓e_ls_3o, ↓e_inc_3o, ↓e_is_3n, ↓e_as_3n, ↓e_ls_3n, ↓e_inc_3n, ↓e_il_4, ↓e_al_4, ↓e_ll_4, ↓e_is_4i, ↓e_as_4i, ↓e_ls_4i, ↓e_inc_4i, ↓e_is_4o, ↓e_as_4o, ↓e_ls_4o, ↓e_inc_4o, ↓e_is_4n, ↓e_as_4n, ↓e_ls_4n, ↓e_inc_4n, ↓e_il_5, ↓e_al_5, ↓e_ll_5, ↓e_is_5i, ↓e_as_5i, ↓e_ls_5i, ↓e_inc_5i, ↓e_is_5o, ↓e_as_5o, ↓e_ls_5o, ↓e_inc_5o, ↓e_is_5n, ↓e_as_5n, ↓e_ls_5n, ↓e_inc_5n, ↓e_il_6, ↓e_al_6, ↓e_ll_6, ↓e_is_6i, ↓e_as_6i, ↓e_ls_6i, ↓e_inc_6i, ↓e_is_6o, ↓e_as_6o, ↓e_ls_6o, ↓e_inc_6o, ↓e_is_6n, ↓e_as_6n, ↓e_ls_6n, ↓e_inc_6n, ↓e_il_7, ↓e_al_7, ↓e_ll_7, ↓e_is_7i, ↓e_as_7i, ↓e_ls_7i, ↓e_inc_7i, ↓e_is_7o, ↓e_as_7o, ↓e_ls_7o, ↓e_inc_7o, ↓e_is_7n, ↓e_as_7n, ↓e_ls_7n, ↓e_inc_7n, ↓e_il_8, ↓e_al_8, ↓e_ll_8, ↓e_is_8i, ↓e_as_8i, ↓e_ls_8i, ↓e_inc_8i, ↓e_is_8o, ↓e_as_8o, ↓e_ls_8o, ↓e_inc_8o, ↓e_is_8n, ↓e_as_8n, ↓e_ls_8n, ↓e_inc_8n, ↓e_il_9, ↓e_al_9, ↓e_ll_9, ↓e_is_9i, ↓e_as_9i, ↓e_ls_9i, ↓e_inc_9i, ↓e_is_9o, ↓e_as_9o, ↓e_ls_9o, ↓e_inc_9o, ↓e_is_9n, ↓e_as_9n, ↓e_ls_9n, ↓e_inc_9n, ↓e_il_10, ↓e_al_10, ↓e_ll_10, ↓e_is_10i, ↓e_as_10i, ↓e_ls_10i, ↓e_inc_10i, ↓e_is_10o, ↓e_as_10o, ↓e_ls_10o, ↓e_inc_10o, ↓e_is_10n, ↓e_as_10n, ↓e_ls_10n, ↓e_inc_10n, ↓e_il_11, ↓e_al_11, ↓e_ll_11, ↓e_is_11i, ↓e_as_11i, ↓e_ls_11i, ↓e_inc_11i, ↓e_is_11o, ↓e_as_11o, ↓e_ls_11o, ↓e_inc_11o, ↓e_is_11n, ↓e_as_11n, ↓e_ls_11n, ↓e_inc_11n, ↓e_il_12, ↓e_al_12, ↓e_ll_12, ↓e_is_12i, ↓e_as_12i, ↓e_ls_12i, ↓e_inc_12i, ↓e_is_12o, ↓e_as_12o, ↓e_ls_12o, ↓e_inc_12o, ↓e_is_12n, ↓e_as_12n, ↓e_ls_12n, ↓e_inc_12n, ↓e_dup_i, ↓e_pop_i, ↓e_dup2_ii, ↓e_dup2_io, ↓e_dup_o, ↓e_pop_o, ↓e_dup2_oi, ↓e_dup2_oo, ↓e_ir, ↓e_zr, ↓e_br, ↓e_lr, ↓e_ar, ↓e_vr, ↓e_cut, ↓e_cS_0, ↓e_cV_1, ↓e_cS_1, ↓e_cV_2, ↓e_cS_2, ↓e_cV_3, ↓e_cS_3, ↓e_cV_4, ↓e_cS_4, ↓e_cV_5, ↓e_cS_5, ↓e_cV_6, ↓e_cS_6, ↓e_cV_7, ↓e_cS_7, ↓e_swn, ↓e_swc, ↓e_tls, ↓e_tln, E_Mo_low_0, E_Mo_low_16, E_Mo_low_22, E_Mo_low_46, E_Mo_low_66, E_Mo_low_99, E_Mo_low_132, E_Mo_low_157, E_Mo_low_185, E_Mo_low_212, E_Mo_low_222, E_Mo_low_280, E_Mo_low_299, E_Mo_low_312, ce_Mo_no, ce_Mo_good, ce_Mo_opens, ce_Mo_takesBack, ce_Mo_nextValue, ce_Mo_other, ce_Mo_isBroken, ce_Mo_firstEmpty, ce_Mo_foundOne, e_ci, e_cl, e_nul, e_add, e_sub, e_mul, e_ladd, e_lmul, e_div, e_rem, e_ldiv, e_lrem, e_zeq, e_zne, e_zlt, e_zge, e_zgt, e_zle, e_ceq, e_cne, e_clt, e_cge, e_cgt, e_cle, e_nn, e_gI, e_gR, e_pI, e_pZ, e_pR, e_ia, e_ba, e_za, e_iS, e_bS, e_zS, e_aa, e_aS, e_len, e_and, e_xor, e_shr, e_ushr, e_lcmp, e_i2b, e_i2l, e_l2i, e_sw, e_min, e_max, e_acp, e_il_0, e_al_0, e_ll_0, e_is_0n, e_as_0n, e_ls_0n, e_inc_0n, e_il_1, e_al_1, e_ll_1, e_is_1i, e_as_1i, e_ls_1i, e_inc_1i, e_is_1o, e_as_1o, e_ls_1o, e_inc_1o, e_is_1n, e_as_1n, e_ls_1n, e_inc_1n, e_il_2, e_al_2, e_ll_2, e_is_2i, e_as_2i, e_ls_2i, e_inc_2i, e_is_2o, e_as_2o, e_ls_2o, e_inc_2o, e_is_2n, e_as_2n, e_ls_2n, e_inc_2n, e_il_3, e_al_3, e_ll_3, e_is_3i, e_as_3i, e_ls_3i, e_inc_3i, e_is_3o, e_as_3o, e_ls_3o, e_inc_3o, e_is_3n, e_as_3n, e_ls_3n, e_inc_3n, e_il_4, e_al_4, e_ll_4, e_is_4i, e_as_4i, e_ls_4i, e_inc_4i, e_is_4o, e_as_4o, e_ls_4o, e_inc_4o, e_is_4n, e_as_4n, e_ls_4n, e_inc_4n, e_il_5, e_al_5, e_ll_5, e_is_5i, e_as_5i, e_ls_5i, e_inc_5i, e_is_5o, e_as_5o, e_ls_5o, e_inc_5o, e_is_5n, e_as_5n, e_ls_5n, e_inc_5n, e_il_6, e_al_6, e_ll_6, e_is_6i, e_as_6i, e_ls_6i, e_inc_6i, e_is_6o, e_as_6o, e_ls_6o, e_inc_6o, e_is_6n, e_as_6n, e_ls_6n, e_inc_6n, e_il_7, e_al_7, e_ll_7, e_is_7i, e_as_7i, e_ls_7i, e_inc_7i, e_is_7o, e_as_7o, e_ls_7o, e_inc_7o, e_is_7n, e_as_7n, e_ls_7n, e_inc_7n, e_il_8, e_al_8, e_ll_8, e_is_8i, e_as_8i, e_ls_8i, e_inc_8i, e_is_8o, e_as_8o, e_ls_8o, e_inc_8o, e_is_8n, e_as_8n, e_ls_8n, e_inc_8n, e_il_9, e_al_9, e_ll_9, e_is_9i, e_as_9i, e_ls_9i, e_inc_9i, e_is_9o, e_as_9o, e_ls_9o, e_inc_9o, e_is_9n, e_as_9n, e_ls_9n, e_inc_9n, e_il_10, e_al_10, e_ll_10, e_is_10i, e_as_10i, e_ls_10i, e_inc_10i, e_is_10o, e_as_10o, e_ls_10o, e_inc_10o, e_is_10n, e_as_10n, e_ls_10n, e_inc_10n, e_il_11, e_al_11, e_ll_11, e_is_11i, e_as_11i, e_ls_11i, e_inc_11i, e_is_11o, e_as_11o, e_ls_11o, e_inc_11o, e_is_11n, e_as_11n, e_ls_11n, e_inc_11n, e_il_12, e_al_12, e_ll_12, e_is_12i, e_as_12i, e_ls_12i, e_inc_12i, e_is_12o, e_as_12o, e_ls_12o, e_inc_12o, e_is_12n, e_as_12n, e_ls_12n, e_inc_12n, e_dup_i, e_pop_i, e_dup2_ii, e_dup2_io, e_dup_o, e_pop_o, e_dup2_oi, e_dup2_oo, e_ir, e_zr, e_br, e_lr, e_ar, e_vr, e_cut, e_cS_0, e_cV_1, e_cS_1, e_cV_2, e_cS_2, e_cV_3, e_cS_3, e_cV_4, e_cS_4, e_cV_5, e_cS_5, e_cV_6, e_cS_6, e_cV_7, e_cS_7, e_swn, e_swc, e_tls, e_tln, gI_sI, gI_sA, gR_sI, gR_sA, gI_sR, gR_sR, hN_sI, hN_sA, hN_sR, isO_sI, isO_sA, isO_sR, isAr_sI, isAr_sA, isAr_sR, hC_sI, hC_sA, hC_sR, hZ_sI, hZ_sA, hZ_sR, MW_sI, MW_sA, true_and, and_true, true_or, or_true, and_self, forall_const, imp_self, implies_true, if_true, if_false, false_and, and_false, false_or, or_false, not_false_eq_true, not_true_eq_false, sI_sI, entA, fitL, List.length_cons, List.length_nil, List.nil_append, List.cons_append, false_imp_iff, true_imp_iff, mr_tape w1, mr_text w1, mr_words w1, mr_wordSize w1, mr_subs w1, mr_subSize w1, mr_asked w1, mr_pile w1, mr_pileSize w1, mr_opened w1, mr_openedAt w1, mr_begun w1, mr_cells w1, mr_keptCells w1, mr_name w1, mr_isLeft w1, mr_isDone w1, mr_keptLeft w1, mr_keptDone w1, mr_state w1, mr_keptState w1, mr_newOf w1, mr_oldOf w1, mr_spare w1, mr_spareDone w1, mr_out w1, mr_metFrom w1, mr_metBy w1, mr_far w1, mr_low w1, mr_lows w1, mr_lowSize w1, mr_triedRow w1, mr_triedColumn w1, mr_triedValue w1, mr_triedRows w1, mr_sheet w1, ma_tape w1, ma_text w1, ma_words w1, ma_wordSize w1, ma_subs w1, ma_subSize w1, ma_asked w1, ma_pile w1, ma_pileSize w1, ma_opened w1, ma_openedAt w1, ma_begun w1, ma_cells w1, ma_keptCells w1, ma_name w1, ma_isLeft w1, ma_isDone w1, ma_keptLeft w1, ma_keptDone w1, ma_state w1, ma_keptState w1, ma_newOf w1, ma_oldOf w1, ma_spare w1, ma_spareDone w1, ma_out w1, ma_metFrom w1, ma_metBy w1, ma_far w1, ma_low w1, ma_lows w1, ma_lowSize w1, ma_triedRow w1, ma_triedColumn w1, ma_triedValue w1, ma_triedRows w1, ma_sheet w1, ml_tape, ml_text, ml_words, ml_wordSize, ml_subs, ml_subSize, ml_asked, ml_pile, ml_pileSize, ml_opened, ml_openedAt, ml_begun, ml_cells, ml_keptCells, ml_name, ml_isLeft, ml_isDone, ml_keptLeft, ml_keptDone, ml_state, ml_keptState, ml_newOf, ml_oldOf, ml_spare, ml_spareDone, ml_out, ml_metFrom, ml_metBy, ml_far, ml_low, ml_lows, ml_lowSize, ml_triedRow, ml_triedColumn, ml_triedValue, ml_triedRows, ml_sheet, mo_O w1, a1, a2, ← eh2]
  refine ⟨by omega, by omega, ⟨by omega, by omega⟩, by omega, by omega, ⟨by omega, by omega⟩, by omega, by omega, ⟨by omega, by omega⟩, by omega, by omega, c0, by omega, ⟨by omega, by omega⟩, by omega, by omega, by omega, by omega, o2, w2, putE E r c v, upL N v, L, L10, eW.2, ⟨hC2, h54', hW1, by omega⟩, fun z => ?_, fun z => ?_⟩
  · have e : tyA (goA (wM h) L n (KL - fs.length)) (wM h) L E N r c v a = (a.1 + 1, a.2) := by
      unfold tyA
      rw [pB_t (by rw [eW.1] at z; exact z)]
      rfl
    rw [e] at hfn
    exact hK _ _ ⟨d, _, _, (E, N, r, c, v + 1) :: fs, (a.1 + 1, a.2), rfl, by omega, by omega, hB2, hfn, fun _ => ⟨by rw [hd]; simp, hS2, hT2⟩⟩ hB2.2.1.1
  · have nb : ¬ brk (putE E r c v) (upL N v) (wM h) := by rw [eW.1] at z; exact z
    have et : tyA (goA (wM h) L n (KL - fs.length)) (wM h) L E N r c v a = match feA (putE E r c v) (upL N v) L with
        | none => fdA L (putE E r c v) (upL N v) (a.1 + 1, a.2)
        | some _ => goA (wM h) L n (KL - fs.length) (putE E r c v) (upL N v) (a.1 + 1, a.2) := by
      unfold tyA
      rw [pB_f nb]
      rfl
    refine ⟨o2, w2, putE E r c v, upL N v, L, by rw [e0]; exact L0, L2, L10, ⟨hC2, h54', hW1, by omega⟩, fun z2 => ?_, fun z2 => ?_⟩
    · have hno : ¬ noP (emP (putE E r c v)) (upL N v) L := fun y => z2 (feV_none y)
      obtain ⟨r2, c2, hf⟩ := fst_ex L10 hno
      have ev := feV_some hf
      obtain ⟨⟨p0, p1, p2, p3⟩, p4, -⟩ := id hf
      rw [ev, show (10 * r2 + c2) / 10 = r2 by omega, show (10 * r2 + c2) % 10 = c2 by omega, h54']
      refine ⟨⟨by omega, by omega⟩, o2, w2, by omega, by omega, by omega, by omega, ?_⟩
      obtain ⟨h3, eh3⟩ : ∃ h3, h3 = sI (sI (sI (sI h2 pMo_triedRow (d + 1) r2) pMo_triedColumn (d + 1) c2) pMo_triedValue (d + 1) (-1)) pMo_triedRows (d + 1) (upL N v) := ⟨_, rfl⟩
      rw [← eh3]
      have f3 : FrP (fun b j => b = pMo_low ∨ b = pMo_triedRow ∨ b = pMo_triedColumn ∨ b = pMo_triedValue ∨ b = pMo_triedRows ∨ (b = pMo ∧ j = 54)) h2 h3 := by
        rw [eh3]
        exact FrP_sI (by simp) (FrP_sI (by simp) (FrP_sI (by simp) (FrP_sI (by simp) (FrP_refl _ h2))))
      have hB3 := lwB_keep hB2 f3
      have efl := flN_put (E := E) (t := v) r0 (by omega) c0 (by omega) he0 (by omega) (by omega)
      have hkl : KL - fs.length = (KL - ((E, N, r, c, v + 1) :: fs).length) + 1 := by
        have := KL_eq
        simp only [List.length_cons]
        omega
      have eg : goA (wM h) L n (KL - fs.length) (putE E r c v) (upL N v) (a.1 + 1, a.2) = loA (goA (wM h) L n (KL - ((E, N, r, c, v + 1) :: fs).length)) (wM h) L (putE E r c v) (upL N v) r2 c2 (ntA (upL N v) n 0) 0 (a.1 + 1, a.2) := by
        rw [hkl]
        show (match feA (putE E r c v) (upL N v) L with
          | none => (a.1 + 1, a.2)
          | some p => loA _ _ _ _ _ p.1 p.2 _ _ _) = _
        rw [feA_some hf]
      have et2 : tyA (goA (wM h) L n (KL - fs.length)) (wM h) L E N r c v a = loA (goA (wM h) L n (KL - ((E, N, r, c, v + 1) :: fs).length)) (wM h) L (putE E r c v) (upL N v) r2 c2 (ntA (upL N v) n 0) 0 (a.1 + 1, a.2) := by
        rw [et, feA_some hf]
        exact eg
      rw [et2] at hfn
      refine hK _ _ ⟨d + 1, _, _, (putE E r c v, upL N v, r2, c2, 0) :: (E, N, r, c, v + 1) :: fs, (a.1 + 1, a.2), rfl, by omega, by omega, hB3, hfn, fun _ => ⟨by rw [hd]; simp, ⟨⟨?_, ?_, ?_, ?_⟩, ⟨hW1, uN.1, hf, by omega, by omega, ?_⟩, ⟨by omega, by rw [show v + 1 - 1 = v by omega], by rw [show v + 1 - 1 = v by omega], by rw [show v + 1 - 1 = v by omega]; exact hv⟩, ?_⟩, ⟨fun _ => ⟨?_, ?_⟩, fun y => absurd rfl y⟩⟩⟩ hB3.2.1.1
      · rw [eh3]; simp (decide := true) only [gI_sI, List.length_cons, true_and, false_and, if_false]; rw [if_pos (by push_cast; omega)]
      · rw [eh3]; simp (decide := true) only [gI_sI, List.length_cons, true_and, false_and, if_false]; rw [if_pos (by push_cast; omega)]
      · rw [eh3]; simp (decide := true) only [gI_sI, List.length_cons, true_and, false_and, if_false]; rw [if_pos (by push_cast; omega)]; rfl
      · rw [eh3]; simp (decide := true) only [gI_sI, List.length_cons, true_and, false_and, if_false]; rw [if_pos (by push_cast; omega)]
      · simp only [List.length_cons]; omega
      · refine stk_cong (fun j hj => ?_) hS2
        simp only [List.length_cons] at hj
        rw [eh3]
        simp (decide := true) only [gI_sI, true_and, false_and, if_false]
        rw [if_neg (by omega), if_neg (by omega), if_neg (by omega), if_neg (by omega)]
        exact ⟨rfl, rfl, rfl, rfl⟩
      · rw [eh3]; exact hC2
      · rw [eh3]; exact h54'
    · have hno : noP (emP (putE E r c v)) (upL N v) L := by
        apply Classical.byContradiction
        intro y
        obtain ⟨r2, c2, hf⟩ := fst_ex L10 y
        rw [feV_some hf] at z2
        have := hf.1
        omega
      have hsc : shC (putE E r c v) (upL N v) L := fun x y x0 x1 y0 y1 => (hW1.2.2 x y x0 x1 y0 y1).resolve_left (hno x y x0 x1 y0 y1)
      have hM2 := hB2.2.1.2.2.2.2.2
      refine ⟨o2, w2, putE E r c v, upL N v, L, a.2.2, e53.symm, L2, L10, hC2, hsc, h54', by omega, by omega, hM2, by omega, fun h3 f3 m3 => ?_⟩
      rw [z2]
      have et2 : tyA (goA (wM h) L n (KL - fs.length)) (wM h) L E N r c v a = (a.1 + 1, a.2.1, fdL L (putE E r c v) (upL N v) a.2.2) := by
        rw [et, feA_none hno]
        exact fdA_eq
      rw [et2] at hfn
      have e : ∀ j, ¬ (j = 57 ∨ j = 58 ∨ j = 42) → gI h3 pMo j = gI h2 pMo j := fun j hj => f3.1 _ _ (by unfold Pfo Pmc Pm; simp (decide := true) only [false_or, true_and]; omega)
      have el : ∀ b, b = pMo_low ∨ b = pMo_triedRow ∨ b = pMo_triedColumn ∨ b = pMo_triedValue ∨ b = pMo_triedRows → gI h3 b = gI h2 b := by
        rintro b (rfl | rfl | rfl | rfl | rfl) <;> exact FrP_arr f3 (fun j y => by unfold Pfo Pmc Pm at y; simp (decide := true) at y)
      obtain ⟨g1, ⟨g2, g3, g4, g5, g6, g7⟩, g8, g9, g10, g11, g12, g13, g14⟩ := hB2
      have gl : ((fdL L (putE E r c v) (upL N v) a.2.2).length : Int) ≤ a.2.2.length + 1 := by
        unfold fdL
        split
        · simp
        · omega
      refine hK _ _ ⟨d, _, _, (E, N, r, c, v + 1) :: fs, (a.1 + 1, a.2.1, fdL L (putE E r c v) (upL N v) a.2.2), rfl, by omega, by omega, ⟨FrP_trans g1 (FrP_mono (fun _ _ y => Or.inl y) f3), ⟨by rw [e 56 (by decide)]; exact g2, by rw [e 59 (by decide)]; exact g3, g4, by rw [e 60 (by decide)]; exact g5, by rw [e 53 (by decide)]; exact g6, m3⟩, by rw [e 55 (by decide)]; exact g8, by rw [e 4 (by decide)]; exact g9, by rw [e 1 (by decide)]; exact g10, by rw [e 2 (by decide)]; exact g11, g12, g13, ?_⟩, hfn, fun _ => ⟨by rw [hd]; simp, ?_, ?_⟩⟩ (by rw [e 56 (by decide)]; exact g2)
      · show ((fdL L (putE E r c v) (upL N v) a.2.2).length : Int) ≤ a.1 + 1
        omega
      · exact stkH_keep hS2 (el _ (by simp)) (el _ (by simp)) (el _ (by simp)) (el _ (by simp))
      · refine ⟨fun y => by omega, fun _ => ?_⟩
        rw [show v + 1 - 1 = v by omega]
        refine ⟨?_, by rw [e 54 (by decide)]; exact h54', hv⟩
        unfold lwC
        rw [el pMo_low (by simp)]
        exact hC2
