/-! THE LONG ARRAY of the law -/
theorem snd_nal {md : MD} {lc lz pc : Nat} {nx : TT} (hd : decode md.2.1 pc = .ok (.newarray .long, 2)) (hw : Cond.arrayClass .long ∈ gw) (hn : Snd md lc lz (pc + 2) nx) : Snd md lc lz pc (tt_na 3 lc lz nx) := by
  intro p l e s m args below meth c D dA A mc ms c0 z0 ad0 n0 post Q F L HR K hK ls st h ht
  have hn := hn p l e s m args below meth c D dA A mc ms c0 z0 ad0 n0 post Q F L HR K hK
  obtain ⟨z, r, rfl, hz0, hz9, hsh, h1k, hc1, hz1, ht⟩ := pI_s ht
  intro ad H locs lsA e1 e2 e3 e4 hP hD hS hH hF hl hv
  have hzr : inR z := ⟨by omega, by omega⟩
  have hFr := okF_pop hF
  refine va_newa (atype := .long) (a0 := (z.toNat, .inr (.inl (fun _ => 0)))) F.1 F.2.1 (F.2.2.2.2.2.2.1 _ hw) rfl F.2.2.2.2.2.2.2.1 hP hD hS F.2.2.2.2.2.2.2.2.1 (fun cA => rfl) (fun q => by have := (i32_lt hzr inR_0).mp q; omega) (i32_nat hzr) ?_ (by show hC h - c0 + 1 ≤ mc; omega) (by show hZ h - z0 + _ ≤ ms; omega) hd (fun q cA H1 hK' hP' hD' hS' => ?_)
  · calc z.toNat * componentBytes .long ≤ 100000 * 8 := Nat.mul_le_mul (by omega) (by decide)
      _ ≤ 536870912 := by decide
  · have hcA : cA = dA 3 := by
      have a1 := (hK'.2 5 (cA, FieldType.long) rfl).2
      have a2 := (F.2.2.2.2.2.2.2.1.2 3 _ rfl).2
      have hr : ∀ c1, va_RA s c1 (.long) → s.vm.findClass ("[" ++ (FieldType.long).toString) = some c1 := by
        intro c1 h1
        exact h1
      exact Option.some.inj ((hr _ a1).symm.trans (hr _ a2))
    subst hcA
    have hcell : cE dA (adN ad (hN h) q) (nC h z.toNat) (hN h) = .inl (dA 3, z.toNat, .inr (.inl (fun _ => 0))) := by
      rw [cE_lng hsh]
      congr 5
      funext j
      rw [gI_nC, if_pos rfl]
      rfl
    rw [wo_new hH hcell] at hP' hD'
    have hsc : hN h < SC := by unfold SC; omega
    have g := hn ls (.inr (.inl (some (hN h))) :: r) (nC h z.toNat) ht (adN ad (hN h) q) H1 locs lsA (fun k hk => (adN_agree hsc k (okP_le hk e2)).trans (e1 k hk)) (by show n0 ≤ hN h + 1; omega) ⟨by show c0 ≤ hC h + 1; omega, by show hC h + 1 ≤ c0 + mc; omega⟩ ⟨by show z0 ≤ hZ h + _; omega, by show hZ h + _ ≤ z0 + ms; omega⟩ hP' hD' hS' (okH_nC hH _) (okF_new hFr) hl (by rw [lD_agree hF.1 (adN_agree hsc)]; exact hv)
    have ec : hC (nC h z.toNat) - c0 = hC h - c0 + 1 := by show hC h + 1 - c0 = _; omega
    have ez : hZ (nC h z.toNat) - z0 = hZ h - z0 + z.toNat := by show hZ h + _ - z0 = _; omega
    have es : (Sum.inr (Sum.inl (some (hN h))) :: r : List PV).map (dV (adN ad (hN h) q)) = Value.ref q :: r.map (dV ad) := by
      rw [List.map_cons, map_agree hFr.2 (adN_agree hsc)]
      show Value.ref (adN ad (hN h) q (hN h)) :: _ = _
      rw [show adN ad (hN h) q (hN h) = q from if_pos rfl]
    rw [ec, ez, es] at g
    exact g
def tt_lal (nx : TT) : TT := fun K R ls st h => pIA st (fun a i r => isAr h a 3 ∧ 0 ≤ i ∧ i < lnA a ∧ nx K R ls (.inr (.inr (gI h a i)) :: r) h)
theorem snd_lal {md : MD} {lc lz pc : Nat} {nx : TT} (hd : decode md.2.1 pc = .ok (.laload, 1)) (hn : Snd md lc lz (pc + 1) nx) : Snd md lc lz pc (tt_lal nx) := by
  intro p l e s m args below meth c D dA A mc ms c0 z0 ad0 n0 post Q F L HR K hK ls st h ht
  have hn := hn p l e s m args below meth c D dA A mc ms c0 z0 ad0 n0 post Q F L HR K hK
  obtain ⟨a, i, r, rfl, ⟨ha, n, hs⟩, h0, h1, ht⟩ := pIA_s ht
  intro ad H locs lsA e1 e2 e3 e4 hP hD hS hH hF hl hv
  rw [lnA_of hs] at h1
  have hi : inR i := okF_top hF
  have hw := wo_get (dA := dA) (ad := ad) ha
  rw [cE_lng hs] at hw
  have hL : inL (gI h a i) := by
    have := hH.1 a i
    rw [if_pos (show isLg a = true by unfold isLg; rw [hs]; rfl)] at this
    exact this
  have g := hn ls (.inr (.inr (gI h a i)) :: r) h ht ad H locs lsA e1 e2 e3 e4 hP hD hS hH (okF_push (okF_pop (okF_pop hF)) hL) hl hv
  refine va_lald (t0 := 3) F.1 F.2.1 F.2.2.2.2.2.2.2.1 hP a hw rfl (i32_in h0 h1 hi) hd ?_
  rw [nat_back h0 hi]
  exact g
def tt_laS (nx : TT) : TT := fun K R ls st h => pLIA st (fun a i v r => isAr h a 3 ∧ 0 ≤ i ∧ i < lnA a ∧ nx K R ls r (sI h a i v))
theorem snd_laS {md : MD} {lc lz pc : Nat} {nx : TT} (hd : decode md.2.1 pc = .ok (.lastore, 1)) (hn : Snd md lc lz (pc + 1) nx) : Snd md lc lz pc (tt_laS nx) := by
  intro p l e s m args below meth c D dA A mc ms c0 z0 ad0 n0 post Q F L HR K hK ls st h ht
  have hn := hn p l e s m args below meth c D dA A mc ms c0 z0 ad0 n0 post Q F L HR K hK
  obtain ⟨a, i, v, r, rfl, ⟨ha, n, hs⟩, h0, h1, ht⟩ := pLIA_s ht
  intro ad H locs lsA e1 e2 e3 e4 hP hD hS hH hF hl hv
  rw [lnA_of hs] at h1
  have hi : inR i := okF_2nd hF
  have hw := wo_get (dA := dA) (ad := ad) ha
  rw [cE_lng hs] at hw
  refine va_last (t0 := 3) F.1 F.2.1 F.2.2.2.2.2.2.2.1 hP hD hS a hw rfl (i32_in h0 h1 hi) hd (fun H' locs' hP' hD' hS' => ?_)
  rw [wo_sLa ha hs h0 hi] at hP' hD'
  exact hn ls r (sI h a i v) ht ad H' locs' lsA e1 e2 e3 e4 hP' hD' hS' (okH_wL hH (by unfold isLg; rw [hs]; rfl) (okF_top hF)) (okF_pop (okF_pop (okF_pop hF))) hl hv
