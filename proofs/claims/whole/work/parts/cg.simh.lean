/-! BOTH CLASSES: a new object -/
theorem sim_new {h : PH} (w : CW h) (m : MW h) (e1 : ∀ b j, b < 115 → gI h b j = hoI b j) (e2 : ∀ b j, 115 ≤ b → b < 153 → gI h b j = moI b j) (r : gR h pHo 11 = none) (n : hN h = 154) : SIM 0 h := by
  have z1 : ∀ b j, b < 115 → b ≠ 0 → b ≠ 44 → b ≠ 87 → gI h b j = 0 := fun b j hb h0 h4 h8 => by
    rw [e1 b j hb]; unfold hoI
    rw [if_neg (fun y => h0 y.1), if_neg (fun y => h4 y.1), if_neg (fun y => h8 y.1)]
  have z2 : ∀ b j, 115 < b → b < 153 → gI h b j = 0 := fun b j b0 b1 => by
    rw [e2 b j (by omega) b1]; unfold moI
    rw [if_neg (fun y => by have : b = 115 := y.1; omega), if_neg (fun y => by have : b = 115 := y.1; omega)]
  have a1 : ∀ b, b < 115 → b ≠ 0 → b ≠ 44 → b ≠ 87 → gI h b = fun _ => 0 := fun b x y z u => funext fun j => z1 b j x y z u
  have a2 : ∀ b, 115 < b → b < 153 → gI h b = fun _ => 0 := fun b x y => funext fun j => z2 b j x y
  have ho : ∀ j, gI h pHo j = hoI pHo j := fun j => e1 pHo j (by decide)
  have mo : ∀ j, gI h pMo j = moI pMo j := fun j => e2 pMo j (by decide) (by decide)
  have m0 : gI h pMo 0 = 1 := mo 0
  refine ⟨⟨w, m⟩, ?_, ?_, ?_, ?_, ?_, ?_, ?_, ?_, ?_⟩
  · refine ⟨by rw [m0]; decide, by rw [m0]; exact ho 2, by rw [mo 7]; decide, by rw [mo 7]; exact ho 1, fun j => ?_, ?_⟩
    · rw [z2 pMo_tape j (by decide) (by decide)]; decide
    · rw [a1 pHo_tape (by decide) (by decide) (by decide) (by decide), a2 pMo_tape (by decide) (by decide)]
  · unfold S2 wM uM MWd
    rw [show gI h pMo 14 = 0 from mo 14, show gI h pMo 15 = 0 from mo 15]
    refine ⟨LR_nil (z1 pWs 1 (by decide) (by decide) (by decide) (by decide)), LR_nil (z1 pSs 1 (by decide) (by decide) (by decide) (by decide)), ⟨⟨Int.le_refl _, fun i i0 i1 => by omega⟩, by decide, ⟨Int.le_refl _, fun i i0 i1 => by omega⟩, by decide⟩, fun j _ _ => ?_, fun j _ _ => ?_⟩
    · rw [z2 pMo_wordSize j (by decide) (by decide)]; decide
    · rw [z2 pMo_subSize j (by decide) (by decide)]; decide
  · unfold S3 akW AK
    rw [show gI h pMo 16 = 0 from mo 16]
    exact ⟨⟨z1 pAsk 1 (by decide) (by decide) (by decide) (by decide), by show ((0 : Nat) : Int) ≤ lnA (pAsk + 1); decide, fun i hi => absurd hi (Nat.not_lt_zero i), fun c hc => by cases hc⟩, Int.le_refl _, by decide, fun i i0 i1 => by omega⟩
  · exact S4_ok (by rw [mo 3]; exact e1 pRe 9 (by decide)) (ho 17) (mo 1) (mo 2)
  · refine ⟨fun j => ⟨Or.inl (z2 pMo_isLeft j (by decide) (by decide)), Or.inl (z2 pMo_isDone j (by decide) (by decide))⟩, ⟨Or.inl (mo 39), by rw [z2 pMo_state 0 (by decide) (by decide)]; decide⟩, fun j _ _ => Or.inl (z1 pTa_done j (by decide) (by decide) (by decide) (by decide)), Or.inl (e1 pTa 8 (by decide)), ⟨fun _ => mo 32, fun _ => ho 10⟩, fun y => absurd (mo 32) y⟩
  · refine ⟨fun j _ _ => ⟨Or.inl (z2 pMo_keptLeft j (by decide) (by decide)), Or.inl (z2 pMo_keptDone j (by decide) (by decide))⟩, ⟨fun _ => mo 33, fun _ => ho 12⟩, fun y => absurd (mo 33) y, fun _ => n⟩
  · exact ⟨by rw [mo 46]; exact ho 14, by rw [mo 46]; decide, fun j j0 j1 => by rw [mo 46] at j1; have : moI pMo 46 = 0 := rfl; omega⟩
  · refine ⟨[], 0, ⟨z1 pLo 12 (by decide) (by decide) (by decide) (by decide), fun i hi => absurd hi (Nat.not_lt_zero i)⟩, ⟨mo 58, mo 57, fun i hi => absurd hi (Nat.not_lt_zero i)⟩, z1 pLo 8 (by decide) (by decide) (by decide) (by decide), by rw [mo 53]; rfl, ⟨Int.le_refl _, by decide⟩, fun y => absurd rfl y, Or.inl ⟨z1 pLo 9 (by decide) (by decide) (by decide) (by decide), mo 60⟩⟩
  · refine ⟨by rw [mo 66]; exact z1 pSh 3 (by decide) (by decide) (by decide) (by decide), by rw [mo 66]; decide, fun j _ _ => ?_⟩
    rw [z1 pSh_cells j (by decide) (by decide) (by decide) (by decide), z2 pMo_sheet j (by decide) (by decide)]
