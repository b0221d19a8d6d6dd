/-! PUT, in tables and in what CLOSE comes to -/
theorem oc_ne (c : Int) : c ≠ oc c := by unfold oc; split <;> omega
theorem oc_inj {c d : Int} (h0 : 0 ≤ c) (h1 : 0 ≤ d) (h : oc c = oc d) : c = d := by rw [← oc_oc h0, ← oc_oc h1, h]
theorem putE_1 {E : Int → Int → Int} {r c s : Int} : putE E r c s s (oc c) = r := if_pos ⟨rfl, rfl⟩
theorem putE_2 {E : Int → Int → Int} {r c s : Int} : putE E r c s r c = s := by
  unfold putE
  rw [if_neg (fun q => oc_ne c q.2), if_pos ⟨rfl, rfl⟩]
theorem putE_3 {E : Int → Int → Int} {r c s x d : Int} (h1 : ¬ (x = s ∧ d = oc c)) (h2 : ¬ (x = r ∧ d = c)) : putE E r c s x d = E x d := by
  unfold putE
  rw [if_neg h1, if_neg h2]
theorem TW_put {L : Int} {V : Int → Prop} {E : Int → Int → Int} {f c b : Int} (hL : L % 2 = 0) (hT : TW L V E) (hf : V f) (hb : V b) (h0 : 0 ≤ c) (h1 : c < L) (e1 : E f c = -2) (e2 : E b (oc c) = -2) : TW L V (putE E f c b) := by
  refine ⟨hT.1, hT.2.1, fun x d hx d0 d1 => ?_⟩
  by_cases q1 : x = b ∧ d = oc c
  · obtain ⟨rfl, rfl⟩ := q1
    rw [putE_1]
    refine Or.inr ⟨hf, ?_⟩
    rw [oc_oc h0, putE_2]
  · by_cases q2 : x = f ∧ d = c
    · obtain ⟨rfl, rfl⟩ := q2
      rw [putE_2]
      exact Or.inr ⟨hb, putE_1⟩
    · rw [putE_3 q1 q2]
      rcases hT.2.2 x d hx d0 d1 with g | ⟨g1, g2⟩
      · exact Or.inl g
      · refine Or.inr ⟨g1, ?_⟩
        have hx0 := hT.2.1 x hx
        rw [putE_3, g2]
        · rintro ⟨a1, a2⟩
          rw [a1, a2, e2] at g2
          omega
        · rintro ⟨a1, a2⟩
          rw [a1, a2, e1] at g2
          omega
theorem CP_put {L : Int} {Ws Ss : Wds} {V : Int → Prop} {E : Int → Int → Int} {ρ : Int → Int} {V1 : Int → Prop} {E1 : Int → Int → Int} {f c b : Int} (hT : TW L V E) (h0 : 0 ≤ c) (h1 : c < L) (e1 : E1 f c = -2) (e2 : E1 b (oc c) = -2) (h : CP L Ws Ss V E ρ V1 E1) (hm : Must L Ws Ss V1 E1 (fun _ φ F => F (φ f) c (φ b))) : CP L Ws Ss V E ρ V1 (putE E1 f c b) := by
  refine ⟨h.1, h.2.1, fun r d hr d0 d1 hne => ?_, fun X φ F hD hS hH hF => ?_⟩
  · have g1 := h.2.2.1 r d hr d0 d1 hne
    have g2 := ((hT.2.2 r d hr d0 d1).resolve_left hne).1
    have g3 := hT.2.1 _ (h.2.1 _ (h.1 _ g2).1).1
    rw [putE_3, g1]
    · rintro ⟨a1, a2⟩
      rw [a1, a2, e2] at g1
      rw [a2] at g3
      omega
    · rintro ⟨a1, a2⟩
      rw [a1, a2, e1] at g1
      rw [a2] at g3
      omega
  · have u := h.2.2.2 X φ F hD hS hH hF
    have hF1 := Fit_sub (fun r hr => (h.2.1 r hr).1) hF
    have e := hm X φ F hD hS u.2 hF1
    refine ⟨u.1, fun x d hx d0 d1 hne => ?_⟩
    by_cases q1 : x = b ∧ d = oc c
    · obtain ⟨rfl, rfl⟩ := q1
      rw [putE_1]
      exact hS _ _ _ h0 h1 e
    · by_cases q2 : x = f ∧ d = c
      · obtain ⟨rfl, rfl⟩ := q2
        rw [putE_2]
        exact e
      · rw [putE_3 q1 q2] at hne ⊢
        exact u.2 x d hx d0 d1 hne
