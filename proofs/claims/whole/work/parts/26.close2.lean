/-! CLOSE comes to one table, whatever the order of LOOKS -/
theorem CP_hm {L : Int} {Ws Ss : Wds} {V : Int → Prop} {E : Int → Int → Int} {ρ : Int → Int} {V' : Int → Prop} {E' : Int → Int → Int} (hT : TW L V E) (h : CP L Ws Ss V E ρ V' E') : Hm L V E ρ (arV L V' E') := by
  intro r c hr h0 h1 h2
  have g := ((hT.2.2 r c hr h0 h1).resolve_left h2).1
  refine ⟨(h.1 r hr).1, h0, h1, h.2.2.1 r c hr h0 h1 h2, ?_⟩
  have := hT.2.1 _ (h.2.1 _ (h.1 _ g).1).1
  omega
theorem CP_zero {L : Int} {Ws Ss : Wds} {V : Int → Prop} {E : Int → Int → Int} {ρ : Int → Int} {V' : Int → Prop} {E' : Int → Int → Int} (hT : TW L V E) (h : CP L Ws Ss V E ρ V' E') : ρ 0 = 0 := by
  have h1 := h.1 0 hT.1
  have h2 := hT.2.1 _ (h.2.1 _ h1.1).1
  omega
theorem CR_uniq {L : Int} {Ws Ss : Wds} {V : Int → Prop} {E : Int → Int → Int} {V1 V2 : Int → Prop} {E1 E2 : Int → Int → Int} (hL : L % 2 = 0) (hT : TW L V E) (hT1 : TW L V1 E1) (hT2 : TW L V2 E2) (h1 : CR L Ws Ss V E V1 E1) (h2 : CR L Ws Ss V E V2 E2) : (∀ r, V1 r ↔ V2 r) ∧ ∀ r c, V1 r → 0 ≤ c → c < L → E1 r c = E2 r c := by
  obtain ⟨ρ1, p1, g1⟩ := h1
  obtain ⟨ρ2, p2, g2⟩ := h2
  have fit : ∀ {ρ : Int → Int} {V' : Int → Prop} {E' : Int → Int → Int}, CP L Ws Ss V E ρ V' E' → Fit V' Ws Ss (fun r => r) (arV L V' E') → Fit V Ws Ss ρ (arV L V' E') := by
    intro ρ V' E' hp hg
    refine ⟨fun w n r hw hr => hg.1 w n (ρ r) hw (hp.1 r hr).1, fun w n hs => ?_⟩
    rw [CP_zero hT hp]
    exact hg.2 w n hs
  have k12 := p1.2.2.2 Int ρ2 (arV L V2 E2) (arV_det L V2 E2) (arV_sym hL hT2) (CP_hm hT p2) (fit p2 g2)
  have k21 := p2.2.2.2 Int ρ1 (arV L V1 E1) (arV_det L V1 E1) (arV_sym hL hT1) (CP_hm hT p1) (fit p1 g1)
  have key : ∀ r, V r → ρ1 r = ρ2 r := by
    intro r hr
    have h3 := (p1.2.1 _ (p1.1 r hr).1).1
    have h4 := (p2.2.1 _ (p2.1 r hr).1).1
    have h5 := (p2.1 _ h3).2
    have h6 := (p1.1 _ h4).2
    rw [k12.1 r hr] at h5
    rw [k21.1 r hr] at h6
    omega
  have s12 : ∀ r, V1 r → V2 r := by
    intro r hr
    have h3 := p1.2.1 r hr
    have h4 := (p2.1 r h3.1).1
    rw [← key r h3.1, h3.2] at h4
    exact h4
  have s21 : ∀ r, V2 r → V1 r := by
    intro r hr
    have h3 := p2.2.1 r hr
    have h4 := (p1.1 r h3.1).1
    rw [key r h3.1, h3.2] at h4
    exact h4
  refine ⟨fun r => ⟨s12 r, s21 r⟩, fun r c hr h0 h1 => ?_⟩
  by_cases q : E1 r c = -2
  · by_cases q2 : E2 r c = -2
    · rw [q, q2]
    · have hr2 := s12 r hr
      have a := k21.2 r c hr2 h0 h1 q2
      have b := ((hT2.2.2 r c hr2 h0 h1).resolve_left q2).1
      have e1 := (p1.2.1 r hr).2
      have e2 := (p1.2.1 _ (s21 _ b)).2
      rw [e1, e2] at a
      exact a.2.2.2.1
  · have a := k12.2 r c hr h0 h1 q
    have b := ((hT1.2.2 r c hr h0 h1).resolve_left q).1
    have e1 := (p2.2.1 r (s12 r hr)).2
    have e2 := (p2.2.1 _ (s12 _ b)).2
    rw [e1, e2] at a
    exact a.2.2.2.1.symm
theorem Fit_sub {X : Type} {V V' : Int → Prop} {Ws Ss : Wds} {φ : Int → X} {F : X → Int → X → Prop} (hs : ∀ r, V' r → V r) (h : Fit V Ws Ss φ F) : Fit V' Ws Ss φ F := ⟨fun w n r hw hr => h.1 w n r hw (hs r hr), h.2⟩
/-- what holds of every closed target of a table -/
def Must (L : Int) (Ws Ss : Wds) (V : Int → Prop) (E : Int → Int → Int) (P : ∀ (X : Type), (Int → X) → (X → Int → X → Prop) → Prop) : Prop := ∀ (X : Type) (φ : Int → X) (F : X → Int → X → Prop), Det F → Sym L F → Hm L V E φ F → Fit V Ws Ss φ F → P X φ F
theorem CP_quarrel {L : Int} {Ws Ss : Wds} {V : Int → Prop} {E : Int → Int → Int} {ρ : Int → Int} {V1 V2 : Int → Prop} {E1 E2 : Int → Int → Int} {a b : Int} (hT : TW L V E) (hT1 : TW L V1 E1) (h : CP L Ws Ss V E ρ V1 E1) (hq : QR L V1 E1 a b V2 E2) (hm : Must L Ws Ss V1 E1 (fun _ φ _ => φ a = φ b)) : ∃ σ, CP L Ws Ss V E σ V2 E2 := by
  obtain ⟨σ, a1, a2, a3, a4, a5, a6⟩ := hq
  refine ⟨fun r => σ (ρ r), fun r hr => ?_, fun r hr => ?_, fun r c hr h0 h1 h2 => ?_, fun X φ F hD hS hH hF => ?_⟩
  · have g1 := h.1 r hr
    have g2 := a1 _ g1.1
    exact ⟨g2.1, by have := g2.2; have := g1.2; show σ (ρ r) ≤ r; omega⟩
  · have g1 := a2 r hr
    have g2 := h.2.1 r g1.1
    exact ⟨g2.1, by show σ (ρ r) = r; rw [g2.2, g1.2]⟩
  · have g1 := h.2.2.1 r c hr h0 h1 h2
    have g2 := ((hT.2.2 r c hr h0 h1).resolve_left h2).1
    have g3 : E1 (ρ r) c ≠ -2 := by
      rw [g1]
      have := hT.2.1 _ (h.2.1 _ (h.1 _ g2).1).1
      omega
    have g4 := a4 (ρ r) c (h.1 r hr).1 h0 h1 g3
    show E2 (σ (ρ r)) c = σ (ρ (E r c))
    rw [g4, g1]
  · have u := h.2.2.2 X φ F hD hS hH hF
    have hF1 := Fit_sub (fun r hr => (h.2.1 r hr).1) hF
    have e := hm X φ F hD hS u.2 hF1
    have v := a6 X φ F hD u.2 e
    refine ⟨fun r hr => ?_, fun r c hr h0 h1 h2 => ?_⟩
    · show φ (σ (ρ r)) = φ r
      rw [v _ (h.1 r hr).1, u.1 r hr]
    · obtain ⟨r0, b1, b2, b3, b4⟩ := a5 r c hr h0 h1 h2
      have g := u.2 r0 c b1 h0 h1 b3
      rw [← v r0 b1, b2] at g
      have hv := ((hT1.2.2 r0 c b1 h0 h1).resolve_left b3).1
      rw [← v _ hv, b4] at g
      exact g
/-- PUT at a cell: r, c, s -/
def putE (E : Int → Int → Int) (r c s : Int) : Int → Int → Int := fun x d => if x = s ∧ d = oc c then r else if x = r ∧ d = c then s else E x d
theorem look_eq {L : Int} {Ws Ss : Wds} {V : Int → Prop} {E : Int → Int → Int} {w : Int → Int} {n k m : Nat} {r f b : Int} (hw : (Ws w n ∧ V r) ∨ (Ss w n ∧ r = 0)) (h1 : PF (arV L V E) w k r f) (h2 : PB (arV L V E) w n m r b) (hn : k + m = n) : Must L Ws Ss V E (fun _ φ _ => φ f = φ b) := by
  intro X φ F hD hS hH hF
  have g : Good F w n (φ r) := by
    rcases hw with ⟨a, b⟩ | ⟨a, b⟩
    · exact hF.1 w n r a b
    · rw [b]; exact hF.2 w n a
  exact g.1 k m _ _ hn (PF_map (Hm_arV hH) h1) (PB_map (Hm_arV hH) h2)
theorem look_put {L : Int} {Ws Ss : Wds} {V : Int → Prop} {E : Int → Int → Int} {w : Int → Int} {n k m : Nat} {r f b : Int} (hw : (Ws w n ∧ V r) ∨ (Ss w n ∧ r = 0)) (h1 : PF (arV L V E) w k r f) (h2 : PB (arV L V E) w n m r b) (hn : k + m + 1 = n) : Must L Ws Ss V E (fun _ φ F => F (φ f) (w k) (φ b)) := by
  intro X φ F hD hS hH hF
  have g : Good F w n (φ r) := by
    rcases hw with ⟨a, b⟩ | ⟨a, b⟩
    · exact hF.1 w n r a b
    · rw [b]; exact hF.2 w n a
  exact g.2 k m _ _ hn (PF_map (Hm_arV hH) h1) (PB_map (Hm_arV hH) h2)
