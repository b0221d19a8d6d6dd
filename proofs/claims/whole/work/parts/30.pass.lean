/-! WHAT HOLDS WHILE A QUARREL GOES ON, in names and cells -/
def QI (L N : Int) (V : Int → Prop) (E0 : Int → Int → Int) (a b : Int) (nm : Int → Int) (E : Int → Int → Int) : Prop :=
  forest nm N ∧ (∀ x, V x → V (nm x)) ∧ root nm a = root nm b ∧
  (∀ r c, V r → 0 ≤ c → c < L → E0 r c ≠ -2 → E r c = E0 r c) ∧
  (∀ r c, V r → 0 ≤ c → c < L → E r c ≠ -2 → V (E r c) ∧ ∃ r0, V r0 ∧ root nm r0 = root nm r ∧ E0 r0 c ≠ -2 ∧ V (E0 r0 c) ∧ root nm (E0 r0 c) = root nm (E r c)) ∧
  ∀ (X : Type) (φ : Int → X) (F : X → Int → X → Prop), Det F → Hm L V E0 φ F → φ a = φ b → (∀ x, V x → φ (nm x) = φ x) ∧ Hm L V E φ F
theorem root_V {N : Int} {V : Int → Prop} {nm : Int → Int} (hb : ∀ x, V x → 0 ≤ x ∧ x < N) (hf : forest nm N) (hv : ∀ x, V x → V (nm x)) {X : Type} {φ : Int → X} (hp : ∀ x, V x → φ (nm x) = φ x) : ∀ (n : Nat) (x : Int), x.toNat < n → V x → V (root nm x) ∧ φ (root nm x) = φ x := by
  intro n
  induction n with
  | zero => intro x h; omega
  | succ n ih =>
    intro x hx hV
    obtain ⟨h0, h1⟩ := hb x hV
    by_cases e : nm x = x
    · rw [root_fix e]; exact ⟨hV, rfl⟩
    · have g := hf x h0 h1
      have := ih (nm x) (by omega) (hv x hV)
      rw [root_step hf h0 h1] at this
      exact ⟨this.1, this.2.trans (hp x hV)⟩
theorem root_in {N : Int} {V : Int → Prop} {nm : Int → Int} (hb : ∀ x, V x → 0 ≤ x ∧ x < N) (hf : forest nm N) (hv : ∀ x, V x → V (nm x)) {x : Int} (hx : V x) : V (root nm x) := (root_V hb hf hv (φ := fun _ => ()) (fun _ _ => rfl) (x.toNat + 1) x (by omega) hx).1
/-- a cell of a root that was empty takes what a row of its class holds -/
theorem QI_set {L N : Int} {V : Int → Prop} {E0 : Int → Int → Int} {a b : Int} {nm : Int → Int} {E E' : Int → Int → Int} {r c : Int} (hb : ∀ x, V x → 0 ≤ x ∧ x < N) (h : QI L N V E0 a b nm E) (hr : V r) (c0 : 0 ≤ c) (c1 : c < L) (hs : E r c ≠ -2) (ht : E (root nm r) c = -2) (hE : ∀ x d, 0 ≤ d → d < L → E' x d = if x = root nm r ∧ d = c then E r c else E x d) : QI L N V E0 a b nm E' := by
  obtain ⟨hf, hv, hab, h1, h2, h3⟩ := h
  have hrr := hb r hr
  refine ⟨hf, hv, hab, fun x d hx d0 d1 hne => ?_, fun x d hx d0 d1 hne => ?_, fun X φ F hD hH he => ?_⟩
  · have g := h1 x d hx d0 d1 hne
    rw [hE _ _ d0 d1, if_neg, g]
    rintro ⟨rfl, rfl⟩
    rw [ht] at g
    exact hne g.symm
  · rw [hE _ _ d0 d1] at hne ⊢
    by_cases q : x = root nm r ∧ d = c
    · rw [if_pos q]
      obtain ⟨rfl, rfl⟩ := q
      obtain ⟨g1, r0, g2, g3, g4⟩ := h2 r d hr d0 d1 hs
      exact ⟨g1, r0, g2, by rw [g3, root_root hf hrr.1 hrr.2], g4⟩
    · rw [if_neg q] at hne ⊢
      exact h2 x d hx d0 d1 hne
  · obtain ⟨u1, u2⟩ := h3 X φ F hD hH he
    refine ⟨u1, fun x d hx d0 d1 hne => ?_⟩
    rw [hE _ _ d0 d1] at hne ⊢
    by_cases q : x = root nm r ∧ d = c
    · rw [if_pos q]
      obtain ⟨rfl, rfl⟩ := q
      have g := u2 r d hr d0 d1 hs
      have e := (root_V hb hf hv u1 (r.toNat + 1) r (by omega) hr).2
      rw [← e] at g
      exact g
    · rw [if_neg q] at hne ⊢
      exact u2 x d hx d0 d1 hne
/-- two roots that every map takes to one become one -/
theorem QI_join {L N : Int} {V : Int → Prop} {E0 : Int → Int → Int} {a b : Int} {nm : Int → Int} {E : Int → Int → Int} {x y : Int} (hb : ∀ x, V x → 0 ≤ x ∧ x < N) (h : QI L N V E0 a b nm E) (hab2 : V a ∧ V b) (hx : V x) (hy : V y) (fx : nm x = x) (fy : nm y = y) (hxy : x < y) (hm : ∀ (X : Type) (φ : Int → X) (F : X → Int → X → Prop), Det F → Hm L V E0 φ F → φ a = φ b → φ x = φ y) : QI L N V E0 a b (upI nm y x) E := by
  obtain ⟨hf, hv, hab, h1, h2, h3⟩ := h
  have bx := hb x hx
  have by_ := hb y hy
  have ru : ∀ z, V z → root (upI nm y x) z = if root nm z = y then x else root nm z := fun z hz => root_up hf bx.1 hxy by_.2 fx fy (z.toNat + 1) z (by omega) (hb z hz).1 (hb z hz).2
  refine ⟨forest_up hf bx.1 hxy, fun z hz => ?_, ?_, h1, fun r c hr c0 c1 hne => ?_, fun X φ F hD hH he => ?_⟩
  · unfold upI
    by_cases e : z = y
    · rw [if_pos e]; exact hx
    · rw [if_neg e]; exact hv z hz
  · rw [ru a hab2.1, ru b hab2.2, hab]
  · obtain ⟨g1, r0, g2, g3, g4, g5, g6⟩ := h2 r c hr c0 c1 hne
    exact ⟨g1, r0, g2, by rw [ru r0 g2, ru r hr, g3], g4, g5, by rw [ru _ g5, ru _ g1, g6]⟩
  · obtain ⟨u1, u2⟩ := h3 X φ F hD hH he
    refine ⟨fun z hz => ?_, u2⟩
    unfold upI
    by_cases e : z = y
    · rw [if_pos e, e]; exact hm X φ F hD hH he
    · rw [if_neg e]; exact u1 z hz
/-- s and t that stand in cells of one class in one column -/
theorem QI_must {L N : Int} {V : Int → Prop} {E0 : Int → Int → Int} {a b : Int} {nm : Int → Int} {E : Int → Int → Int} {r c : Int} (hb : ∀ x, V x → 0 ≤ x ∧ x < N) (h : QI L N V E0 a b nm E) (hr : V r) (c0 : 0 ≤ c) (c1 : c < L) (hs : E r c ≠ -2) (ht : E (root nm r) c ≠ -2) : ∀ (X : Type) (φ : Int → X) (F : X → Int → X → Prop), Det F → Hm L V E0 φ F → φ a = φ b → φ (root nm (E r c)) = φ (root nm (E (root nm r) c)) := by
  obtain ⟨hf, hv, hab, h1, h2, h3⟩ := h
  intro X φ F hD hH he
  obtain ⟨u1, u2⟩ := h3 X φ F hD hH he
  have rV := fun z hz => root_V hb hf hv u1 (z.toNat + 1) z (by omega) hz
  have hn := rV r hr
  have g1 := u2 r c hr c0 c1 hs
  have g2 := u2 (root nm r) c hn.1 c0 c1 ht
  rw [hn.2] at g2
  rw [(rV _ (h2 r c hr c0 c1 hs).1).2, (rV _ (h2 _ c hn.1 c0 c1 ht).1).2]
  exact hD _ _ _ _ g1 g2
/-- a pass that changed nothing: the quarrel is over -/
theorem QI_end {L N : Int} {V : Int → Prop} {E0 : Int → Int → Int} {a b : Int} {nm : Int → Int} {E : Int → Int → Int} (hb : ∀ x, V x → 0 ≤ x ∧ x < N) (hc0 : ∀ r c, V r → 0 ≤ c → c < L → E0 r c ≠ -2 → V (E0 r c)) (h : QI L N V E0 a b nm E) (hp : ∀ r c, V r → 0 ≤ c → c < L → E r c ≠ -2 → E (root nm r) c ≠ -2 ∧ root nm (E (root nm r) c) = root nm (E r c)) : QR L V E0 a b (fun r => V r ∧ nm r = r) (fun r c => if E r c = -2 then -2 else root nm (E r c)) := by
  obtain ⟨hf, hv, hab, h1, h2, h3⟩ := h
  refine ⟨root nm, fun r hr => ?_, fun r hr => ⟨hr.1, root_fix hr.2⟩, hab, fun r c hr c0 c1 hne => ?_, fun r c hr c0 c1 hne => ?_, fun X φ F hD hH he r hr => ?_⟩
  · have g := root_spec hf (hb r hr).1 (hb r hr).2
    exact ⟨⟨root_in hb hf hv hr, g.1.1⟩, g.2.2⟩
  · have e := h1 r c hr c0 c1 hne
    have g := hp r c hr c0 c1 (by rw [e]; exact hne)
    show (if E (root nm r) c = -2 then _ else _) = _
    rw [if_neg g.1, g.2, e]
  · have hne2 : E r c ≠ -2 := by
      intro q
      apply hne
      show (if E r c = -2 then (-2 : Int) else _) = -2
      rw [if_pos q]
    obtain ⟨g1, r0, g2, g3, g4, g5, g6⟩ := h2 r c hr.1 c0 c1 hne2
    refine ⟨r0, g2, by rw [g3, root_fix hr.2], g4, ?_⟩
    show _ = (if E r c = -2 then _ else _)
    rw [if_neg hne2, g6]
  · exact (root_V hb hf hv (h3 X φ F hD hH he).1 (r.toNat + 1) r (by omega) hr).2
/-- the beginning: every row its own name, then a and b joined -/
theorem QI_first {L N : Int} {V : Int → Prop} {E0 : Int → Int → Int} {a b x y : Int} {nm : Int → Int} (hb : ∀ x, V x → 0 ≤ x ∧ x < N) (hE : ∀ r c, V r → 0 ≤ c → c < L → E0 r c ≠ -2 → V (E0 r c)) (hn : ∀ z, 0 ≤ z → z < N → nm z = z) (hx : V x) (hy : V y) (hxy : x < y) (hab : (a = x ∧ b = y) ∨ (a = y ∧ b = x)) : QI L N V E0 a b (upI nm y x) E0 := by
  have bx := hb x hx
  have by_ := hb y hy
  have hf : forest nm N := fun z h0 h1 => by rw [hn z h0 h1]; exact ⟨h0, Int.le_refl z⟩
  have ru : ∀ z, V z → root (upI nm y x) z = if root nm z = y then x else root nm z := fun z hz => root_up hf bx.1 hxy by_.2 (hn x bx.1 bx.2) (hn y by_.1 by_.2) (z.toNat + 1) z (by omega) (hb z hz).1 (hb z hz).2
  have rx : root (upI nm y x) x = x := by rw [ru x hx, root_fix (hn x bx.1 bx.2), if_neg (by omega)]
  have ry : root (upI nm y x) y = x := by rw [ru y hy, root_fix (hn y by_.1 by_.2), if_pos rfl]
  refine ⟨forest_up hf bx.1 hxy, fun z hz => ?_, ?_, fun _ _ _ _ _ _ => rfl, fun r c hr c0 c1 hne => ⟨hE r c hr c0 c1 hne, r, hr, rfl, hne, hE r c hr c0 c1 hne, rfl⟩, fun X φ F hD hH he => ⟨fun z hz => ?_, hH⟩⟩
  · unfold upI
    by_cases e : z = y
    · rw [if_pos e]; exact hx
    · rw [if_neg e, hn z (hb z hz).1 (hb z hz).2]; exact hz
  · rcases hab with ⟨rfl, rfl⟩ | ⟨rfl, rfl⟩
    · rw [rx, ry]
    · rw [rx, ry]
  · unfold upI
    by_cases e : z = y
    · rw [if_pos e, e]
      rcases hab with ⟨rfl, rfl⟩ | ⟨rfl, rfl⟩
      · exact he
      · exact he.symm
    · rw [if_neg e, hn z (hb z hz).1 (hb z hz).2]
