/-! THE SCRIPT's rows; contracts made monotone -/
def pSA (st : List PV) (f : Int → List PV → Prop) : Prop := match st with
  | .inl i :: .inr (.inl (some a)) :: r => a = SC ∧ f i r
  | _ => False
theorem pSA_s {st : List PV} {f : Int → List PV → Prop} (h : pSA st f) : ∃ i r, st = .inl i :: .inr (.inl (some SC)) :: r ∧ f i r := by
  unfold pSA at h; split at h
  · obtain ⟨rfl, h⟩ := h; exact ⟨_, _, rfl, h⟩
  · exact h.elim
def pSL (st : List PV) (f : List PV → Prop) : Prop := match st with
  | .inr (.inl (some a)) :: r => a = SC ∧ f r
  | _ => False
theorem pSL_s {st : List PV} {f : List PV → Prop} (h : pSL st f) : ∃ r, st = .inr (.inl (some SC)) :: r ∧ f r := by
  unfold pSL at h; split at h
  · obtain ⟨rfl, h⟩ := h; exact ⟨_, rfl, h⟩
  · exact h.elim
/-- the script's ints -/
def tt_sd (xs : Nat → Int32) (SL : Nat) (nx : TT) : TT := fun K R ls st h => pSA st (fun i r => 0 ≤ i ∧ i < SL ∧ nx K R ls (.inl (xs i.toNat).toInt :: r) h)
def tt_sn (SL : Nat) (nx : TT) : TT := fun K R ls st h => pSL st (fun r => nx K R ls (.inl SL :: r) h)
theorem inR_32 (x : Int32) : inR x.toInt := ⟨Int32.le_toInt x, by have := Int32.toInt_lt x; omega⟩
theorem sl_sd {xs : Nat → Int32} {SL : Nat} {md : MD} {lc lz pc : Nat} {nx : TT} (hd : decode md.2.1 pc = .ok (.iaload, 1)) (hn : SnL xs SL md lc lz (pc + 1) nx) : SnL xs SL md lc lz pc (tt_sd xs SL nx) := by
  intro p l e s m args below meth c D dA A mc ms c0 z0 ad0 n0 post Q F L HR EX K hK ls st h ht
  have hn := hn p l e s m args below meth c D dA A mc ms c0 z0 ad0 n0 post Q F L HR EX K hK
  obtain ⟨i, r, rfl, h0, h1, ht⟩ := pSA_s ht
  intro ad H locs lsA e1 e2 e3 e4 hP hD hS hH hF hl hv
  have hi : inR i := okF_top hF
  have g := hn ls (.inl (xs i.toNat).toInt :: r) h ht ad H locs lsA e1 e2 e3 e4 hP hD hS hH (okF_push (okF_pop (okF_pop hF)) (inR_32 _)) hl hv
  have ea : ad SC = ad0 SC := e1 SC (Or.inr rfl)
  obtain ⟨x1, x2, x3, x4, -⟩ := EX
  show W _ _ _ _ _ _ _ _ _ _ _ _ _ _ _ (F0 m pc lsA (Value.int (Int32.ofInt i) :: Value.ref (ad SC) :: r.map (dV ad)))
  rw [ea]
  refine va_sld F.1 F.2.1 x4 x3 (fun z => by have := x2 _ z; omega) hS (i32_in h0 h1 hi) hd ?_
  rw [i32_nat hi]
  have e9 : Int32.ofInt (xs i.toNat).toInt = xs i.toNat := Int32.ofInt_toInt _
  have g' : W p l e (rmOf md mc ms) s m args below meth c H locs (hC h - c0) (hZ h - z0) Q (F0 m (pc + 1) lsA (Value.int (Int32.ofInt (xs i.toNat).toInt) :: r.map (dV ad))) := g
  rw [e9] at g'
  exact g'
theorem sl_sn {xs : Nat → Int32} {SL : Nat} {md : MD} {lc lz pc : Nat} {nx : TT} (hd : decode md.2.1 pc = .ok (.arraylength, 1)) (hn : SnL xs SL md lc lz (pc + 1) nx) : SnL xs SL md lc lz pc (tt_sn SL nx) := by
  intro p l e s m args below meth c D dA A mc ms c0 z0 ad0 n0 post Q F L HR EX K hK ls st h ht
  have hn := hn p l e s m args below meth c D dA A mc ms c0 z0 ad0 n0 post Q F L HR EX K hK
  obtain ⟨r, rfl, ht'⟩ := pSL_s ht
  intro ad H locs lsA e1 e2 e3 e4 hP hD hS hH hF hl hv
  obtain ⟨x1, x2, x3, x4, x5, -⟩ := EX
  have g := hn ls (.inl SL :: r) h ht' ad H locs lsA e1 e2 e3 e4 hP hD hS hH (okF_push (okF_pop hF) (show inR (SL : Int) from ⟨by omega, by omega⟩)) hl hv
  have ea : ad SC = ad0 SC := e1 SC (Or.inr rfl)
  show W _ _ _ _ _ _ _ _ _ _ _ _ _ _ _ (F0 m pc lsA (Value.ref (ad SC) :: r.map (dV ad)))
  rw [ea]
  refine va_slen F.1 F.2.1 x4 x3 (fun z => by have := x2 _ z; omega) hS hd ?_
  exact g
def CtM (mc ms : List PV → Nat) (Ct : CtT) : CtT := fun av h post => ∃ p : TR, Ct av h p ∧ ∀ r h', p r h' → hC h' = hC h + mc av → hZ h' = hZ h + ms av → post r h'
theorem metM {y : MethodName} {md : MD} {mc ms : List PV → Nat} {Ct : CtT} (hM : MetP y md mc ms Ct) : MetP y md mc ms (CtM mc ms Ct) := by
  intro l D dA ad h sz av post hct hH hav
  obtain ⟨q, h1, h2⟩ := hct
  have g := hM l D dA ad h sz av q h1 hH hav
  intro p e ha hc hk s m args below hf happ hP hK
  obtain ⟨n, o, a1, a2, a3, ⟨⟨r, h', ad', b1, b2, b3, b4, b5, b6, b7, b8, b9, b10⟩, b11⟩, c⟩ := g p e ha hc hk s m args below hf happ hP hK
  exact ⟨n, o, a1, a2, a3, ⟨⟨r, h', ad', b1, h2 r h' b2 b9 b10, b3, b4, b5, b6, b7, b8, b9, b10⟩, b11⟩, c⟩
