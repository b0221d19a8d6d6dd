def SHL : List (Nat ⊕ (Nat × Nat)) := [.inl 8, .inr (1, 400), .inl 7, .inr (4, 12), .inl 6, .inr (0, 40), .inl 6, .inr (0, 40), .inl 6, .inr (0, 40), .inl 6, .inr (0, 40), .inl 6, .inr (0, 40), .inl 6, .inr (0, 40), .inl 6, .inr (0, 40), .inl 6, .inr (0, 40), .inl 6, .inr (0, 40), .inl 6, .inr (0, 40), .inl 6, .inr (0, 40), .inl 6, .inr (0, 40), .inl 7, .inr (4, 6), .inl 6, .inr (0, 40), .inl 6, .inr (0, 40), .inl 6, .inr (0, 40), .inl 6, .inr (0, 40), .inl 6, .inr (0, 40), .inl 6, .inr (0, 40), .inl 6, .inr (0, 40), .inl 2, .inr (4, 9), .inr (4, 9), .inl 6, .inr (0, 160), .inl 6, .inr (0, 40), .inl 6, .inr (0, 40), .inl 6, .inr (0, 40), .inl 6, .inr (0, 40), .inl 6, .inr (0, 40), .inl 6, .inr (0, 40), .inl 6, .inr (0, 40), .inl 6, .inr (0, 40), .inl 6, .inr (0, 40), .inl 6, .inr (0, 40), .inl 6, .inr (0, 40), .inl 6, .inr (0, 40), .inl 6, .inr (0, 40), .inl 6, .inr (0, 40), .inl 6, .inr (0, 40), .inl 6, .inr (0, 40), .inl 6, .inr (0, 40), .inl 6, .inr (0, 40), .inl 6, .inr (0, 40), .inl 4, .inr (0, 3000), .inr (0, 300), .inr (2, 300), .inr (0, 300), .inr (0, 300), .inr (0, 300), .inr (0, 300), .inl 0, .inl 5, .inr (0, 300), .inr (0, 300), .inr (0, 300), .inr (0, 300), .inr (2, 300), .inl 6, .inr (0, 1), .inr (1, 300), .inl 1, .inr (0, 60), .inr (0, 2400), .inr (0, 40), .inr (0, 6), .inr (0, 6), .inl 3, .inr (0, 400), .inr (2, 40), .inr (0, 40), .inl 9, .inr (1, 400), .inr (1, 400), .inr (0, 480), .inr (0, 12), .inr (0, 240), .inr (0, 6), .inr (0, 40), .inr (0, 12000), .inr (0, 40), .inr (0, 9), .inr (0, 9), .inr (0, 9), .inr (0, 20000), .inr (0, 20000), .inr (0, 2000), .inr (2, 2000), .inr (2, 2000), .inr (2, 2000), .inr (2, 2000), .inr (0, 11), .inr (0, 11), .inr (0, 2000), .inr (0, 300), .inr (0, 3000), .inr (2, 300), .inr (1, 640), .inr (0, 2000), .inr (0, 2000), .inr (0, 2000), .inr (0, 60), .inr (0, 2400), .inr (0, 40), .inr (0, 61), .inr (0, 61), .inr (0, 61), .inr (0, 61), .inr (0, 400), .inr (3, 1), .inl 4, .inr (0, 3000), .inr (0, 300), .inr (2, 300), .inr (0, 300), .inr (0, 300), .inr (0, 300), .inr (0, 300)]
def SH (a : Nat) : Nat ⊕ (Nat × Nat) := SHL.getD a (.inr (0, 0))
abbrev pHo : Nat := 0
abbrev pHo_tape : Nat := 1
abbrev pWs : Nat := 2
abbrev pWs_e : Nat := 3
abbrev pWs_0 : Nat := 4
abbrev pWs_0_c : Nat := 5
abbrev pSs : Nat := 28
abbrev pSs_e : Nat := 29
abbrev pSs_0 : Nat := 30
abbrev pSs_0_c : Nat := 31
abbrev pAsk : Nat := 42
abbrev pAsk_c : Nat := 43
abbrev pRe : Nat := 44
abbrev pRe_sums : Nat := 45
abbrev pRe_firsts : Nat := 46
abbrev pAtom : Nat := 47
abbrev pAtom_c : Nat := 48
abbrev pRaised : Nat := 49
abbrev pRaised_c : Nat := 50
abbrev pSum0 : Nat := 51
abbrev pSum0_c : Nat := 52
abbrev pFirst0 : Nat := 53
abbrev pFirst0_c : Nat := 54
abbrev pTa : Nat := 87
abbrev pTa_cells : Nat := 88
abbrev pTa_numbers : Nat := 89
abbrev pTa_done : Nat := 90
abbrev pTa_order : Nat := 91
abbrev pTa_spare : Nat := 92
abbrev pTa_parents : Nat := 93
abbrev pTa_melting : Nat := 94
abbrev pFi : Nat := 95
abbrev pWa : Nat := 96
abbrev pWa_queue : Nat := 97
abbrev pWa_origins : Nat := 98
abbrev pWa_vias : Nat := 99
abbrev pWa_lengths : Nat := 100
abbrev pWa_seen : Nat := 101
abbrev pSingle : Nat := 102
abbrev pSingle_c : Nat := 103
abbrev pHo_told : Nat := 104
abbrev pLo : Nat := 105
abbrev pLo_cells : Nat := 106
abbrev pLo_kept : Nat := 107
abbrev pLo_keptRows : Nat := 108
abbrev pLo_names : Nat := 109
abbrev pLo_met : Nat := 110
abbrev pSh : Nat := 111
abbrev pSh_cells : Nat := 112
abbrev pSh_seen : Nat := 113
abbrev pSh_queue : Nat := 114
abbrev pMo : Nat := 115
abbrev pMo_tape : Nat := 116
abbrev pMo_text : Nat := 117
abbrev pMo_words : Nat := 118
abbrev pMo_wordSize : Nat := 119
abbrev pMo_subs : Nat := 120
abbrev pMo_subSize : Nat := 121
abbrev pMo_asked : Nat := 122
abbrev pMo_pile : Nat := 123
abbrev pMo_pileSize : Nat := 124
abbrev pMo_opened : Nat := 125
abbrev pMo_openedAt : Nat := 126
abbrev pMo_begun : Nat := 127
abbrev pMo_cells : Nat := 128
abbrev pMo_keptCells : Nat := 129
abbrev pMo_name : Nat := 130
abbrev pMo_isLeft : Nat := 131
abbrev pMo_isDone : Nat := 132
abbrev pMo_keptLeft : Nat := 133
abbrev pMo_keptDone : Nat := 134
abbrev pMo_state : Nat := 135
abbrev pMo_keptState : Nat := 136
abbrev pMo_newOf : Nat := 137
abbrev pMo_oldOf : Nat := 138
abbrev pMo_spare : Nat := 139
abbrev pMo_spareDone : Nat := 140
abbrev pMo_out : Nat := 141
abbrev pMo_metFrom : Nat := 142
abbrev pMo_metBy : Nat := 143
abbrev pMo_far : Nat := 144
abbrev pMo_low : Nat := 145
abbrev pMo_lows : Nat := 146
abbrev pMo_lowSize : Nat := 147
abbrev pMo_triedRow : Nat := 148
abbrev pMo_triedColumn : Nat := 149
abbrev pMo_triedValue : Nat := 150
abbrev pMo_triedRows : Nat := 151
abbrev pMo_sheet : Nat := 152
abbrev pLong : Nat := 153
abbrev pKt : Nat := 154
abbrev pKt_cells : Nat := 155
abbrev pKt_numbers : Nat := 156
abbrev pKt_done : Nat := 157
abbrev pKt_order : Nat := 158
abbrev pKt_spare : Nat := 159
abbrev pKt_parents : Nat := 160
abbrev pKt_melting : Nat := 161
def tyF (ci : Nat) : Nat → FieldType := match ci with
  | 0 => t_Fi
  | 1 => t_Lo
  | 2 => t_Re
  | 3 => t_Sh
  | 4 => t_Ta
  | 5 => t_Wa
  | 6 => t_Wo
  | 7 => t_Wl
  | 8 => t_Ho
  | _ => t_Mo
def nF (ci : Nat) : Nat := match ci with
  | 0 => 6
  | 1 => 13
  | 2 => 11
  | 3 => 4
  | 4 => 19
  | 5 => 7
  | 6 => 2
  | 7 => 2
  | 8 => 18
  | _ => 67
/-! THE PURE MACHINE: ints as integers, cells by positions; what its state says of the heap -/
abbrev PV : Type := Int ⊕ (Option Nat ⊕ Int)
abbrev PH : Type := (Nat → Int → Int) × (Nat → Int → Option Nat) × Nat × Nat × Nat
def gI (h : PH) (a : Nat) (k : Int) : Int := h.1 a k
def gR (h : PH) (a : Nat) (k : Int) : Option Nat := h.2.1 a k
def hN (h : PH) : Nat := h.2.2.1
def hC (h : PH) : Nat := h.2.2.2.1
def hZ (h : PH) : Nat := h.2.2.2.2
def sI (h : PH) (a : Nat) (k v : Int) : PH := (fun b j => if b = a ∧ j = k then v else h.1 b j, h.2)
def sA (h : PH) (a : Nat) (f : Int → Int) : PH := (fun b j => if b = a then f j else h.1 b j, h.2)
def sR (h : PH) (a : Nat) (k : Int) (v : Option Nat) : PH := (h.1, fun b j => if b = a ∧ j = k then v else h.2.1 b j, h.2.2)
/-- a new cell, of z slots, at the next position -/
def nC (h : PH) (z : Nat) : PH := (fun b j => if b = h.2.2.1 then 0 else h.1 b j, fun b j => if b = h.2.2.1 then none else h.2.1 b j, h.2.2.1 + 1, h.2.2.2.1 + 1, h.2.2.2.2 + z)
def inR (z : Int) : Prop := -2147483648 ≤ z ∧ z ≤ 2147483647
def inL (z : Int) : Prop := -9223372036854775808 ≤ z ∧ z ≤ 9223372036854775807
def isRf : FieldType → Bool
  | .object _ => true
  | .array _ => true
  | _ => false
def SC : Nat := 1000000
def okP (n k : Nat) : Prop := k < n ∨ k = SC
def okV (n : Nat) : PV → Prop
  | .inl z => inR z
  | .inr (.inl none) => True
  | .inr (.inl (some k)) => okP n k
  | .inr (.inr z) => inL z
def dV (ad : Nat → Nat) : PV → Value
  | .inl z => .int (Int32.ofInt z)
  | .inr (.inl o) => va_rf (o.map ad)
  | .inr (.inr z) => .long (Int64.ofInt z)
def fV (ad : Nat → Nat) (h : PH) (a ci k : Nat) : Value := if isRf (tyF ci k) then va_rf ((gR h a k).map ad) else .int (Int32.ofInt (gI h a k))
def cE (dA : Nat → ClassId) (ad : Nat → Nat) (h : PH) (a : Nat) : va_E := match SH a with
  | .inl ci => .inr (ci, (List.range (nF ci)).map (fun k => fV ad h a ci k))
  | .inr (t, n) => .inl (dA t, n, if t = 4 then .inr (.inr (.inr (.inr (fun i => (gR h a i).map ad)))) else if t = 3 then .inr (.inl (fun i => Int64.ofInt (gI h a i))) else .inl (fun i => Int32.ofInt (gI h a i)))
def wo (dA : Nat → ClassId) (ad : Nat → Nat) (h : PH) : va_W := (List.range (hN h)).map (fun a => (ad a, cE dA ad h a))
def tysOf (dA : Nat → ClassId) : List (ClassId × FieldType) := [(dA 0, .int), (dA 1, .byte), (dA 2, .boolean), (dA 3, .long), (dA 4, .object "CosetHouse$Word")]
def isLg (a : Nat) : Bool := match SH a with
  | .inr (3, _) => true
  | _ => false
def okH (h : PH) : Prop := (∀ a k, if isLg a then inL (gI h a k) else inR (gI h a k)) ∧ ∀ a k x, gR h a k = some x → x < hN h
def lnA (a : Nat) : Int := match SH a with
  | .inr (_, n) => n
  | _ => 0
/-- position a holds an object of class ci; an array of kind t -/
def isO (h : PH) (a ci : Nat) : Prop := a < hN h ∧ SH a = .inl ci
def isAr (h : PH) (a t : Nat) : Prop := a < hN h ∧ ∃ n, SH a = .inr (t, n)
-- reading and writing
theorem gI_sI (h : PH) (a b : Nat) (j k v : Int) : gI (sI h a k v) b j = if b = a ∧ j = k then v else gI h b j := rfl
theorem gI_sA (h : PH) (a b : Nat) (j : Int) (f : Int → Int) : gI (sA h a f) b j = if b = a then f j else gI h b j := rfl
theorem gI_sR (h : PH) (a b : Nat) (j k : Int) (v : Option Nat) : gI (sR h a k v) b j = gI h b j := rfl
theorem gR_sI (h : PH) (a b : Nat) (j k v : Int) : gR (sI h a k v) b j = gR h b j := rfl
theorem gR_sA (h : PH) (a b : Nat) (j : Int) (f : Int → Int) : gR (sA h a f) b j = gR h b j := rfl
theorem gR_sR (h : PH) (a b : Nat) (j k : Int) (v : Option Nat) : gR (sR h a k v) b j = if b = a ∧ j = k then v else gR h b j := rfl
theorem hN_sI (h : PH) (a : Nat) (k v : Int) : hN (sI h a k v) = hN h := rfl
theorem hN_sA (h : PH) (a : Nat) (f : Int → Int) : hN (sA h a f) = hN h := rfl
theorem hN_sR (h : PH) (a : Nat) (k : Int) (v : Option Nat) : hN (sR h a k v) = hN h := rfl
theorem hN_nC (h : PH) (z : Nat) : hN (nC h z) = hN h + 1 := rfl
theorem i32_toInt {z : Int} (h : inR z) : (Int32.ofInt z).toInt = z := Int32.toInt_ofInt_of_le (by have := h.1; omega) (by have := h.2; omega)
theorem i64_toInt {z : Int} (h : inL z) : (Int64.ofInt z).toInt = z := Int64.toInt_ofInt_of_le (by have := h.1; omega) (by have := h.2; omega)
theorem i32_nat {z : Int} (h : inR z) : (Int32.ofInt z).toNatClampNeg = z.toNat := by rw [← Int32.toNat_toInt, i32_toInt h]
theorem i32_eq {x y : Int} (hx : inR x) (hy : inR y) : Int32.ofInt x = Int32.ofInt y ↔ x = y := by rw [← Int32.toInt_inj, i32_toInt hx, i32_toInt hy]
theorem i32_lt {x y : Int} (hx : inR x) (hy : inR y) : Int32.ofInt x < Int32.ofInt y ↔ x < y := by rw [Int32.lt_iff_toInt_lt, i32_toInt hx, i32_toInt hy]
theorem i32_le {x y : Int} (hx : inR x) (hy : inR y) : Int32.ofInt x ≤ Int32.ofInt y ↔ x ≤ y := by rw [Int32.le_iff_toInt_le, i32_toInt hx, i32_toInt hy]
theorem inR_0 : inR 0 := ⟨by decide, by decide⟩
theorem i32_0 : Int32.ofInt 0 = 0 := rfl
theorem i32_of (w : Int32) : inR w.toInt ∧ Int32.ofInt w.toInt = w := ⟨⟨by have := w.le_toInt; omega, by have := w.toInt_lt; omega⟩, Int32.ofInt_toInt w⟩
theorem i32_in {z : Int} {n : Nat} (h0 : 0 ≤ z) (h1 : z < n) (hr : inR z) : vp_in (Int32.ofInt z) n := by
  rw [vp_in_iff, i32_toInt hr]
  exact ⟨h0, h1⟩
theorem wo_get {dA : Nat → ClassId} {ad : Nat → Nat} {h : PH} {a : Nat} (ha : a < hN h) : (wo dA ad h)[a]? = some (ad a, cE dA ad h a) := by
  unfold wo
  rw [List.getElem?_map, List.getElem?_range ha]
  rfl
theorem wo_len {dA : Nat → ClassId} {ad : Nat → Nat} {h : PH} : (wo dA ad h).length = hN h := by simp [wo]
theorem wo_none {dA : Nat → ClassId} {ad : Nat → Nat} {h : PH} {a : Nat} (ha : ¬ a < hN h) : (wo dA ad h)[a]? = none := List.getElem?_eq_none (by rw [wo_len]; omega)
/-- one cell written -/
theorem wo_set {dA : Nat → ClassId} {ad : Nat → Nat} {h h' : PH} {a : Nat} {x : va_E} (ha : a < hN h) (hn : hN h' = hN h) (hx : cE dA ad h' a = x) (ho : ∀ b, b ≠ a → cE dA ad h' b = cE dA ad h b) : (wo dA ad h).set a (ad a, x) = wo dA ad h' := by
  apply List.ext_getElem?
  intro i
  rw [List.getElem?_set]
  by_cases hi : a = i
  · subst hi
    rw [if_pos rfl, wo_len, if_pos ha, wo_get (by rw [hn]; exact ha), hx]
  · rw [if_neg hi]
    by_cases hl : i < hN h
    · rw [wo_get hl, wo_get (by rw [hn]; exact hl), ho i (fun q => hi q.symm)]
    · rw [wo_none hl, wo_none (by rw [hn]; exact hl)]
theorem cE_obj {dA : Nat → ClassId} {ad : Nat → Nat} {h : PH} {a ci : Nat} (hs : SH a = .inl ci) : cE dA ad h a = .inr (ci, (List.range (nF ci)).map (fun k => fV ad h a ci k)) := by
  unfold cE
  rw [hs]
theorem cE_arr {dA : Nat → ClassId} {ad : Nat → Nat} {h : PH} {a t n : Nat} (hs : SH a = .inr (t, n)) (h3 : t ≠ 3) (h4 : t ≠ 4) : cE dA ad h a = .inl (dA t, n, .inl (fun i => Int32.ofInt (gI h a i))) := by
  unfold cE
  rw [hs]
  simp [h3, h4]
theorem cE_ref {dA : Nat → ClassId} {ad : Nat → Nat} {h : PH} {a n : Nat} (hs : SH a = .inr (4, n)) : cE dA ad h a = .inl (dA 4, n, .inr (.inr (.inr (.inr (fun i => (gR h a i).map ad))))) := by
  unfold cE
  rw [hs]
  rfl
theorem cE_lng {dA : Nat → ClassId} {ad : Nat → Nat} {h : PH} {a n : Nat} (hs : SH a = .inr (3, n)) : cE dA ad h a = .inl (dA 3, n, .inr (.inl (fun i => Int64.ofInt (gI h a i)))) := by
  unfold cE
  rw [hs]
  rfl
/-- a cell is the same where its ints and its references are -/
theorem cE_same {dA : Nat → ClassId} {ad ad' : Nat → Nat} {h h' : PH} {a : Nat} (hi : ∀ k, gI h' a k = gI h a k) (hr : ∀ k, (gR h' a k).map ad' = (gR h a k).map ad) : cE dA ad' h' a = cE dA ad h a := by
  unfold cE fV
  simp only [hi, hr]
theorem okH_sI {h : PH} (hh : okH h) {a : Nat} {k v : Int} (hv : inR v) : okH (sI h a k v) ∨ isLg a = true := by
  by_cases hl : isLg a = true
  · exact Or.inr hl
  · refine Or.inl ⟨fun b j => ?_, hh.2⟩
    rw [gI_sI]
    by_cases hb : b = a ∧ j = k
    · rw [if_pos hb, if_neg (by rw [hb.1]; exact hl)]; exact hv
    · rw [if_neg hb]; exact hh.1 b j
theorem okV_int {n : Nat} {z : Int} : okV n (.inl z) ↔ inR z := Iff.rfl
theorem okH_int {h : PH} (hh : okH h) {a : Nat} (hl : isLg a = false) (k : Int) : inR (gI h a k) := by
  have := hh.1 a k
  rw [if_neg (by rw [hl]; decide)] at this
  exact this
theorem isLg_obj {a ci : Nat} (h : SH a = .inl ci) : isLg a = false := by unfold isLg; rw [h]
theorem isLg_arr {a t n : Nat} (h : SH a = .inr (t, n)) (h3 : t ≠ 3) : isLg a = false := by
  unfold isLg
  rw [h]
  match t, h3 with
  | 0, _ => rfl
  | 1, _ => rfl
  | 2, _ => rfl
  | 3, h3 => exact absurd rfl h3
  | _ + 4, _ => rfl
