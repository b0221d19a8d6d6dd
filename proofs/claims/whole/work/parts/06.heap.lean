theorem nar_ref {ty : FieldType} (h : isRf ty = true) (r : Option Nat) : narrow ty (va_rf r) = va_rf r := by
  cases ty <;> first | (cases h; done) | (cases r <;> rfl)
theorem fit_ref {ty : FieldType} (h : isRf ty = true) (r : Option Nat) : fits ty (va_rf r) = true := by
  cases ty <;> first | (cases h; done) | (cases r <;> rfl)
def FD (own : String) (idx ci k : Nat) (fin : Bool) : Prop := ∃ (C : String) (T : u_T), classes[ci]? = some (C, T, nF ci) ∧ (∀ w ∈ u_ws C T (nF ci), w ∈ gw) ∧ k < nF ci ∧ Cond.fieldLink own idx (T k).1 (T k).2.1 (T k).2.2.1 ∈ gw ∧ (∀ j, j < nF ci → parseFieldDescriptor (T j).2.2.1 = some (tyF ci j)) ∧ (∀ a, a < nF ci → ∀ b, b < nF ci → a ≠ b → (T a).2.1 ≠ (T b).2.1) ∧ (T k).2.2.2 = fin
theorem okV_ref {h : PH} (hH : okH h) (a : Nat) (k : Int) : okV (hN h) (.inr (.inl (gR h a k))) := by
  cases hg : gR h a k with
  | none => trivial
  | some x => exact Or.inl (hH.2 a k x hg)
theorem fV_get {ad : Nat → Nat} {h : PH} {a ci k N : Nat} (hk : k < N) : ((List.range N).map (fun k => fV ad h a ci k))[k]? = some (fV ad h a ci k) := by
  rw [List.getElem?_map, List.getElem?_range hk]
  rfl
theorem fV_set {ad : Nat → Nat} {h h' : PH} {a ci k N : Nat} {v : Value} (hk : k < N) (hv : fV ad h' a ci k = v) (ho : ∀ j, j ≠ k → fV ad h' a ci j = fV ad h a ci j) : (List.range N).map (fun k => fV ad h' a ci k) = ((List.range N).map (fun k => fV ad h a ci k)).set k v := by
  apply List.ext_getElem?
  intro j
  rw [List.getElem?_set]
  by_cases hj : k = j
  · subst hj
    rw [if_pos rfl, if_pos (by simpa using hk), fV_get hk, hv]
  · rw [if_neg hj]
    by_cases hl : j < N
    · rw [fV_get hl, fV_get hl, ho j (fun q => hj q.symm)]
    · rw [List.getElem?_eq_none (by simpa using hl), List.getElem?_eq_none (by simpa using hl)]
theorem wo_sI {dA : Nat → ClassId} {ad : Nat → Nat} {h : PH} {a ci k : Nat} {v : Int} (ha : a < hN h) (hs : SH a = .inl ci) (hk : k < nF ci) (hr : isRf (tyF ci k) = false) : (wo dA ad h).set a (ad a, .inr (ci, ((List.range (nF ci)).map (fun k => fV ad h a ci k)).set k (.int (Int32.ofInt v)))) = wo dA ad (sI h a k v) := by
  refine wo_set ha rfl ?_ (fun b hb => cE_same (fun j => by rw [gI_sI, if_neg (fun q => hb q.1)]) (fun _ => rfl))
  rw [cE_obj hs, fV_set hk (h := h)]
  · simp [fV, hr, gI_sI]
  · intro j hj
    unfold fV
    rw [gI_sI, gR_sI, if_neg (fun q : a = a ∧ (j : Int) = (k : Int) => hj (Int.ofNat.inj q.2))]
theorem wo_sR {dA : Nat → ClassId} {ad : Nat → Nat} {h : PH} {a ci k : Nat} {v : Option Nat} (ha : a < hN h) (hs : SH a = .inl ci) (hk : k < nF ci) (hr : isRf (tyF ci k) = true) : (wo dA ad h).set a (ad a, .inr (ci, ((List.range (nF ci)).map (fun k => fV ad h a ci k)).set k (va_rf (v.map ad)))) = wo dA ad (sR h a k v) := by
  refine wo_set ha rfl ?_ (fun b hb => cE_same (fun j => rfl) (fun j => by rw [gR_sR, if_neg (fun q => hb q.1)]))
  rw [cE_obj hs, fV_set hk (h := h)]
  · simp [fV, hr, gR_sR]
  · intro j hj
    unfold fV
    rw [gI_sR, gR_sR, if_neg (fun q : a = a ∧ (j : Int) = (k : Int) => hj (Int.ofNat.inj q.2))]
theorem wo_sIa {dA : Nat → ClassId} {ad : Nat → Nat} {h : PH} {a t n : Nat} {i v : Int} {x : Int32} (ha : a < hN h) (hs : SH a = .inr (t, n)) (h3 : t ≠ 3) (h4 : t ≠ 4) (h0 : 0 ≤ i) (hi : inR i) (hx : x = Int32.ofInt v) : (wo dA ad h).set a (ad a, .inl (dA t, n, .inl (upd (fun i : Nat => Int32.ofInt (gI h a i)) (Int32.ofInt i).toNatClampNeg x))) = wo dA ad (sI h a i v) := by
  refine wo_set ha rfl ?_ (fun b hb => cE_same (fun j => by rw [gI_sI, if_neg (fun q => hb q.1)]) (fun _ => rfl))
  rw [cE_arr hs h3 h4]
  congr 4
  funext j
  rw [i32_nat hi, gI_sI]
  unfold upd
  by_cases hj : j = i.toNat
  · rw [if_pos hj, if_pos ⟨rfl, by omega⟩, hx]
  · rw [if_neg hj, if_neg (fun q => hj (by omega))]
theorem wo_sRa {dA : Nat → ClassId} {ad : Nat → Nat} {h : PH} {a n v : Nat} {i : Int} (ha : a < hN h) (hs : SH a = .inr (4, n)) (h0 : 0 ≤ i) (hi : inR i) : (wo dA ad h).set a (ad a, .inl (dA 4, n, .inr (.inr (.inr (.inr (va_up (fun i : Nat => (gR h a i).map ad) (Int32.ofInt i).toNatClampNeg (some (ad v)))))))) = wo dA ad (sR h a i (some v)) := by
  refine wo_set ha rfl ?_ (fun b hb => cE_same (fun _ => rfl) (fun j => by rw [gR_sR, if_neg (fun q => hb q.1)]))
  rw [cE_ref hs]
  congr 7
  funext j
  rw [i32_nat hi, gR_sR]
  unfold va_up
  by_cases hj : j = i.toNat
  · rw [if_pos hj, if_pos ⟨rfl, by omega⟩]; rfl
  · rw [if_neg hj, if_neg (fun q => hj (by omega))]
theorem wo_sLa {dA : Nat → ClassId} {ad : Nat → Nat} {h : PH} {a n : Nat} {i v : Int} (ha : a < hN h) (hs : SH a = .inr (3, n)) (h0 : 0 ≤ i) (hi : inR i) : (wo dA ad h).set a (ad a, .inl (dA 3, n, .inr (.inl (vp_updL (fun i : Nat => Int64.ofInt (gI h a i)) (Int32.ofInt i).toNatClampNeg (Int64.ofInt v))))) = wo dA ad (sI h a i v) := by
  refine wo_set ha rfl ?_ (fun b hb => cE_same (fun j => by rw [gI_sI, if_neg (fun q => hb q.1)]) (fun _ => rfl))
  rw [cE_lng hs]
  congr 5
  funext j
  rw [i32_nat hi, gI_sI]
  unfold vp_updL
  by_cases hj : j = i.toNat
  · rw [if_pos hj, if_pos ⟨rfl, by omega⟩]
  · rw [if_neg hj, if_neg (fun q => hj (by omega))]
theorem okH_wI {h : PH} (hh : okH h) {a : Nat} {k v : Int} (hl : isLg a = false) (hv : inR v) : okH (sI h a k v) := (okH_sI hh hv).elim id (fun q => by rw [hl] at q; cases q)
theorem okH_wL {h : PH} (hh : okH h) {a : Nat} {k v : Int} (hl : isLg a = true) (hv : inL v) : okH (sI h a k v) := by
  refine ⟨fun b j => ?_, hh.2⟩
  rw [gI_sI]
  by_cases hb : b = a ∧ j = k
  · rw [if_pos hb, if_pos (by rw [hb.1]; exact hl)]; exact hv
  · rw [if_neg hb]; exact hh.1 b j
theorem okH_wR {h : PH} (hh : okH h) {a : Nat} {k : Int} {v : Option Nat} (hv : ∀ x, v = some x → x < hN h) : okH (sR h a k v) := by
  refine ⟨hh.1, fun b j x hx => ?_⟩
  rw [gR_sR] at hx
  by_cases hb : b = a ∧ j = k
  · rw [if_pos hb] at hx; exact hv x hx
  · rw [if_neg hb] at hx; exact hh.2 b j x hx
theorem nat_back {i : Int} (h0 : 0 ≤ i) (hi : inR i) : (((Int32.ofInt i).toNatClampNeg : Nat) : Int) = i := by rw [i32_nat hi]; omega
theorem lnA_of {a t n : Nat} (hs : SH a = .inr (t, n)) : lnA a = n := by unfold lnA; rw [hs]
theorem nar_byte {v : Int} (h0 : -128 ≤ v) (h1 : v ≤ 127) : vp_nar .byte (Int32.ofInt v) = Int32.ofInt v := by
  rw [vp_nar_byte, ← Int32.toInt_inj, Int8.toInt_toInt32, Int32.toInt_toInt8, i32_toInt ⟨by omega, by omega⟩]
  exact Int.bmod_eq_of_le (by omega) (by omega)
theorem nar_bool {v : Int} (h : v = 0 ∨ v = 1) : vp_nar .boolean (Int32.ofInt v) = Int32.ofInt v := by rcases h with rfl | rfl <;> decide
def tt_gI (ci : Nat) (k : Int) (nx : TT) : TT := fun K R ls st h => pA st (fun a r => isO h a ci ∧ nx K R ls (.inl (gI h a k) :: r) h)
def tt_gR (ci : Nat) (k : Int) (nx : TT) : TT := fun K R ls st h => pA st (fun a r => isO h a ci ∧ nx K R ls (.inr (.inl (gR h a k)) :: r) h)
theorem snd_gI {md : MD} {lc lz pc : Nat} {idx ci kn : Nat} {fin : Bool} {nx : TT} (fd : FD md.1 idx ci kn fin) (hr : isRf (tyF ci kn) = false) (hd : decode md.2.1 pc = .ok (.getfield idx, 3)) (hn : Snd md lc lz (pc + 3) nx) : Snd md lc lz pc (tt_gI ci kn nx) := by
  intro p l e s m args below meth c D dA A mc ms c0 z0 ad0 n0 post Q F L HR K hK ls st h ht
  have hn := hn p l e s m args below meth c D dA A mc ms c0 z0 ad0 n0 post Q F L HR K hK
  obtain ⟨a, r, rfl, ⟨ha, hs⟩, ht⟩ := pA_s ht
  intro ad H locs lsA e1 e2 e3 e4 hP hD hS hH hF hl hv
  obtain ⟨C, T, hc, hin, hk, hlk, hty, hnm, hfin⟩ := fd
  have hw := wo_get (dA := dA) (ad := ad) ha
  rw [cE_obj hs] at hw
  refine va_get (own := md.1) (v := .int (Int32.ofInt (gI h a kn))) F.1 F.2.1 F.2.2.2.2.2.2.1 hin F.2.2.2.2.2.1 F.2.2.2.2.2.2.2.1 hP a hw hc kn hk (F.2.2.2.2.2.2.1 _ hlk) (fun _ h9 => h9) ?_ hd ?_
  · rw [fV_get hk]; simp [fV, hr]
  · exact hn ls (.inl (gI h a kn) :: r) h ht ad H locs lsA e1 e2 e3 e4 hP hD hS hH (okF_push (okF_pop hF) (okH_int hH (isLg_obj hs) _)) hl hv

theorem snd_gR {md : MD} {lc lz pc : Nat} {idx ci kn : Nat} {fin : Bool} {nx : TT} (fd : FD md.1 idx ci kn fin) (hr : isRf (tyF ci kn) = true) (hd : decode md.2.1 pc = .ok (.getfield idx, 3)) (hn : Snd md lc lz (pc + 3) nx) : Snd md lc lz pc (tt_gR ci kn nx) := by
  intro p l e s m args below meth c D dA A mc ms c0 z0 ad0 n0 post Q F L HR K hK ls st h ht
  have hn := hn p l e s m args below meth c D dA A mc ms c0 z0 ad0 n0 post Q F L HR K hK
  obtain ⟨a, r, rfl, ⟨ha, hs⟩, ht⟩ := pA_s ht
  intro ad H locs lsA e1 e2 e3 e4 hP hD hS hH hF hl hv
  obtain ⟨C, T, hc, hin, hk, hlk, hty, hnm, hfin⟩ := fd
  have hw := wo_get (dA := dA) (ad := ad) ha
  rw [cE_obj hs] at hw
  refine va_get (own := md.1) (v := va_rf ((gR h a kn).map ad)) F.1 F.2.1 F.2.2.2.2.2.2.1 hin F.2.2.2.2.2.1 F.2.2.2.2.2.2.2.1 hP a hw hc kn hk (F.2.2.2.2.2.2.1 _ hlk) (fun _ h9 => h9) ?_ hd ?_
  · rw [fV_get hk]; simp [fV, hr]
  · exact hn ls (.inr (.inl (gR h a kn)) :: r) h ht ad H locs lsA e1 e2 e3 e4 hP hD hS hH (okF_push (okF_pop hF) (okV_ref hH _ _)) hl hv

def tt_pI (ci : Nat) (k : Int) (nx : TT) : TT := fun K R ls st h => pIA st (fun a v r => isO h a ci ∧ nx K R ls r (sI h a k v))
def tt_pZ (ci : Nat) (k : Int) (nx : TT) : TT := fun K R ls st h => pIA st (fun a v r => isO h a ci ∧ (v = 0 ∨ v = 1) ∧ nx K R ls r (sI h a k v))
def tt_pR (ci : Nat) (k : Int) (nx : TT) : TT := fun K R ls st h => pOA st (fun a v r => isO h a ci ∧ (∀ x, v = some x → x < hN h) ∧ nx K R ls r (sR h a k v))
theorem snd_pI {md : MD} {lc lz pc : Nat} {idx ci kn : Nat} {nx : TT} (fd : FD md.1 idx ci kn false) (hT : tyF ci kn = .int) (hd : decode md.2.1 pc = .ok (.putfield idx, 3)) (hn : Snd md lc lz (pc + 3) nx) : Snd md lc lz pc (tt_pI ci kn nx) := by
  intro p l e s m args below meth c D dA A mc ms c0 z0 ad0 n0 post Q F L HR K hK ls st h ht
  have hn := hn p l e s m args below meth c D dA A mc ms c0 z0 ad0 n0 post Q F L HR K hK
  obtain ⟨a, v, r, rfl, ⟨ha, hs⟩, ht⟩ := pIA_s ht
  intro ad H locs lsA e1 e2 e3 e4 hP hD hS hH hF hl hv
  obtain ⟨C, T, hc, hin, hk, hlk, hty, hnm, hfin⟩ := fd
  have hw := wo_get (dA := dA) (ad := ad) ha
  rw [cE_obj hs] at hw
  have hr : isRf (tyF ci kn) = false := by rw [hT]; rfl
  refine va_put (own := md.1) (v := .int (Int32.ofInt v)) (ty := .int) F.1 F.2.1 F.2.2.2.2.2.2.1 hin (tyF ci) hty hnm F.2.2.2.2.2.1 F.2.2.2.2.2.2.2.1 hP hD hS a hw hc kn hk (F.2.2.2.2.2.2.1 _ hlk) (fun _ h9 => h9) hfin (by rw [hty kn hk, hT]) (vp_nar_int _) rfl (by simpa using hk) hd (fun H' locs' hP' hD' hS' => ?_)
  rw [wo_sI ha hs hk hr] at hP' hD'
  exact hn ls r (sI h a kn v) ht ad H' locs' lsA e1 e2 e3 e4 hP' hD' hS' (okH_wI hH (isLg_obj hs) (okF_top hF)) (okF_pop (okF_pop hF)) hl hv

theorem snd_pIF {md : MD} {lc lz pc : Nat} {idx ci kn : Nat} {nx : TT} (fd : FD md.1 idx ci kn true) (hT : tyF ci kn = .int) (hd : decode md.2.1 pc = .ok (.putfield idx, 3)) (hi : md.2.2.2.2.2.2 = true) (ho : ∀ C T, classes[ci]? = some (C, T, nF ci) → (T kn).1 = md.1) (hn : Snd md lc lz (pc + 3) nx) : Snd md lc lz pc (tt_pI ci kn nx) := by
  intro p l e s m args below meth c D dA A mc ms c0 z0 ad0 n0 post Q F L HR K hK ls st h ht
  have hn := hn p l e s m args below meth c D dA A mc ms c0 z0 ad0 n0 post Q F L HR K hK
  obtain ⟨a, v, r, rfl, ⟨ha, hs⟩, ht⟩ := pIA_s ht
  intro ad H locs lsA e1 e2 e3 e4 hP hD hS hH hF hl hv
  obtain ⟨C, T, hc, hin, hk, hlk, hty, hnm, hfin⟩ := fd
  have hw := wo_get (dA := dA) (ad := ad) ha
  rw [cE_obj hs] at hw
  have hr : isRf (tyF ci kn) = false := by rw [hT]; rfl
  refine va_putF (own := md.1) (v := .int (Int32.ofInt v)) (ty := .int) F.1 F.2.1 F.2.2.2.2.2.2.1 hin (tyF ci) hty hnm F.2.2.2.2.2.1 F.2.2.2.2.2.2.2.1 hP hD hS a hw hc kn hk (F.2.2.2.2.2.2.1 _ hlk) (fun _ h9 => h9) hfin (F.2.2.2.2.2.2.2.2.2.1 hi) (ho C T hc) (by rw [hty kn hk, hT]) (vp_nar_int _) rfl (by simpa using hk) hd (fun H' locs' hP' hD' hS' => ?_)
  rw [wo_sI ha hs hk hr] at hP' hD'
  exact hn ls r (sI h a kn v) ht ad H' locs' lsA e1 e2 e3 e4 hP' hD' hS' (okH_wI hH (isLg_obj hs) (okF_top hF)) (okF_pop (okF_pop hF)) hl hv

theorem snd_pZ {md : MD} {lc lz pc : Nat} {idx ci kn : Nat} {nx : TT} (fd : FD md.1 idx ci kn false) (hT : tyF ci kn = .boolean) (hd : decode md.2.1 pc = .ok (.putfield idx, 3)) (hn : Snd md lc lz (pc + 3) nx) : Snd md lc lz pc (tt_pZ ci kn nx) := by
  intro p l e s m args below meth c D dA A mc ms c0 z0 ad0 n0 post Q F L HR K hK ls st h ht
  have hn := hn p l e s m args below meth c D dA A mc ms c0 z0 ad0 n0 post Q F L HR K hK
  obtain ⟨a, v, r, rfl, ⟨ha, hs⟩, hz, ht⟩ := pIA_s ht
  intro ad H locs lsA e1 e2 e3 e4 hP hD hS hH hF hl hv
  obtain ⟨C, T, hc, hin, hk, hlk, hty, hnm, hfin⟩ := fd
  have hw := wo_get (dA := dA) (ad := ad) ha
  rw [cE_obj hs] at hw
  have hr : isRf (tyF ci kn) = false := by rw [hT]; rfl
  refine va_put (own := md.1) (v := .int (Int32.ofInt v)) (ty := .boolean) F.1 F.2.1 F.2.2.2.2.2.2.1 hin (tyF ci) hty hnm F.2.2.2.2.2.1 F.2.2.2.2.2.2.2.1 hP hD hS a hw hc kn hk (F.2.2.2.2.2.2.1 _ hlk) (fun _ h9 => h9) hfin (by rw [hty kn hk, hT]) (by rcases hz with rfl | rfl <;> decide) (by rcases hz with rfl | rfl <;> decide) (by simpa using hk) hd (fun H' locs' hP' hD' hS' => ?_)
  rw [wo_sI ha hs hk hr] at hP' hD'
  exact hn ls r (sI h a kn v) ht ad H' locs' lsA e1 e2 e3 e4 hP' hD' hS' (okH_wI hH (isLg_obj hs) (okF_top hF)) (okF_pop (okF_pop hF)) hl hv

theorem snd_pZF {md : MD} {lc lz pc : Nat} {idx ci kn : Nat} {nx : TT} (fd : FD md.1 idx ci kn true) (hT : tyF ci kn = .boolean) (hd : decode md.2.1 pc = .ok (.putfield idx, 3)) (hi : md.2.2.2.2.2.2 = true) (ho : ∀ C T, classes[ci]? = some (C, T, nF ci) → (T kn).1 = md.1) (hn : Snd md lc lz (pc + 3) nx) : Snd md lc lz pc (tt_pZ ci kn nx) := by
  intro p l e s m args below meth c D dA A mc ms c0 z0 ad0 n0 post Q F L HR K hK ls st h ht
  have hn := hn p l e s m args below meth c D dA A mc ms c0 z0 ad0 n0 post Q F L HR K hK
  obtain ⟨a, v, r, rfl, ⟨ha, hs⟩, hz, ht⟩ := pIA_s ht
  intro ad H locs lsA e1 e2 e3 e4 hP hD hS hH hF hl hv
  obtain ⟨C, T, hc, hin, hk, hlk, hty, hnm, hfin⟩ := fd
  have hw := wo_get (dA := dA) (ad := ad) ha
  rw [cE_obj hs] at hw
  have hr : isRf (tyF ci kn) = false := by rw [hT]; rfl
  refine va_putF (own := md.1) (v := .int (Int32.ofInt v)) (ty := .boolean) F.1 F.2.1 F.2.2.2.2.2.2.1 hin (tyF ci) hty hnm F.2.2.2.2.2.1 F.2.2.2.2.2.2.2.1 hP hD hS a hw hc kn hk (F.2.2.2.2.2.2.1 _ hlk) (fun _ h9 => h9) hfin (F.2.2.2.2.2.2.2.2.2.1 hi) (ho C T hc) (by rw [hty kn hk, hT]) (by rcases hz with rfl | rfl <;> decide) (by rcases hz with rfl | rfl <;> decide) (by simpa using hk) hd (fun H' locs' hP' hD' hS' => ?_)
  rw [wo_sI ha hs hk hr] at hP' hD'
  exact hn ls r (sI h a kn v) ht ad H' locs' lsA e1 e2 e3 e4 hP' hD' hS' (okH_wI hH (isLg_obj hs) (okF_top hF)) (okF_pop (okF_pop hF)) hl hv

theorem snd_pR {md : MD} {lc lz pc : Nat} {idx ci kn : Nat} {nx : TT} (fd : FD md.1 idx ci kn false) (hr : isRf (tyF ci kn) = true) (hd : decode md.2.1 pc = .ok (.putfield idx, 3)) (hn : Snd md lc lz (pc + 3) nx) : Snd md lc lz pc (tt_pR ci kn nx) := by
  intro p l e s m args below meth c D dA A mc ms c0 z0 ad0 n0 post Q F L HR K hK ls st h ht
  have hn := hn p l e s m args below meth c D dA A mc ms c0 z0 ad0 n0 post Q F L HR K hK
  obtain ⟨a, v, r, rfl, ⟨ha, hs⟩, hx, ht⟩ := pOA_s ht
  intro ad H locs lsA e1 e2 e3 e4 hP hD hS hH hF hl hv
  obtain ⟨C, T, hc, hin, hk, hlk, hty, hnm, hfin⟩ := fd
  have hw := wo_get (dA := dA) (ad := ad) ha
  rw [cE_obj hs] at hw
  refine va_put (own := md.1) (v := va_rf (v.map ad)) (ty := tyF ci kn) F.1 F.2.1 F.2.2.2.2.2.2.1 hin (tyF ci) hty hnm F.2.2.2.2.2.1 F.2.2.2.2.2.2.2.1 hP hD hS a hw hc kn hk (F.2.2.2.2.2.2.1 _ hlk) (fun _ h9 => h9) hfin (hty kn hk) (nar_ref hr _) (fit_ref hr _) (by simpa using hk) hd (fun H' locs' hP' hD' hS' => ?_)
  rw [wo_sR ha hs hk hr] at hP' hD'
  exact hn ls r (sR h a kn v) ht ad H' locs' lsA e1 e2 e3 e4 hP' hD' hS' (okH_wR hH hx) (okF_pop (okF_pop hF)) hl hv

theorem snd_pRF {md : MD} {lc lz pc : Nat} {idx ci kn : Nat} {nx : TT} (fd : FD md.1 idx ci kn true) (hr : isRf (tyF ci kn) = true) (hd : decode md.2.1 pc = .ok (.putfield idx, 3)) (hi : md.2.2.2.2.2.2 = true) (ho : ∀ C T, classes[ci]? = some (C, T, nF ci) → (T kn).1 = md.1) (hn : Snd md lc lz (pc + 3) nx) : Snd md lc lz pc (tt_pR ci kn nx) := by
  intro p l e s m args below meth c D dA A mc ms c0 z0 ad0 n0 post Q F L HR K hK ls st h ht
  have hn := hn p l e s m args below meth c D dA A mc ms c0 z0 ad0 n0 post Q F L HR K hK
  obtain ⟨a, v, r, rfl, ⟨ha, hs⟩, hx, ht⟩ := pOA_s ht
  intro ad H locs lsA e1 e2 e3 e4 hP hD hS hH hF hl hv
  obtain ⟨C, T, hc, hin, hk, hlk, hty, hnm, hfin⟩ := fd
  have hw := wo_get (dA := dA) (ad := ad) ha
  rw [cE_obj hs] at hw
  refine va_putF (own := md.1) (v := va_rf (v.map ad)) (ty := tyF ci kn) F.1 F.2.1 F.2.2.2.2.2.2.1 hin (tyF ci) hty hnm F.2.2.2.2.2.1 F.2.2.2.2.2.2.2.1 hP hD hS a hw hc kn hk (F.2.2.2.2.2.2.1 _ hlk) (fun _ h9 => h9) hfin (F.2.2.2.2.2.2.2.2.2.1 hi) (ho C T hc) (hty kn hk) (nar_ref hr _) (fit_ref hr _) (by simpa using hk) hd (fun H' locs' hP' hD' hS' => ?_)
  rw [wo_sR ha hs hk hr] at hP' hD'
  exact hn ls r (sR h a kn v) ht ad H' locs' lsA e1 e2 e3 e4 hP' hD' hS' (okH_wR hH hx) (okF_pop (okF_pop hF)) hl hv

def tt_ia (nx : TT) : TT := fun K R ls st h => pIA st (fun a i r => isAr h a 0 ∧ 0 ≤ i ∧ i < lnA a ∧ nx K R ls (.inl (gI h a i) :: r) h)
theorem snd_ia {md : MD} {lc lz pc : Nat} {nx : TT} (hd : decode md.2.1 pc = .ok (.iaload, 1)) (hn : Snd md lc lz (pc + 1) nx) : Snd md lc lz pc (tt_ia nx) := by
  intro p l e s m args below meth c D dA A mc ms c0 z0 ad0 n0 post Q F L HR K hK ls st h ht
  have hn := hn p l e s m args below meth c D dA A mc ms c0 z0 ad0 n0 post Q F L HR K hK
  obtain ⟨a, i, r, rfl, ⟨ha, n, hs⟩, h0, h1, ht⟩ := pIA_s ht
  intro ad H locs lsA e1 e2 e3 e4 hP hD hS hH hF hl hv
  rw [lnA_of hs] at h1
  have hi : inR i := okF_top hF
  have hw := wo_get (dA := dA) (ad := ad) ha
  rw [cE_arr hs (by decide) (by decide)] at hw
  have g := hn ls (.inl (gI h a i) :: r) h ht ad H locs lsA e1 e2 e3 e4 hP hD hS hH (okF_push (okF_pop (okF_pop hF)) (okH_int hH (isLg_arr hs (by decide)) _)) hl hv
  refine va_iald (t0 := 0) F.1 F.2.1 F.2.2.2.2.2.2.2.1 hP a hw rfl (i32_in h0 h1 hi) hd ?_
  rw [nat_back h0 hi]
  exact g

def tt_ba (nx : TT) : TT := fun K R ls st h => pIA st (fun a i r => isAr h a 1 ∧ 0 ≤ i ∧ i < lnA a ∧ nx K R ls (.inl (gI h a i) :: r) h)
theorem snd_ba {md : MD} {lc lz pc : Nat} {nx : TT} (hd : decode md.2.1 pc = .ok (.baload, 1)) (hn : Snd md lc lz (pc + 1) nx) : Snd md lc lz pc (tt_ba nx) := by
  intro p l e s m args below meth c D dA A mc ms c0 z0 ad0 n0 post Q F L HR K hK ls st h ht
  have hn := hn p l e s m args below meth c D dA A mc ms c0 z0 ad0 n0 post Q F L HR K hK
  obtain ⟨a, i, r, rfl, ⟨ha, n, hs⟩, h0, h1, ht⟩ := pIA_s ht
  intro ad H locs lsA e1 e2 e3 e4 hP hD hS hH hF hl hv
  rw [lnA_of hs] at h1
  have hi : inR i := okF_top hF
  have hw := wo_get (dA := dA) (ad := ad) ha
  rw [cE_arr hs (by decide) (by decide)] at hw
  have g := hn ls (.inl (gI h a i) :: r) h ht ad H locs lsA e1 e2 e3 e4 hP hD hS hH (okF_push (okF_pop (okF_pop hF)) (okH_int hH (isLg_arr hs (by decide)) _)) hl hv
  refine va_bald (t0 := 1) F.1 F.2.1 F.2.2.2.2.2.2.2.1 hP a hw rfl (i32_in h0 h1 hi) hd ?_
  rw [nat_back h0 hi]
  exact g

def tt_za (nx : TT) : TT := fun K R ls st h => pIA st (fun a i r => isAr h a 2 ∧ 0 ≤ i ∧ i < lnA a ∧ nx K R ls (.inl (gI h a i) :: r) h)
theorem snd_za {md : MD} {lc lz pc : Nat} {nx : TT} (hd : decode md.2.1 pc = .ok (.baload, 1)) (hn : Snd md lc lz (pc + 1) nx) : Snd md lc lz pc (tt_za nx) := by
  intro p l e s m args below meth c D dA A mc ms c0 z0 ad0 n0 post Q F L HR K hK ls st h ht
  have hn := hn p l e s m args below meth c D dA A mc ms c0 z0 ad0 n0 post Q F L HR K hK
  obtain ⟨a, i, r, rfl, ⟨ha, n, hs⟩, h0, h1, ht⟩ := pIA_s ht
  intro ad H locs lsA e1 e2 e3 e4 hP hD hS hH hF hl hv
  rw [lnA_of hs] at h1
  have hi : inR i := okF_top hF
  have hw := wo_get (dA := dA) (ad := ad) ha
  rw [cE_arr hs (by decide) (by decide)] at hw
  have g := hn ls (.inl (gI h a i) :: r) h ht ad H locs lsA e1 e2 e3 e4 hP hD hS hH (okF_push (okF_pop (okF_pop hF)) (okH_int hH (isLg_arr hs (by decide)) _)) hl hv
  refine va_zald (t0 := 2) F.1 F.2.1 F.2.2.2.2.2.2.2.1 hP a hw rfl (i32_in h0 h1 hi) hd ?_
  rw [nat_back h0 hi]
  exact g

def tt_iS (nx : TT) : TT := fun K R ls st h => pIIA st (fun a i v r => isAr h a 0 ∧ 0 ≤ i ∧ i < lnA a ∧ nx K R ls r (sI h a i v))
theorem snd_iS {md : MD} {lc lz pc : Nat} {nx : TT} (hd : decode md.2.1 pc = .ok (.iastore, 1)) (hn : Snd md lc lz (pc + 1) nx) : Snd md lc lz pc (tt_iS nx) := by
  intro p l e s m args below meth c D dA A mc ms c0 z0 ad0 n0 post Q F L HR K hK ls st h ht
  have hn := hn p l e s m args below meth c D dA A mc ms c0 z0 ad0 n0 post Q F L HR K hK
  obtain ⟨a, i, v, r, rfl, ⟨ha, n, hs⟩, h0, h1, ht⟩ := pIIA_s ht
  intro ad H locs lsA e1 e2 e3 e4 hP hD hS hH hF hl hv
  rw [lnA_of hs] at h1
  have hi : inR i := okF_2nd hF
  have hw := wo_get (dA := dA) (ad := ad) ha
  rw [cE_arr hs (by decide) (by decide)] at hw
  refine va_iast (t0 := 0) F.1 F.2.1 F.2.2.2.2.2.2.2.1 hP hD hS a hw rfl (i32_in h0 h1 hi) hd (fun H' locs' hP' hD' hS' => ?_)
  rw [wo_sIa ha hs (by decide) (by decide) h0 hi rfl] at hP' hD'
  exact hn ls r (sI h a i v) ht ad H' locs' lsA e1 e2 e3 e4 hP' hD' hS' (okH_wI hH (isLg_arr hs (by decide)) (okF_top hF)) (okF_pop (okF_pop (okF_pop hF))) hl hv

def tt_bS (nx : TT) : TT := fun K R ls st h => pIIA st (fun a i v r => isAr h a 1 ∧ 0 ≤ i ∧ i < lnA a ∧ -128 ≤ v ∧ v ≤ 127 ∧ nx K R ls r (sI h a i v))
theorem snd_bS {md : MD} {lc lz pc : Nat} {nx : TT} (hd : decode md.2.1 pc = .ok (.bastore, 1)) (hn : Snd md lc lz (pc + 1) nx) : Snd md lc lz pc (tt_bS nx) := by
  intro p l e s m args below meth c D dA A mc ms c0 z0 ad0 n0 post Q F L HR K hK ls st h ht
  have hn := hn p l e s m args below meth c D dA A mc ms c0 z0 ad0 n0 post Q F L HR K hK
  obtain ⟨a, i, v, r, rfl, ⟨ha, n, hs⟩, h0, h1, hb0, hb1, ht⟩ := pIIA_s ht
  intro ad H locs lsA e1 e2 e3 e4 hP hD hS hH hF hl hv
  rw [lnA_of hs] at h1
  have hi : inR i := okF_2nd hF
  have hw := wo_get (dA := dA) (ad := ad) ha
  rw [cE_arr hs (by decide) (by decide)] at hw
  refine va_bast (t0 := 1) F.1 F.2.1 F.2.2.2.2.2.2.2.1 hP hD hS a hw rfl (i32_in h0 h1 hi) hd (fun H' locs' hP' hD' hS' => ?_)
  rw [wo_sIa ha hs (by decide) (by decide) h0 hi (nar_byte hb0 hb1)] at hP' hD'
  exact hn ls r (sI h a i v) ht ad H' locs' lsA e1 e2 e3 e4 hP' hD' hS' (okH_wI hH (isLg_arr hs (by decide)) (okF_top hF)) (okF_pop (okF_pop (okF_pop hF))) hl hv

def tt_zS (nx : TT) : TT := fun K R ls st h => pIIA st (fun a i v r => isAr h a 2 ∧ 0 ≤ i ∧ i < lnA a ∧ (v = 0 ∨ v = 1) ∧ nx K R ls r (sI h a i v))
theorem snd_zS {md : MD} {lc lz pc : Nat} {nx : TT} (hd : decode md.2.1 pc = .ok (.bastore, 1)) (hn : Snd md lc lz (pc + 1) nx) : Snd md lc lz pc (tt_zS nx) := by
  intro p l e s m args below meth c D dA A mc ms c0 z0 ad0 n0 post Q F L HR K hK ls st h ht
  have hn := hn p l e s m args below meth c D dA A mc ms c0 z0 ad0 n0 post Q F L HR K hK
  obtain ⟨a, i, v, r, rfl, ⟨ha, n, hs⟩, h0, h1, hb0, ht⟩ := pIIA_s ht
  intro ad H locs lsA e1 e2 e3 e4 hP hD hS hH hF hl hv
  rw [lnA_of hs] at h1
  have hi : inR i := okF_2nd hF
  have hw := wo_get (dA := dA) (ad := ad) ha
  rw [cE_arr hs (by decide) (by decide)] at hw
  refine va_zast (t0 := 2) F.1 F.2.1 F.2.2.2.2.2.2.2.1 hP hD hS a hw rfl (i32_in h0 h1 hi) hd (fun H' locs' hP' hD' hS' => ?_)
  rw [wo_sIa ha hs (by decide) (by decide) h0 hi (nar_bool hb0)] at hP' hD'
  exact hn ls r (sI h a i v) ht ad H' locs' lsA e1 e2 e3 e4 hP' hD' hS' (okH_wI hH (isLg_arr hs (by decide)) (okF_top hF)) (okF_pop (okF_pop (okF_pop hF))) hl hv

def tt_aa (nx : TT) : TT := fun K R ls st h => pIA st (fun a i r => isAr h a 4 ∧ 0 ≤ i ∧ i < lnA a ∧ nx K R ls (.inr (.inl (gR h a i)) :: r) h)
theorem snd_aa {md : MD} {lc lz pc : Nat} {nx : TT} (hd : decode md.2.1 pc = .ok (.aaload, 1)) (hn : Snd md lc lz (pc + 1) nx) : Snd md lc lz pc (tt_aa nx) := by
  intro p l e s m args below meth c D dA A mc ms c0 z0 ad0 n0 post Q F L HR K hK ls st h ht
  have hn := hn p l e s m args below meth c D dA A mc ms c0 z0 ad0 n0 post Q F L HR K hK
  obtain ⟨a, i, r, rfl, ⟨ha, n, hs⟩, h0, h1, ht⟩ := pIA_s ht
  intro ad H locs lsA e1 e2 e3 e4 hP hD hS hH hF hl hv
  rw [lnA_of hs] at h1
  have hi : inR i := okF_top hF
  have hw := wo_get (dA := dA) (ad := ad) ha
  rw [cE_ref hs] at hw
  have g := hn ls (.inr (.inl (gR h a i)) :: r) h ht ad H locs lsA e1 e2 e3 e4 hP hD hS hH (okF_push (okF_pop (okF_pop hF)) (okV_ref hH _ _)) hl hv
  refine va_aldq (t0 := 4) F.1 F.2.1 F.2.2.2.2.2.2.2.1 hP a hw rfl (i32_in h0 h1 hi) hd ?_
  rw [nat_back h0 hi]
  exact g

def tt_aS (nx : TT) : TT := fun K R ls st h => pOIA st (fun a i v r => isAr h a 4 ∧ 0 ≤ i ∧ i < lnA a ∧ isO h v 6 ∧ nx K R ls r (sR h a i (some v)))
theorem snd_aS {md : MD} {lc lz pc : Nat} {nx : TT} (hd : decode md.2.1 pc = .ok (.aastore, 1)) (hn : Snd md lc lz (pc + 1) nx) : Snd md lc lz pc (tt_aS nx) := by
  intro p l e s m args below meth c D dA A mc ms c0 z0 ad0 n0 post Q F L HR K hK ls st h ht
  have hn := hn p l e s m args below meth c D dA A mc ms c0 z0 ad0 n0 post Q F L HR K hK
  obtain ⟨a, i, v, r, rfl, ⟨ha, n, hs⟩, h0, h1, ⟨hv1, hv2⟩, ht⟩ := pOIA_s ht
  intro ad H locs lsA e1 e2 e3 e4 hP hD hS hH hF hl hv
  rw [lnA_of hs] at h1
  have hi : inR i := okF_2nd hF
  have hw := wo_get (dA := dA) (ad := ad) ha
  rw [cE_ref hs] at hw
  have hw2 := wo_get (dA := dA) (ad := ad) hv1
  rw [cE_obj hv2] at hw2
  refine va_astq (t0 := 4) (r := (R_Wo, F_Wo, 2)) F.1 F.2.1 F.2.2.2.2.2.2.2.1 hP hD hS a v 6 hw rfl hw2 rfl (i32_in h0 h1 hi) hd (fun H' locs' hP' hD' hS' => ?_)
  rw [wo_sRa ha hs h0 hi] at hP' hD'
  exact hn ls r (sR h a i (some v)) ht ad H' locs' lsA e1 e2 e3 e4 hP' hD' hS' (okH_wR hH (fun x hx => by cases hx; exact hv1)) (okF_pop (okF_pop (okF_pop hF))) hl hv

def tt_len (t : Nat) (nx : TT) : TT := fun K R ls st h => pA st (fun a r => isAr h a t ∧ nx K R ls (.inl (lnA a) :: r) h)
theorem snd_len {md : MD} {lc lz pc : Nat} {t : Nat} {nx : TT} (ht5 : t < 5) (hd : decode md.2.1 pc = .ok (.arraylength, 1)) (hz : ∀ a, inR (lnA a)) (hn : Snd md lc lz (pc + 1) nx) : Snd md lc lz pc (tt_len t nx) := by
  intro p l e s m args below meth c D dA A mc ms c0 z0 ad0 n0 post Q F L HR K hK ls st h ht
  have hn := hn p l e s m args below meth c D dA A mc ms c0 z0 ad0 n0 post Q F L HR K hK
  obtain ⟨a, r, rfl, ⟨ha, n, hs⟩, ht⟩ := pA_s ht
  intro ad H locs lsA e1 e2 e3 e4 hP hD hS hH hF hl hv
  have hw := wo_get (dA := dA) (ad := ad) ha
  have g := hn ls (.inl (lnA a) :: r) h ht ad H locs lsA e1 e2 e3 e4 hP hD hS hH (okF_push (okF_pop hF) (hz a)) hl hv
  obtain ⟨x, hx, hn1⟩ : ∃ x : vp_A, cE dA ad h a = .inl (dA t, x) ∧ x.1 = n := by unfold cE; rw [hs]; exact ⟨_, rfl, rfl⟩
  rw [hx] at hw
  have hT : ∃ ty, (tysOf dA)[t]? = some (dA t, ty) := by
    match t, ht5 with
    | 0, _ => exact ⟨_, rfl⟩
    | 1, _ => exact ⟨_, rfl⟩
    | 2, _ => exact ⟨_, rfl⟩
    | 3, _ => exact ⟨_, rfl⟩
    | 4, _ => exact ⟨_, rfl⟩
  obtain ⟨ty, hT⟩ := hT
  exact va_alen (t0 := t) F.1 F.2.1 F.2.2.2.2.2.2.2.1 hP a hw hT (by rw [hn1, lnA_of hs]; rfl) hd g

