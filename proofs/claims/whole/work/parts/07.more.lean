def oc (x : Int) : Int := if x % 2 = 0 then x + 1 else x - 1
def shf (y : Int) : Int := if y = 0 then 1 else if y = 8 then 256 else if y = 16 then 65536 else 16777216
def ush (x y : Int) : Int := if 0 ≤ x ∨ y = 0 then x / shf y else (x + 4294967296) / shf y
def bm (x : Int) : Int := (x + 128) % 256 - 128
def cmL (x y : Int) : Int := if y < x then 1 else if x = y then 0 else -1
theorem i32_bv (x : Int) : (Int32.ofInt x).toBitVec.toNat = (x % 4294967296).toNat := by
  rw [Int32.toBitVec_ofInt, BitVec.toNat_ofInt]
  rfl
theorem i32_and {x y : Int} (h : y = 255 ∨ y = 63) : Int32.ofInt x &&& Int32.ofInt y = Int32.ofInt (x % (y + 1)) := by
  rcases h with rfl | rfl
  · rw [pk_and _ 8 (by decide), i32_bv]
    show Int32.ofInt ((((x % 4294967296).toNat % 256 : Nat) : Nat) : Int) = _
    congr 1
    omega
  · rw [pk_and _ 6 (by decide), i32_bv]
    show Int32.ofInt ((((x % 4294967296).toNat % 64 : Nat) : Nat) : Int) = _
    congr 1
    omega
theorem nat_xor1 (n : Nat) : n ^^^ 1 = if n % 2 = 0 then n + 1 else n - 1 := by
  have a : (n ^^^ 1) / 2 = n / 2 := by rw [Nat.xor_div_two]; simp
  have b := Nat.xor_mod_two_eq_one (a := n) (b := 1)
  by_cases h : n % 2 = 0
  · rw [if_pos h]
    have c : (n ^^^ 1) % 2 = 1 := b.mpr (fun q => by have := q.mpr rfl; omega)
    omega
  · rw [if_neg h]
    have c : ¬ (n ^^^ 1) % 2 = 1 := fun q => b.mp q ⟨fun _ => rfl, fun _ => by omega⟩
    omega
theorem i32_xor1 {x : Int} (h : 0 ≤ x) (hr : inR x) : Int32.ofInt x ^^^ Int32.ofInt 1 = Int32.ofInt (oc x) := by
  rw [← Int32.toBitVec_inj]
  apply BitVec.eq_of_toNat_eq
  rw [Int32.toBitVec_xor, BitVec.toNat_xor, i32_bv, i32_bv, i32_bv]
  have h1 := hr.1
  have h2 := hr.2
  have e1 : ((1 : Int) % 4294967296).toNat = 1 := by decide
  rw [e1, nat_xor1]
  unfold oc
  by_cases q : x % 2 = 0
  · rw [if_pos q, if_pos (by omega)]; omega
  · rw [if_neg q, if_neg (by omega)]; omega
theorem inR_oc {x : Int} (h : 0 ≤ x) (hr : inR x) : inR (oc x) := by
  have h1 := hr.1
  have h2 := hr.2
  unfold oc
  constructor <;> split <;> omega
theorem inR_and {x y : Int} (h : y = 255 ∨ y = 63) : inR (x % (y + 1)) := by
  rcases h with rfl | rfl <;> constructor <;> omega
theorem i32_shr {x y : Int} (hx : inR x) (h : y = 0 ∨ y = 8 ∨ y = 16 ∨ y = 24) : Int32.ofInt x >>> (Int32.ofInt y &&& 31) = Int32.ofInt (x / shf y) := by
  have h1 := hx.1
  have h2 := hx.2
  have key : ∀ (k : Nat) (d : Int), ((Int32.ofInt y &&& 31).toBitVec.smod 32).toNat = k → ((2 : Int) ^ k) = d → inR (x / d) → Int32.ofInt x >>> (Int32.ofInt y &&& 31) = Int32.ofInt (x / d) := by
    intro k d hk hd hr
    rw [← Int32.toInt_inj, pk_shr _ _ k hk, i32_toInt hx, i32_toInt hr, Int.shiftRight_eq_div_pow]
    rw [← hd]
    simp
  rcases h with rfl | rfl | rfl | rfl
  · exact key 0 1 (by decide) (by decide) ⟨by omega, by omega⟩
  · exact key 8 256 (by decide) (by decide) ⟨by omega, by omega⟩
  · exact key 16 65536 (by decide) (by decide) ⟨by omega, by omega⟩
  · exact key 24 16777216 (by decide) (by decide) ⟨by omega, by omega⟩
theorem inR_shr {x y : Int} (hx : inR x) (h : y = 0 ∨ y = 8 ∨ y = 16 ∨ y = 24) : inR (x / shf y) := by
  have h1 := hx.1
  have h2 := hx.2
  rcases h with rfl | rfl | rfl | rfl <;> simp only [shf] <;> constructor <;> simp <;> omega
theorem inR_ush {x y : Int} (hx : inR x) (h : y = 0 ∨ y = 8 ∨ y = 16 ∨ y = 24) : inR (ush x y) := by
  have h1 := hx.1
  have h2 := hx.2
  unfold ush
  by_cases q : 0 ≤ x ∨ y = 0
  · rw [if_pos q]; exact inR_shr hx h
  · rw [if_neg q]
    rcases h with rfl | rfl | rfl | rfl <;> simp only [shf] <;> constructor <;> simp <;> omega
theorem i32_ush {x y : Int} (hx : inR x) (h : y = 0 ∨ y = 8 ∨ y = 16 ∨ y = 24) : ((Int32.ofInt x).toUInt32 >>> ((Int32.ofInt y).toUInt32 &&& Int32.toUInt32 31)).toInt32 = Int32.ofInt (ush x y) := by
  have h1 := hx.1
  have h2 := hx.2
  have key : ∀ (k : Nat) (d : Int), (((Int32.ofInt y).toUInt32 &&& Int32.toUInt32 31).toBitVec % 32).toNat = k → ((2 ^ k : Nat) : Int) = d → (((x % 4294967296).toNat / 2 ^ k : Nat) : Int) = (ush x y) % 4294967296 → ((Int32.ofInt x).toUInt32 >>> ((Int32.ofInt y).toUInt32 &&& Int32.toUInt32 31)).toInt32 = Int32.ofInt (ush x y) := by
    intro k d hk hd hq
    rw [← Int32.toBitVec_inj]
    apply BitVec.eq_of_toNat_eq
    rw [pk_ushr _ _ k hk, i32_bv, i32_bv]
    omega
  rcases h with rfl | rfl | rfl | rfl
  · refine key 0 1 (by decide) (by decide) ?_
    simp [ush, shf]; omega
  · refine key 8 256 (by decide) (by decide) ?_
    simp only [ush, shf]
    by_cases q : 0 ≤ x <;> simp [q] <;> omega
  · refine key 16 65536 (by decide) (by decide) ?_
    simp only [ush, shf]
    by_cases q : 0 ≤ x <;> simp [q] <;> omega
  · refine key 24 16777216 (by decide) (by decide) ?_
    simp only [ush, shf]
    by_cases q : 0 ≤ x <;> simp [q] <;> omega
theorem i32_i2b {x : Int} (hx : inR x) : (Int32.ofInt x).toInt8.toInt32 = Int32.ofInt (bm x) := by
  have hr : inR (bm x) := by unfold bm; constructor <;> omega
  rw [← Int32.toInt_inj, Int8.toInt_toInt32, Int32.toInt_toInt8, i32_toInt hx, i32_toInt hr]
  unfold bm
  rw [Int.bmod_def]
  split <;> omega
theorem inR_bm (x : Int) : inR (bm x) := by unfold bm; constructor <;> omega
theorem i64_i2l {x : Int} (hx : inR x) : (Int32.ofInt x).toInt64 = Int64.ofInt x := by
  have h1 := hx.1
  have h2 := hx.2
  rw [← Int64.toInt_inj, Int32.toInt_toInt64, i32_toInt hx, i64_toInt ⟨by omega, by omega⟩]
theorem inL_R {x : Int} (hx : inR x) : inL x := ⟨by have := hx.1; omega, by have := hx.2; omega⟩
theorem i32_l2i {x : Int} (hx : inR x) : (Int64.ofInt x).toInt32 = Int32.ofInt x := by
  have h1 := hx.1
  have h2 := hx.2
  rw [← Int32.toInt_inj, Int64.toInt_toInt32, i64_toInt (inL_R hx), i32_toInt hx]
  exact Int.bmod_eq_of_le (by omega) (by omega)
theorem i64_cmp {x y : Int} (hx : inL x) (hy : inL y) : lg_cmp (Int64.ofInt x) (Int64.ofInt y) = Int32.ofInt (cmL x y) := by
  unfold lg_cmp cmL
  simp only [gt_iff_lt, Int64.lt_iff_toInt_lt, ← Int64.toInt_inj, i64_toInt hx, i64_toInt hy]
  by_cases a : y < x
  · rw [if_pos a, if_pos a]; rfl
  · rw [if_neg a, if_neg a]
    by_cases b : x = y
    · rw [if_pos b, if_pos b]; rfl
    · rw [if_neg b, if_neg b]; rfl
theorem inR_cm (x y : Int) : inR (cmL x y) := by unfold cmL; constructor <;> split <;> first | omega | (split <;> omega)
def tt_and (nx : TT) : TT := fun K R ls st h => pII st (fun x y r => (y = 255 ∨ y = 63) ∧ nx K R ls (.inl (x % (y + 1)) :: r) h)
theorem snd_and {md : MD} {lc lz pc : Nat} {nx : TT} (hd : decode md.2.1 pc = .ok (.iand, 1)) (hn : Snd md lc lz (pc + 1) nx) : Snd md lc lz pc (tt_and nx) := by
  intro p l e s m args below meth c D dA A mc ms c0 z0 ad0 n0 post Q F L HR K hK ls st h ht
  have hn := hn p l e s m args below meth c D dA A mc ms c0 z0 ad0 n0 post Q F L HR K hK
  obtain ⟨x, y, r, rfl, hc, ht⟩ := pII_s ht
  intro ad H locs lsA e1 e2 e3 e4 hP hD hS hH hF hl hv
  have hx := okF_2nd hF
  have hy := okF_top hF
  have g := hn ls (.inl (x % (y + 1)) :: r) h ht ad H locs lsA e1 e2 e3 e4 hP hD hS hH (okF_push (okF_pop (okF_pop hF)) (inR_and hc)) hl hv
  refine lv_iand F.1 F.2.1 hd ?_
  rw [i32_and hc]
  exact g

def tt_xor (nx : TT) : TT := fun K R ls st h => pII st (fun x y r => y = 1 ∧ 0 ≤ x ∧ nx K R ls (.inl (oc x) :: r) h)
theorem snd_xor {md : MD} {lc lz pc : Nat} {nx : TT} (hd : decode md.2.1 pc = .ok (.ixor, 1)) (hn : Snd md lc lz (pc + 1) nx) : Snd md lc lz pc (tt_xor nx) := by
  intro p l e s m args below meth c D dA A mc ms c0 z0 ad0 n0 post Q F L HR K hK ls st h ht
  have hn := hn p l e s m args below meth c D dA A mc ms c0 z0 ad0 n0 post Q F L HR K hK
  obtain ⟨x, y, r, rfl, hc, h0, ht⟩ := pII_s ht
  intro ad H locs lsA e1 e2 e3 e4 hP hD hS hH hF hl hv
  have hx := okF_2nd hF
  have hy := okF_top hF
  have g := hn ls (.inl (oc x) :: r) h ht ad H locs lsA e1 e2 e3 e4 hP hD hS hH (okF_push (okF_pop (okF_pop hF)) (inR_oc h0 hx)) hl hv
  refine lv_ixor F.1 F.2.1 hd ?_
  rw [hc, i32_xor1 h0 hx]
  exact g

def tt_shr (nx : TT) : TT := fun K R ls st h => pII st (fun x y r => (y = 0 ∨ y = 8 ∨ y = 16 ∨ y = 24) ∧ nx K R ls (.inl (x / shf y) :: r) h)
theorem snd_shr {md : MD} {lc lz pc : Nat} {nx : TT} (hd : decode md.2.1 pc = .ok (.ishr, 1)) (hn : Snd md lc lz (pc + 1) nx) : Snd md lc lz pc (tt_shr nx) := by
  intro p l e s m args below meth c D dA A mc ms c0 z0 ad0 n0 post Q F L HR K hK ls st h ht
  have hn := hn p l e s m args below meth c D dA A mc ms c0 z0 ad0 n0 post Q F L HR K hK
  obtain ⟨x, y, r, rfl, hc, ht⟩ := pII_s ht
  intro ad H locs lsA e1 e2 e3 e4 hP hD hS hH hF hl hv
  have hx := okF_2nd hF
  have hy := okF_top hF
  have g := hn ls (.inl (x / shf y) :: r) h ht ad H locs lsA e1 e2 e3 e4 hP hD hS hH (okF_push (okF_pop (okF_pop hF)) (inR_shr hx hc)) hl hv
  refine lv_ishr F.1 F.2.1 hd ?_
  rw [i32_shr hx hc]
  exact g

def tt_ushr (nx : TT) : TT := fun K R ls st h => pII st (fun x y r => (y = 0 ∨ y = 8 ∨ y = 16 ∨ y = 24) ∧ nx K R ls (.inl (ush x y) :: r) h)
theorem snd_ushr {md : MD} {lc lz pc : Nat} {nx : TT} (hd : decode md.2.1 pc = .ok (.iushr, 1)) (hn : Snd md lc lz (pc + 1) nx) : Snd md lc lz pc (tt_ushr nx) := by
  intro p l e s m args below meth c D dA A mc ms c0 z0 ad0 n0 post Q F L HR K hK ls st h ht
  have hn := hn p l e s m args below meth c D dA A mc ms c0 z0 ad0 n0 post Q F L HR K hK
  obtain ⟨x, y, r, rfl, hc, ht⟩ := pII_s ht
  intro ad H locs lsA e1 e2 e3 e4 hP hD hS hH hF hl hv
  have hx := okF_2nd hF
  have hy := okF_top hF
  have g := hn ls (.inl (ush x y) :: r) h ht ad H locs lsA e1 e2 e3 e4 hP hD hS hH (okF_push (okF_pop (okF_pop hF)) (inR_ush hx hc)) hl hv
  exact lv_iushr F.1 F.2.1 hd (i32_ush hx hc) g

def tt_lcmp (nx : TT) : TT := fun K R ls st h => pLL st (fun x y r => nx K R ls (.inl (cmL x y) :: r) h)
theorem snd_lcmp {md : MD} {lc lz pc : Nat} {nx : TT} (hd : decode md.2.1 pc = .ok (.lcmp, 1)) (hn : Snd md lc lz (pc + 1) nx) : Snd md lc lz pc (tt_lcmp nx) := by
  intro p l e s m args below meth c D dA A mc ms c0 z0 ad0 n0 post Q F L HR K hK ls st h ht
  have hn := hn p l e s m args below meth c D dA A mc ms c0 z0 ad0 n0 post Q F L HR K hK
  obtain ⟨x, y, r, rfl, ht⟩ := pLL_s ht
  intro ad H locs lsA e1 e2 e3 e4 hP hD hS hH hF hl hv
  have hx := okF_2nd hF
  have hy := okF_top hF
  have g := hn ls (.inl (cmL x y) :: r) h ht ad H locs lsA e1 e2 e3 e4 hP hD hS hH (okF_push (okF_pop (okF_pop hF)) (inR_cm x y)) hl hv
  refine W.lcmp F.1 F.2.1 hd ?_
  rw [i64_cmp hx hy]
  exact g

def tt_i2b (nx : TT) : TT := fun K R ls st h => pI st (fun x r => nx K R ls (.inl (bm x) :: r) h)
theorem snd_i2b {md : MD} {lc lz pc : Nat} {nx : TT} (hd : decode md.2.1 pc = .ok (.i2b, 1)) (hn : Snd md lc lz (pc + 1) nx) : Snd md lc lz pc (tt_i2b nx) := by
  intro p l e s m args below meth c D dA A mc ms c0 z0 ad0 n0 post Q F L HR K hK ls st h ht
  have hn := hn p l e s m args below meth c D dA A mc ms c0 z0 ad0 n0 post Q F L HR K hK
  obtain ⟨x, r, rfl, ht⟩ := pI_s ht
  intro ad H locs lsA e1 e2 e3 e4 hP hD hS hH hF hl hv
  have hx := okF_top hF
  have g := hn ls (.inl (bm x) :: r) h ht ad H locs lsA e1 e2 e3 e4 hP hD hS hH (okF_push (okF_pop hF) (inR_bm x)) hl hv
  exact lv_i2b F.1 F.2.1 hd (i32_i2b hx) g

def tt_i2l (nx : TT) : TT := fun K R ls st h => pI st (fun x r => nx K R ls (.inr (.inr x) :: r) h)
theorem snd_i2l {md : MD} {lc lz pc : Nat} {nx : TT} (hd : decode md.2.1 pc = .ok (.i2l, 1)) (hn : Snd md lc lz (pc + 1) nx) : Snd md lc lz pc (tt_i2l nx) := by
  intro p l e s m args below meth c D dA A mc ms c0 z0 ad0 n0 post Q F L HR K hK ls st h ht
  have hn := hn p l e s m args below meth c D dA A mc ms c0 z0 ad0 n0 post Q F L HR K hK
  obtain ⟨x, r, rfl, ht⟩ := pI_s ht
  intro ad H locs lsA e1 e2 e3 e4 hP hD hS hH hF hl hv
  have hx := okF_top hF
  have g := hn ls (.inr (.inr x) :: r) h ht ad H locs lsA e1 e2 e3 e4 hP hD hS hH (okF_push (okF_pop hF) (inL_R hx)) hl hv
  exact lv_i2l F.1 F.2.1 hd (i64_i2l hx) g

def tt_l2i (nx : TT) : TT := fun K R ls st h => pL st (fun x r => inR x ∧ nx K R ls (.inl x :: r) h)
theorem snd_l2i {md : MD} {lc lz pc : Nat} {nx : TT} (hd : decode md.2.1 pc = .ok (.l2i, 1)) (hn : Snd md lc lz (pc + 1) nx) : Snd md lc lz pc (tt_l2i nx) := by
  intro p l e s m args below meth c D dA A mc ms c0 z0 ad0 n0 post Q F L HR K hK ls st h ht
  have hn := hn p l e s m args below meth c D dA A mc ms c0 z0 ad0 n0 post Q F L HR K hK
  obtain ⟨x, r, rfl, hc, ht⟩ := pL_s ht
  intro ad H locs lsA e1 e2 e3 e4 hP hD hS hH hF hl hv
  have hx := okF_top hF
  have g := hn ls (.inl x :: r) h ht ad H locs lsA e1 e2 e3 e4 hP hD hS hH (okF_push (okF_pop hF) hc) hl hv
  exact lv_l2i F.1 F.2.1 hd (i32_l2i hc) g

def swG (x : Int) : Int → List TT → (TT → Prop) → Prop
  | _, [], _ => True
  | lo, t :: ts, f => (x = lo → f t) ∧ swG x (lo + 1) ts f
def swS (md : MD) (lc lz pc : Nat) : List Int → List TT → Prop
  | [], [] => True
  | off :: os, t :: ts => (∃ tg : Nat, (pc : Int) + off = (tg : Int) ∧ Snd md lc lz tg t) ∧ swS md lc lz pc os ts
  | _, _ => False
def tt_sw (lo : Int) (ts : List TT) (d : TT) : TT := fun K R ls st h => pI st (fun x r => swG x lo ts (fun t => t K R ls r h) ∧ ((x < lo ∨ lo + ts.length ≤ x) → d K R ls r h))
theorem swG_at {x lo : Int} {ts : List TT} {f : TT → Prop} (h : swG x lo ts f) : ∀ (i : Nat) (t : TT), ts[i]? = some t → x = lo + i → f t := by
  induction ts generalizing lo with
  | nil => intro i t h1; simp at h1
  | cons u ts ih =>
    intro i t h1 h2
    cases i with
    | zero => simp at h1; rw [← h1]; exact h.1 (by simpa using h2)
    | succ i => exact ih h.2 i t (by simpa using h1) (by rw [h2]; push_cast; omega)
theorem swS_len {md : MD} {lc lz pc : Nat} {os : List Int} {ts : List TT} (h : swS md lc lz pc os ts) : os.length = ts.length := by
  induction os generalizing ts with
  | nil => cases ts with
    | nil => rfl
    | cons t ts => exact h.elim
  | cons u os ih => cases ts with
    | nil => exact h.elim
    | cons t ts => simp [ih h.2]
theorem swS_at {md : MD} {lc lz pc : Nat} {os : List Int} {ts : List TT} (h : swS md lc lz pc os ts) : ∀ (i : Nat) (t : TT), ts[i]? = some t → ∃ (off : Int) (tg : Nat), os[i]? = some off ∧ (pc : Int) + off = (tg : Int) ∧ Snd md lc lz tg t := by
  induction os generalizing ts with
  | nil => cases ts with
    | nil => intro i t h1; simp at h1
    | cons t ts => exact h.elim
  | cons u os ih => cases ts with
    | nil => exact h.elim
    | cons v ts =>
      intro i t h1
      cases i with
      | zero =>
        obtain ⟨tg, a, b⟩ := h.1
        simp at h1
        exact ⟨u, tg, rfl, a, h1 ▸ b⟩
      | succ i => obtain ⟨off, tg, a, b⟩ := ih h.2 i t (by simpa using h1); exact ⟨off, tg, by simpa using a, b⟩
theorem snd_sw {md : MD} {lc lz pc : Nat} {dflt lo hi : Int} {os : List Int} {len tgd : Nat} {ts : List TT} {d : TT} (hd : decode md.2.1 pc = .ok (.tableswitch dflt lo hi os.toArray, len)) (hhi : hi = lo + ts.length - 1) (hS : swS md lc lz pc os ts) (hg : (pc : Int) + dflt = (tgd : Int)) (hn : Snd md lc lz tgd d) : Snd md lc lz pc (tt_sw lo ts d) := by
  intro p l e s m args below meth c D dA A mc ms c0 z0 ad0 n0 post Q F L HR K hK ls st h ht
  have hn := hn p l e s m args below meth c D dA A mc ms c0 z0 ad0 n0 post Q F L HR K hK
  obtain ⟨x, r, rfl, ht⟩ := pI_s ht
  intro ad H locs lsA e1 e2 e3 e4 hP hD hS' hH hF hl hv
  have hx : inR x := okF_top hF
  have ex : (Int32.ofInt x).toInt = x := i32_toInt hx
  by_cases q : x < lo ∨ lo + ts.length ≤ x
  · exact lv_tableOut F.1 F.2.1 hd (by rw [ex, hhi]; omega) hg (hn ls r h (ht.2 q) ad H locs lsA e1 e2 e3 e4 hP hD hS' hH (okF_pop hF) hl hv)
  · have hi1 : (x - lo).toNat < ts.length := by omega
    have h1 : ts[(x - lo).toNat]? = some ts[(x - lo).toNat] := List.getElem?_eq_getElem hi1
    obtain ⟨off, tg, a, b, g⟩ := swS_at hS _ _ h1
    have g := g p l e s m args below meth c D dA A mc ms c0 z0 ad0 n0 post Q F L HR K hK ls r h (swG_at ht.1 _ _ h1 (by omega)) ad H locs lsA e1 e2 e3 e4 hP hD hS' hH (okF_pop hF) hl hv
    exact lv_tableIn F.1 F.2.1 hd (by rw [ex]; omega) (by rw [ex, hhi]; omega) (by rw [ex]; simpa using a) b g
def tt_ir : TT := fun _ R _ st h => pI st (fun x r => r = [] ∧ R (some (.inl x)) h)
def tt_zr : TT := fun _ R _ st h => pI st (fun x r => r = [] ∧ (x = 0 ∨ x = 1) ∧ R (some (.inl x)) h)
def tt_br : TT := fun _ R _ st h => pI st (fun x r => r = [] ∧ -128 ≤ x ∧ x ≤ 127 ∧ R (some (.inl x)) h)
def tt_lr : TT := fun _ R _ st h => pL st (fun x r => r = [] ∧ R (some (.inr (.inr x))) h)
def tt_ar : TT := fun _ R _ st h => pO st (fun x r => r = [] ∧ R (some (.inr (.inl x))) h)
def tt_vr : TT := fun _ R _ st h => st = [] ∧ R none h
theorem snd_ir {md : MD} {lc lz pc : Nat} (hd : decode md.2.1 pc = .ok (.ireturn, 1)) (hr : md.2.2.2.1 = some .int) : Snd md lc lz pc tt_ir := by
  intro p l e s m args below meth c D dA A mc ms c0 z0 ad0 n0 post Q F L HR K hK ls st h ht
  obtain ⟨x, r, rfl, rfl, ht2⟩ := pI_s ht
  exact HR pc ls (some (.inl x)) h (Or.inr (Or.inl ⟨x, rfl, hd, Or.inl hr⟩)) ht2
theorem snd_zr {md : MD} {lc lz pc : Nat} (hd : decode md.2.1 pc = .ok (.ireturn, 1)) (hr : md.2.2.2.1 = some .boolean) : Snd md lc lz pc tt_zr := by
  intro p l e s m args below meth c D dA A mc ms c0 z0 ad0 n0 post Q F L HR K hK ls st h ht
  obtain ⟨x, r, rfl, rfl, hz, ht⟩ := pI_s ht
  exact HR pc ls (some (.inl x)) h (Or.inr (Or.inl ⟨x, rfl, hd, Or.inr (Or.inl ⟨hr, hz⟩)⟩)) ht
theorem snd_br {md : MD} {lc lz pc : Nat} (hd : decode md.2.1 pc = .ok (.ireturn, 1)) (hr : md.2.2.2.1 = some .byte) : Snd md lc lz pc tt_br := by
  intro p l e s m args below meth c D dA A mc ms c0 z0 ad0 n0 post Q F L HR K hK ls st h ht
  obtain ⟨x, r, rfl, rfl, h0, h1, ht⟩ := pI_s ht
  exact HR pc ls (some (.inl x)) h (Or.inr (Or.inl ⟨x, rfl, hd, Or.inr (Or.inr ⟨hr, h0, h1⟩)⟩)) ht
theorem snd_lr {md : MD} {lc lz pc : Nat} (hd : decode md.2.1 pc = .ok (.lreturn, 1)) (hr : md.2.2.2.1 = some .long) : Snd md lc lz pc tt_lr := by
  intro p l e s m args below meth c D dA A mc ms c0 z0 ad0 n0 post Q F L HR K hK ls st h ht
  obtain ⟨x, r, rfl, rfl, ht2⟩ := pL_s ht
  exact HR pc ls (some (.inr (.inr x))) h (Or.inr (Or.inr (Or.inl ⟨x, rfl, hd, hr⟩))) ht2
theorem snd_ar {md : MD} {lc lz pc : Nat} {n : String} (hd : decode md.2.1 pc = .ok (.areturn, 1)) (hr : md.2.2.2.1 = some (.object n)) : Snd md lc lz pc tt_ar := by
  intro p l e s m args below meth c D dA A mc ms c0 z0 ad0 n0 post Q F L HR K hK ls st h ht
  obtain ⟨x, r, rfl, rfl, ht2⟩ := pO_s ht
  exact HR pc ls (some (.inr (.inl x))) h (Or.inr (Or.inr (Or.inr ⟨x, rfl, hd, n, hr⟩))) ht2
theorem snd_vr {md : MD} {lc lz pc : Nat} (hd : decode md.2.1 pc = .ok (.return_, 1)) (hr : md.2.2.2.1 = none) : Snd md lc lz pc tt_vr := by
  intro p l e s m args below meth c D dA A mc ms c0 z0 ad0 n0 post Q F L HR K hK ls st h ht
  obtain ⟨rfl, ht⟩ := ht
  exact HR pc ls none h (Or.inl ⟨rfl, hr, hd⟩) ht
