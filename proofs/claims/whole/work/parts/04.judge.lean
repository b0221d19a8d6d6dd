/-! THE JUDGEMENT: a block of code as a predicate transformer over the pure state, and when it is sound -/
abbrev LSt : Type := List (Option PV)
def nth : LSt → Nat → Option PV
  | [], _ => none
  | x :: _, 0 => x
  | _ :: r, n + 1 => nth r n
def stL : LSt → Nat → PV → LSt
  | [], _, _ => []
  | _ :: r, 0, v => some v :: r
  | x :: r, 1, v => (match x with
    | some (.inr (.inr _)) => none
    | y => y) :: stL r 0 v
  | x :: r, n + 2, v => x :: stL r (n + 1) v
/-- a long takes the place behind it, too -/
def clL : LSt → Nat → LSt
  | [], _ => []
  | _ :: r, 0 => none :: r
  | x :: r, n + 1 => x :: clL r n
def lD (ad : Nat → Nat) (ls : LSt) : List (Nat × Value) := (List.range ls.length).filterMap (fun j => (nth ls j).map (fun v => (j, dV ad v)))
abbrev TK : Type := Nat → LSt → PH → Prop
abbrev TR : Type := Option PV → PH → Prop
abbrev TT : Type := TK → TR → LSt → List PV → PH → Prop
/-- a method's own data: class, code, locals, what it returns, room (frames, locals), whether it is <init> -/
abbrev MD : Type := String × ByteArray × Nat × Option FieldType × Nat × Nat × Bool
def rmOf (md : MD) (mc ms : Nat) : Room := { frames := md.2.2.2.2.1, cells := mc, slots := ms, locals := md.2.2.2.2.2.1 }
def Fx (md : MD) (p : Program) (s : State) (m : MethodId) (args : Array Value) (meth : Method) (c : Code) (D : va_G) (dA : Nat → ClassId) (A : Nat → Prop) : Prop :=
  p.tables.exec = Jvm.exec ∧ c.code = md.2.1 ∧ c.maxLocals = md.2.2.1 ∧ meth.sig.returnType = md.2.2.2.1 ∧ meth.locks = false ∧ s.vm.findClass md.1 = some m.cls ∧ (∀ w ∈ gw, w.before args s = true) ∧ va_K D classes (tysOf dA) s ∧ (∀ q, s.heap.size ≤ q → A q) ∧ (md.2.2.2.2.2.2 = true → meth.name = "<init>") ∧ va_AO "CosetHouse$Word" s
def okF (h : PH) (ls : LSt) (st : List PV) : Prop := (∀ n v, nth ls n = some v → okV (hN h) v) ∧ ∀ v ∈ st, okV (hN h) v
def Wm (md : MD) (p : Program) (l : Launch) (e : Env) (s : State) (m : MethodId) (args : Array Value) (below : List Frame) (meth : Method) (c : Code) (D : va_G) (dA : Nat → ClassId) (A : Nat → Prop) (mc ms c0 z0 : Nat) (ad0 : Nat → Nat) (n0 : Nat) (Q : State → Prop) (pc : Nat) (ls : LSt) (st : List PV) (h : PH) : Prop :=
  ∀ (ad : Nat → Nat) (H : Heap) (locs : List Loc) (lsA : Array Slot), (∀ k, okP n0 k → ad k = ad0 k) → n0 ≤ hN h → (c0 ≤ hC h ∧ hC h ≤ c0 + mc) → (z0 ≤ hZ h ∧ hZ h ≤ z0 + ms) → va_P D classes (wo dA ad h) H → va_D A (wo dA ad h) → va_S A s.heap H locs → okH h → okF h ls st → ls.length = md.2.2.1 → lv_has lsA md.2.2.1 (lD ad ls) →
    W p l e (rmOf md mc ms) s m args below meth c H locs (hC h - c0) (hZ h - z0) Q (F0 m pc lsA (st.map (dV ad)))
def isRet (md : MD) (pc : Nat) (r : Option PV) : Prop :=
  (r = none ∧ md.2.2.2.1 = none ∧ decode md.2.1 pc = .ok (.return_, 1)) ∨
  (∃ z : Int, r = some (.inl z) ∧ decode md.2.1 pc = .ok (.ireturn, 1) ∧ (md.2.2.2.1 = some .int ∨ (md.2.2.2.1 = some .boolean ∧ (z = 0 ∨ z = 1)) ∨ (md.2.2.2.1 = some .byte ∧ -128 ≤ z ∧ z ≤ 127))) ∨
  (∃ z : Int, r = some (.inr (.inr z)) ∧ decode md.2.1 pc = .ok (.lreturn, 1) ∧ md.2.2.2.1 = some .long) ∨
  (∃ o : Option Nat, r = some (.inr (.inl o)) ∧ decode md.2.1 pc = .ok (.areturn, 1) ∧ ∃ n, md.2.2.2.1 = some (.object n))
def Snd (md : MD) (lc lz : Nat) (pc : Nat) (t : TT) : Prop :=
  ∀ (p : Program) (l : Launch) (e : Env) (s : State) (m : MethodId) (args : Array Value) (below : List Frame) (meth : Method) (c : Code) (D : va_G) (dA : Nat → ClassId) (A : Nat → Prop) (mc ms c0 z0 : Nat) (ad0 : Nat → Nat) (n0 : Nat) (post : TR) (Q : State → Prop),
    Fx md p s m args meth c D dA A → (lc ≤ c0 + mc ∧ lz ≤ z0 + ms) →
    (∀ pc ls r h, isRet md pc r → post r h → Wm md p l e s m args below meth c D dA A mc ms c0 z0 ad0 n0 Q pc ls r.toList h) →
    ∀ K : TK, (∀ pc ls h, K pc ls h → Wm md p l e s m args below meth c D dA A mc ms c0 z0 ad0 n0 Q pc ls [] h) →
    ∀ ls st h, t K post ls st h → Wm md p l e s m args below meth c D dA A mc ms c0 z0 ad0 n0 Q pc ls st h
-- patterns
def pI (st : List PV) (f : Int → List PV → Prop) : Prop := match st with
  | .inl x :: r => f x r
  | _ => False
def pII (st : List PV) (f : Int → Int → List PV → Prop) : Prop := match st with
  | .inl y :: .inl x :: r => f x y r
  | _ => False
def pO (st : List PV) (f : Option Nat → List PV → Prop) : Prop := match st with
  | .inr (.inl o) :: r => f o r
  | _ => False
def pA (st : List PV) (f : Nat → List PV → Prop) : Prop := match st with
  | .inr (.inl (some a)) :: r => f a r
  | _ => False
def pIA (st : List PV) (f : Nat → Int → List PV → Prop) : Prop := match st with
  | .inl i :: .inr (.inl (some a)) :: r => f a i r
  | _ => False
def pIIA (st : List PV) (f : Nat → Int → Int → List PV → Prop) : Prop := match st with
  | .inl v :: .inl i :: .inr (.inl (some a)) :: r => f a i v r
  | _ => False
def pOA (st : List PV) (f : Nat → Option Nat → List PV → Prop) : Prop := match st with
  | .inr (.inl o) :: .inr (.inl (some a)) :: r => f a o r
  | _ => False
def pOIA (st : List PV) (f : Nat → Int → Nat → List PV → Prop) : Prop := match st with
  | .inr (.inl (some v)) :: .inl i :: .inr (.inl (some a)) :: r => f a i v r
  | _ => False
def pL (st : List PV) (f : Int → List PV → Prop) : Prop := match st with
  | .inr (.inr x) :: r => f x r
  | _ => False
def pLL (st : List PV) (f : Int → Int → List PV → Prop) : Prop := match st with
  | .inr (.inr y) :: .inr (.inr x) :: r => f x y r
  | _ => False
def pLIA (st : List PV) (f : Nat → Int → Int → List PV → Prop) : Prop := match st with
  | .inr (.inr v) :: .inl i :: .inr (.inl (some a)) :: r => f a i v r
  | _ => False
/-- one value that is no long -/
def pV (st : List PV) (f : PV → List PV → Prop) : Prop := match st with
  | .inl x :: r => f (.inl x) r
  | .inr (.inl o) :: r => f (.inr (.inl o)) r
  | _ => False
def lI (ls : LSt) (n : Nat) (f : Int → Prop) : Prop := match nth ls n with
  | some (.inl x) => f x
  | _ => False
def lO (ls : LSt) (n : Nat) (f : Option Nat → Prop) : Prop := match nth ls n with
  | some (.inr (.inl x)) => f x
  | _ => False
def lL (ls : LSt) (n : Nat) (f : Int → Prop) : Prop := match nth ls n with
  | some (.inr (.inr x)) => f x
  | _ => False
theorem pI_s {st : List PV} {f : Int → List PV → Prop} (h : pI st f) : ∃ x r, st = .inl x :: r ∧ f x r := by
  unfold pI at h; split at h
  · exact ⟨_, _, rfl, h⟩
  · exact h.elim
theorem pII_s {st : List PV} {f : Int → Int → List PV → Prop} (h : pII st f) : ∃ x y r, st = .inl y :: .inl x :: r ∧ f x y r := by
  unfold pII at h; split at h
  · exact ⟨_, _, _, rfl, h⟩
  · exact h.elim
theorem pO_s {st : List PV} {f : Option Nat → List PV → Prop} (h : pO st f) : ∃ x r, st = .inr (.inl x) :: r ∧ f x r := by
  unfold pO at h; split at h
  · exact ⟨_, _, rfl, h⟩
  · exact h.elim
theorem pA_s {st : List PV} {f : Nat → List PV → Prop} (h : pA st f) : ∃ x r, st = .inr (.inl (some x)) :: r ∧ f x r := by
  unfold pA at h; split at h
  · exact ⟨_, _, rfl, h⟩
  · exact h.elim
theorem pIA_s {st : List PV} {f : Nat → Int → List PV → Prop} (h : pIA st f) : ∃ a i r, st = .inl i :: .inr (.inl (some a)) :: r ∧ f a i r := by
  unfold pIA at h; split at h
  · exact ⟨_, _, _, rfl, h⟩
  · exact h.elim
theorem pIIA_s {st : List PV} {f : Nat → Int → Int → List PV → Prop} (h : pIIA st f) : ∃ a i v r, st = .inl v :: .inl i :: .inr (.inl (some a)) :: r ∧ f a i v r := by
  unfold pIIA at h; split at h
  · exact ⟨_, _, _, _, rfl, h⟩
  · exact h.elim
theorem pOA_s {st : List PV} {f : Nat → Option Nat → List PV → Prop} (h : pOA st f) : ∃ a o r, st = .inr (.inl o) :: .inr (.inl (some a)) :: r ∧ f a o r := by
  unfold pOA at h; split at h
  · exact ⟨_, _, _, rfl, h⟩
  · exact h.elim
theorem pOIA_s {st : List PV} {f : Nat → Int → Nat → List PV → Prop} (h : pOIA st f) : ∃ a i v r, st = .inr (.inl (some v)) :: .inl i :: .inr (.inl (some a)) :: r ∧ f a i v r := by
  unfold pOIA at h; split at h
  · exact ⟨_, _, _, _, rfl, h⟩
  · exact h.elim
theorem pL_s {st : List PV} {f : Int → List PV → Prop} (h : pL st f) : ∃ x r, st = .inr (.inr x) :: r ∧ f x r := by
  unfold pL at h; split at h
  · exact ⟨_, _, rfl, h⟩
  · exact h.elim
theorem pLL_s {st : List PV} {f : Int → Int → List PV → Prop} (h : pLL st f) : ∃ x y r, st = .inr (.inr y) :: .inr (.inr x) :: r ∧ f x y r := by
  unfold pLL at h; split at h
  · exact ⟨_, _, _, rfl, h⟩
  · exact h.elim
theorem pLIA_s {st : List PV} {f : Nat → Int → Int → List PV → Prop} (h : pLIA st f) : ∃ a i v r, st = .inr (.inr v) :: .inl i :: .inr (.inl (some a)) :: r ∧ f a i v r := by
  unfold pLIA at h; split at h
  · exact ⟨_, _, _, _, rfl, h⟩
  · exact h.elim
theorem pV_s {st : List PV} {f : PV → List PV → Prop} (h : pV st f) : ∃ v r, st = v :: r ∧ (∀ ad, (dV ad v).category = 1) ∧ f v r := by
  unfold pV at h; split at h
  · exact ⟨_, _, rfl, fun _ => rfl, h⟩
  · rename_i o r
    exact ⟨_, _, rfl, fun ad => by cases o <;> rfl, h⟩
  · exact h.elim
theorem lI_s {ls : LSt} {n : Nat} {f : Int → Prop} (h : lI ls n f) : ∃ x, nth ls n = some (.inl x) ∧ f x := by
  unfold lI at h; split at h
  · exact ⟨_, by assumption, h⟩
  · exact h.elim
theorem lO_s {ls : LSt} {n : Nat} {f : Option Nat → Prop} (h : lO ls n f) : ∃ x, nth ls n = some (.inr (.inl x)) ∧ f x := by
  unfold lO at h; split at h
  · exact ⟨_, by assumption, h⟩
  · exact h.elim
theorem lL_s {ls : LSt} {n : Nat} {f : Int → Prop} (h : lL ls n f) : ∃ x, nth ls n = some (.inr (.inr x)) ∧ f x := by
  unfold lL at h; split at h
  · exact ⟨_, by assumption, h⟩
  · exact h.elim
-- locals
theorem nth_lt {ls : LSt} {n : Nat} {v : PV} (h : nth ls n = some v) : n < ls.length := by
  induction ls generalizing n with
  | nil => cases h
  | cons x r ih =>
    cases n with
    | zero => simp
    | succ n => have := ih (n := n) h; simp; omega
theorem lD_mem {ad : Nat → Nat} {ls : LSt} {q : Nat × Value} : q ∈ lD ad ls ↔ ∃ v, nth ls q.1 = some v ∧ q.2 = dV ad v := by
  unfold lD
  rw [List.mem_filterMap]
  constructor
  · rintro ⟨j, -, hj⟩
    cases hn : nth ls j with
    | none => rw [hn] at hj; cases hj
    | some v =>
      rw [hn] at hj
      cases hj
      exact ⟨v, hn, rfl⟩
  · rintro ⟨v, h1, h2⟩
    refine ⟨q.1, List.mem_range.mpr (nth_lt h1), ?_⟩
    rw [h1]
    show some (q.1, dV ad v) = some q
    rw [← h2]
theorem lD_at {ad : Nat → Nat} {ls : LSt} {lsA : Array Slot} {nL n : Nat} {v : PV} (h : lv_has lsA nL (lD ad ls)) (hn : nth ls n = some v) : lsA[n]? = some (.val (dV ad v)) := h.2.2 (n, dV ad v) (lD_mem.mpr ⟨v, hn, rfl⟩)
theorem stL_len (ls : LSt) (n : Nat) (v : PV) : (stL ls n v).length = ls.length := by
  induction ls generalizing n with
  | nil => rfl
  | cons x r ih =>
    match n with
    | 0 => rfl
    | 1 => simp [stL, ih]
    | n + 2 => simp [stL, ih]
theorem stL_nth {ls : LSt} {n j : Nat} {v w : PV} (h : nth (stL ls n v) j = some w) : (j = n ∧ w = v) ∨ (j ≠ n ∧ nth ls j = some w ∧ ¬ (j + 1 = n ∧ ∃ z : Int, w = .inr (.inr z))) := by
  induction ls generalizing n j with
  | nil => cases h
  | cons x r ih =>
    match n, j with
    | 0, 0 => exact Or.inl ⟨rfl, (Option.some.inj h).symm⟩
    | 0, j + 1 => exact Or.inr ⟨by omega, h, fun q => by omega⟩
    | 1, 0 =>
      refine Or.inr ⟨by omega, ?_⟩
      unfold stL nth at h
      split at h
      · cases h
      · rename_i hne
        refine ⟨h, fun ⟨_, z, hz⟩ => hne z (by rw [h, hz])⟩
    | 1, j + 1 =>
      rcases ih (n := 0) (j := j) h with ⟨h1, h2⟩ | ⟨h1, h2, h3⟩
      · exact Or.inl ⟨by omega, h2⟩
      · exact Or.inr ⟨by omega, h2, fun q => by omega⟩
    | n + 2, 0 => exact Or.inr ⟨by omega, h, fun q => by omega⟩
    | n + 2, j + 1 =>
      rcases ih (n := n + 1) (j := j) h with ⟨h1, h2⟩ | ⟨h1, h2, h3⟩
      · exact Or.inl ⟨by omega, h2⟩
      · exact Or.inr ⟨by omega, h2, fun q => h3 ⟨by omega, q.2⟩⟩
theorem clL_len (ls : LSt) (n : Nat) : (clL ls n).length = ls.length := by
  induction ls generalizing n with
  | nil => rfl
  | cons x r ih => cases n <;> simp [clL, ih]
theorem clL_nth {ls : LSt} {n j : Nat} {w : PV} (h : nth (clL ls n) j = some w) : j ≠ n ∧ nth ls j = some w := by
  induction ls generalizing n j with
  | nil => cases h
  | cons x r ih =>
    match n, j with
    | 0, 0 => cases h
    | 0, j + 1 => exact ⟨by omega, h⟩
    | n + 1, 0 => exact ⟨by omega, h⟩
    | n + 1, j + 1 => exact ⟨by have := (ih (n := n) (j := j) h).1; omega, (ih (n := n) (j := j) h).2⟩
theorem dV_cat2 {ad : Nat → Nat} {w : PV} (h : (dV ad w).category = 2) : ∃ z : Int, w = .inr (.inr z) := by
  match w, h with
  | .inl z, h => cases h
  | .inr (.inl none), h => cases h
  | .inr (.inl (some k)), h => cases h
  | .inr (.inr z), _ => exact ⟨z, rfl⟩
/-- what the kit's store leaves is what stL says -/
theorem lv_st1 {ad : Nat → Nat} {ls : LSt} {lsA : Array Slot} {nL n : Nat} {v : PV} (h : lv_has lsA nL ((n, dV ad v) :: (lD ad ls).filter (fun q => !(q.1 == n) && !(q.1 + 1 == n && q.2.category == 2)))) : lv_has lsA nL (lD ad (stL ls n v)) := by
  refine ⟨h.1, h.2.1, fun q hq => h.2.2 q ?_⟩
  obtain ⟨w, h1, h2⟩ := lD_mem.mp hq
  rcases stL_nth h1 with ⟨e1, e2⟩ | ⟨e1, e2, e3⟩
  · rw [List.mem_cons]
    left
    obtain ⟨a, b⟩ := q
    simp only at e1 h2
    rw [e1, h2, e2]
  · refine List.mem_cons_of_mem _ (List.mem_filter.mpr ⟨lD_mem.mpr ⟨w, e2, h2⟩, ?_⟩)
    simp only [Bool.and_eq_true, Bool.not_eq_true', beq_eq_false_iff_ne, ne_eq, Bool.and_eq_false_iff]
    refine ⟨e1, ?_⟩
    by_cases z : q.1 + 1 = n
    · right
      intro hc
      rw [h2] at hc
      exact e3 ⟨z, dV_cat2 hc⟩
    · exact Or.inl z
theorem lv_st2 {ad : Nat → Nat} {ls : LSt} {lsA : Array Slot} {nL n : Nat} {v : PV} (h : lv_has lsA nL ((n, dV ad v) :: (lD ad ls).filter (fun q => !(q.1 == n) && (!(q.1 == n + 1) && !(q.1 + 1 == n && q.2.category == 2))))) : lv_has lsA nL (lD ad (clL (stL ls n v) (n + 1))) := by
  refine ⟨h.1, h.2.1, fun q hq => h.2.2 q ?_⟩
  obtain ⟨w, h1, h2⟩ := lD_mem.mp hq
  obtain ⟨h0, h1⟩ := clL_nth h1
  rcases stL_nth h1 with ⟨e1, e2⟩ | ⟨e1, e2, e3⟩
  · rw [List.mem_cons]
    left
    obtain ⟨a, b⟩ := q
    simp only at e1 h2
    rw [e1, h2, e2]
  · refine List.mem_cons_of_mem _ (List.mem_filter.mpr ⟨lD_mem.mpr ⟨w, e2, h2⟩, ?_⟩)
    simp only [Bool.and_eq_true, Bool.not_eq_true', beq_eq_false_iff_ne, ne_eq, Bool.and_eq_false_iff]
    refine ⟨e1, h0, ?_⟩
    by_cases z : q.1 + 1 = n
    · right
      intro hc
      rw [h2] at hc
      exact e3 ⟨z, dV_cat2 hc⟩
    · exact Or.inl z
theorem okF_st {h : PH} {ls : LSt} {st : List PV} {n : Nat} {v : PV} (hF : okF h ls (v :: st)) : okF h (stL ls n v) st := by
  refine ⟨fun j w hj => ?_, fun w hw => hF.2 w (List.mem_cons_of_mem _ hw)⟩
  rcases stL_nth hj with ⟨-, e2⟩ | ⟨-, e2, -⟩
  · rw [e2]; exact hF.2 v List.mem_cons_self
  · exact hF.1 j w e2
theorem okF_cl {h : PH} {ls : LSt} {st : List PV} {n : Nat} (hF : okF h ls st) : okF h (clL ls n) st := ⟨fun j w hj => hF.1 j w (clL_nth hj).2, hF.2⟩
theorem okF_push {h : PH} {ls : LSt} {st : List PV} {v : PV} (hF : okF h ls st) (hv : okV (hN h) v) : okF h ls (v :: st) := ⟨hF.1, fun w hw => by rcases List.mem_cons.mp hw with e | e; exact e ▸ hv; exact hF.2 w e⟩
theorem okF_pop {h : PH} {ls : LSt} {st : List PV} {v : PV} (hF : okF h ls (v :: st)) : okF h ls st := ⟨hF.1, fun w hw => hF.2 w (List.mem_cons_of_mem _ hw)⟩
theorem okF_top {h : PH} {ls : LSt} {st : List PV} {v : PV} (hF : okF h ls (v :: st)) : okV (hN h) v := hF.2 v List.mem_cons_self
theorem okF_2nd {h : PH} {ls : LSt} {st : List PV} {u v : PV} (hF : okF h ls (u :: v :: st)) : okV (hN h) v := okF_top (okF_pop hF)
theorem okF_3rd {h : PH} {ls : LSt} {st : List PV} {u v w : PV} (hF : okF h ls (u :: v :: w :: st)) : okV (hN h) w := okF_top (okF_pop (okF_pop hF))
