/-! THE LAW'S FRAME: rows as before, with what is known of the script and of the launch -/
def EXL (xs : Nat → Int32) (SL : Nat) (l : Launch) (s : State) (args : Array Value) (A : Nat → Prop) (ad0 : Nat → Nat) : Prop :=
  (∀ e, l.admits e → e.platform.stackTraces = false) ∧ (∀ q, A q → s.heap.size ≤ q) ∧ ad0 SC < s.heap.size ∧ va_X (ad0 SC) SL xs s s.heap ∧ SL ≤ 3072 ∧ (∀ w ∈ thW, w.before args s = true)
def SnL (xs : Nat → Int32) (SL : Nat) (md : MD) (lc lz : Nat) (pc : Nat) (t : TT) : Prop :=
  ∀ (p : Program) (l : Launch) (e : Env) (s : State) (m : MethodId) (args : Array Value) (below : List Frame) (meth : Method) (c : Code) (D : va_G) (dA : Nat → ClassId) (A : Nat → Prop) (mc ms c0 z0 : Nat) (ad0 : Nat → Nat) (n0 : Nat) (post : TR) (Q : State → Prop),
    Fx md p s m args meth c D dA A → (lc ≤ c0 + mc ∧ lz ≤ z0 + ms) →
    (∀ pc ls r h, isRet md pc r → post r h → Wm md p l e s m args below meth c D dA A mc ms c0 z0 ad0 n0 Q pc ls r.toList h) →
    EXL xs SL l s args A ad0 →
    ∀ K : TK, (∀ pc ls h, K pc ls h → Wm md p l e s m args below meth c D dA A mc ms c0 z0 ad0 n0 Q pc ls [] h) →
    ∀ ls st h, t K post ls st h → Wm md p l e s m args below meth c D dA A mc ms c0 z0 ad0 n0 Q pc ls st h
theorem sl_iconst {xs : Nat → Int32} {SL : Nat} {md : MD} {lc lz pc : Nat} {n : Int} {nx : TT} (hd : decode md.2.1 pc = .ok (.iconst n, 1)) (hz : inR n) (he : Int32.ofInt n = Int32.ofInt n) (hn : SnL xs SL md lc lz (pc + 1) nx) : SnL xs SL md lc lz pc (tt_ci n nx) := by
  intro p l e s m args below meth c D dA A mc ms c0 z0 ad0 n0 post Q F L HR EX K hK ls st h ht
  have hn := hn p l e s m args below meth c D dA A mc ms c0 z0 ad0 n0 post Q F L HR EX K hK
  intro ad H locs lsA e1 e2 e3 e4 hP hD hS hH hF hl hv
  exact lv_iconst F.1 F.2.1 hd he (hn ls (.inl n :: st) h ht ad H locs lsA e1 e2 e3 e4 hP hD hS hH (okF_push hF hz) hl hv)
theorem sl_bipush {xs : Nat → Int32} {SL : Nat} {md : MD} {lc lz pc : Nat} {n : Int} {nx : TT} (hd : decode md.2.1 pc = .ok (.bipush n, 2)) (hz : inR n) (he : (Int8.ofInt n).toInt32 = Int32.ofInt n) (hn : SnL xs SL md lc lz (pc + 2) nx) : SnL xs SL md lc lz pc (tt_ci n nx) := by
  intro p l e s m args below meth c D dA A mc ms c0 z0 ad0 n0 post Q F L HR EX K hK ls st h ht
  have hn := hn p l e s m args below meth c D dA A mc ms c0 z0 ad0 n0 post Q F L HR EX K hK
  intro ad H locs lsA e1 e2 e3 e4 hP hD hS hH hF hl hv
  exact lv_bipush F.1 F.2.1 hd he (hn ls (.inl n :: st) h ht ad H locs lsA e1 e2 e3 e4 hP hD hS hH (okF_push hF hz) hl hv)
theorem sl_sipush {xs : Nat → Int32} {SL : Nat} {md : MD} {lc lz pc : Nat} {n : Int} {nx : TT} (hd : decode md.2.1 pc = .ok (.sipush n, 3)) (hz : inR n) (he : (Int16.ofInt n).toInt32 = Int32.ofInt n) (hn : SnL xs SL md lc lz (pc + 3) nx) : SnL xs SL md lc lz pc (tt_ci n nx) := by
  intro p l e s m args below meth c D dA A mc ms c0 z0 ad0 n0 post Q F L HR EX K hK ls st h ht
  have hn := hn p l e s m args below meth c D dA A mc ms c0 z0 ad0 n0 post Q F L HR EX K hK
  intro ad H locs lsA e1 e2 e3 e4 hP hD hS hH hF hl hv
  exact lv_sipush F.1 F.2.1 hd he (hn ls (.inl n :: st) h ht ad H locs lsA e1 e2 e3 e4 hP hD hS hH (okF_push hF hz) hl hv)
theorem sl_ldc {xs : Nat → Int32} {SL : Nat} {md : MD} {lc lz pc : Nat} {n : Int} {nx : TT} {idx : Nat} (hd : decode md.2.1 pc = .ok (.ldc idx, 2)) (hz : inR n) (hw : Cond.constant md.1 idx (Int32.ofInt n) ∈ gw) (hn : SnL xs SL md lc lz (pc + 2) nx) : SnL xs SL md lc lz pc (tt_ci n nx) := by
  intro p l e s m args below meth c D dA A mc ms c0 z0 ad0 n0 post Q F L HR EX K hK ls st h ht
  have hn := hn p l e s m args below meth c D dA A mc ms c0 z0 ad0 n0 post Q F L HR EX K hK
  intro ad H locs lsA e1 e2 e3 e4 hP hD hS hH hF hl hv
  exact lv_ldc F.1 F.2.1 F.2.2.2.2.2.1 (F.2.2.2.2.2.2.1 _ hw) hd (hn ls (.inl n :: st) h ht ad H locs lsA e1 e2 e3 e4 hP hD hS hH (okF_push hF hz) hl hv)
theorem sl_ldc2 {xs : Nat → Int32} {SL : Nat} {md : MD} {lc lz pc : Nat} {n : Int} {nx : TT} {idx : Nat} (hd : decode md.2.1 pc = .ok (.ldc2_w idx, 3)) (hz : inL n) (hw : Cond.constantLong md.1 idx (Int64.ofInt n) ∈ gw) (hn : SnL xs SL md lc lz (pc + 3) nx) : SnL xs SL md lc lz pc (tt_cl n nx) := by
  intro p l e s m args below meth c D dA A mc ms c0 z0 ad0 n0 post Q F L HR EX K hK ls st h ht
  have hn := hn p l e s m args below meth c D dA A mc ms c0 z0 ad0 n0 post Q F L HR EX K hK
  intro ad H locs lsA e1 e2 e3 e4 hP hD hS hH hF hl hv
  exact lv_ldc2 F.1 F.2.1 F.2.2.2.2.2.1 (F.2.2.2.2.2.2.1 _ hw) hd (hn ls (.inr (.inr n) :: st) h ht ad H locs lsA e1 e2 e3 e4 hP hD hS hH (okF_push hF hz) hl hv)
theorem sl_lconst {xs : Nat → Int32} {SL : Nat} {md : MD} {lc lz pc : Nat} {k : Fin 2} {n : Int} {nx : TT} (hd : decode md.2.1 pc = .ok (.lconst k, 1)) (hz : inL n) (he : Int64.ofNat (k : Nat) = Int64.ofInt n) (hn : SnL xs SL md lc lz (pc + 1) nx) : SnL xs SL md lc lz pc (tt_cl n nx) := by
  intro p l e s m args below meth c D dA A mc ms c0 z0 ad0 n0 post Q F L HR EX K hK ls st h ht
  have hn := hn p l e s m args below meth c D dA A mc ms c0 z0 ad0 n0 post Q F L HR EX K hK
  intro ad H locs lsA e1 e2 e3 e4 hP hD hS hH hF hl hv
  exact lv_lconst F.1 F.2.1 hd he (hn ls (.inr (.inr n) :: st) h ht ad H locs lsA e1 e2 e3 e4 hP hD hS hH (okF_push hF hz) hl hv)
theorem sl_null {xs : Nat → Int32} {SL : Nat} {md : MD} {lc lz pc : Nat} {nx : TT} (hd : decode md.2.1 pc = .ok (.aconst_null, 1)) (hn : SnL xs SL md lc lz (pc + 1) nx) : SnL xs SL md lc lz pc (tt_nul nx) := by
  intro p l e s m args below meth c D dA A mc ms c0 z0 ad0 n0 post Q F L HR EX K hK ls st h ht
  have hn := hn p l e s m args below meth c D dA A mc ms c0 z0 ad0 n0 post Q F L HR EX K hK
  intro ad H locs lsA e1 e2 e3 e4 hP hD hS hH hF hl hv
  exact lv_null F.1 F.2.1 hd (hn ls (.inr (.inl none) :: st) h ht ad H locs lsA e1 e2 e3 e4 hP hD hS hH (okF_push hF trivial) hl hv)
theorem sl_il_n {xs : Nat → Int32} {SL : Nat} {md : MD} {lc lz pc : Nat} {k : Fin 4} {n : Nat} {nx : TT} (hd : decode md.2.1 pc = .ok (.iload_n k, 1)) (hk : (k : Nat) = n) (hn : SnL xs SL md lc lz (pc + 1) nx) : SnL xs SL md lc lz pc (tt_il n nx) := by
  intro p l e s m args below meth c D dA A mc ms c0 z0 ad0 n0 post Q F L HR EX K hK ls st h ht
  have hn := hn p l e s m args below meth c D dA A mc ms c0 z0 ad0 n0 post Q F L HR EX K hK
  obtain ⟨x, hx, ht⟩ := lI_s ht
  intro ad H locs lsA e1 e2 e3 e4 hP hD hS hH hF hl hv
  exact lv_iload_n F.1 F.2.1 hd hk (lD_at hv hx) (hn ls (.inl x :: st) h ht ad H locs lsA e1 e2 e3 e4 hP hD hS hH (okF_push hF (hF.1 _ _ hx)) hl hv)
theorem sl_il {xs : Nat → Int32} {SL : Nat} {md : MD} {lc lz pc : Nat} {n : Nat} {nx : TT} (hd : decode md.2.1 pc = .ok (.iload n, 2)) (hn : SnL xs SL md lc lz (pc + 2) nx) : SnL xs SL md lc lz pc (tt_il n nx) := by
  intro p l e s m args below meth c D dA A mc ms c0 z0 ad0 n0 post Q F L HR EX K hK ls st h ht
  have hn := hn p l e s m args below meth c D dA A mc ms c0 z0 ad0 n0 post Q F L HR EX K hK
  obtain ⟨x, hx, ht⟩ := lI_s ht
  intro ad H locs lsA e1 e2 e3 e4 hP hD hS hH hF hl hv
  exact lv_iload F.1 F.2.1 hd (lD_at hv hx) (hn ls (.inl x :: st) h ht ad H locs lsA e1 e2 e3 e4 hP hD hS hH (okF_push hF (hF.1 _ _ hx)) hl hv)
theorem sl_ll_n {xs : Nat → Int32} {SL : Nat} {md : MD} {lc lz pc : Nat} {k : Fin 4} {n : Nat} {nx : TT} (hd : decode md.2.1 pc = .ok (.lload_n k, 1)) (hk : (k : Nat) = n) (hn : SnL xs SL md lc lz (pc + 1) nx) : SnL xs SL md lc lz pc (tt_ll n nx) := by
  intro p l e s m args below meth c D dA A mc ms c0 z0 ad0 n0 post Q F L HR EX K hK ls st h ht
  have hn := hn p l e s m args below meth c D dA A mc ms c0 z0 ad0 n0 post Q F L HR EX K hK
  obtain ⟨x, hx, ht⟩ := lL_s ht
  intro ad H locs lsA e1 e2 e3 e4 hP hD hS hH hF hl hv
  exact lv_lload_n F.1 F.2.1 hd hk (lD_at hv hx) (hn ls (.inr (.inr x) :: st) h ht ad H locs lsA e1 e2 e3 e4 hP hD hS hH (okF_push hF (hF.1 _ _ hx)) hl hv)
theorem sl_ll {xs : Nat → Int32} {SL : Nat} {md : MD} {lc lz pc : Nat} {n : Nat} {nx : TT} (hd : decode md.2.1 pc = .ok (.lload n, 2)) (hn : SnL xs SL md lc lz (pc + 2) nx) : SnL xs SL md lc lz pc (tt_ll n nx) := by
  intro p l e s m args below meth c D dA A mc ms c0 z0 ad0 n0 post Q F L HR EX K hK ls st h ht
  have hn := hn p l e s m args below meth c D dA A mc ms c0 z0 ad0 n0 post Q F L HR EX K hK
  obtain ⟨x, hx, ht⟩ := lL_s ht
  intro ad H locs lsA e1 e2 e3 e4 hP hD hS hH hF hl hv
  exact lv_lload F.1 F.2.1 hd (lD_at hv hx) (hn ls (.inr (.inr x) :: st) h ht ad H locs lsA e1 e2 e3 e4 hP hD hS hH (okF_push hF (hF.1 _ _ hx)) hl hv)
theorem sl_al_n {xs : Nat → Int32} {SL : Nat} {md : MD} {lc lz pc : Nat} {k : Fin 4} {n : Nat} {nx : TT} (hd : decode md.2.1 pc = .ok (.aload_n k, 1)) (hk : (k : Nat) = n) (hn : SnL xs SL md lc lz (pc + 1) nx) : SnL xs SL md lc lz pc (tt_al n nx) := by
  intro p l e s m args below meth c D dA A mc ms c0 z0 ad0 n0 post Q F L HR EX K hK ls st h ht
  have hn := hn p l e s m args below meth c D dA A mc ms c0 z0 ad0 n0 post Q F L HR EX K hK
  obtain ⟨x, hx, ht⟩ := lO_s ht
  intro ad H locs lsA e1 e2 e3 e4 hP hD hS hH hF hl hv
  have g := hn ls (.inr (.inl x) :: st) h ht ad H locs lsA e1 e2 e3 e4 hP hD hS hH (okF_push hF (hF.1 _ _ hx)) hl hv
  cases x with
  | none => exact lv_aload_nN F.1 F.2.1 hd hk (lD_at hv hx) g
  | some a => exact lv_aload_n F.1 F.2.1 hd hk (lD_at hv hx) g
theorem sl_al {xs : Nat → Int32} {SL : Nat} {md : MD} {lc lz pc : Nat} {n : Nat} {nx : TT} (hd : decode md.2.1 pc = .ok (.aload n, 2)) (hn : SnL xs SL md lc lz (pc + 2) nx) : SnL xs SL md lc lz pc (tt_al n nx) := by
  intro p l e s m args below meth c D dA A mc ms c0 z0 ad0 n0 post Q F L HR EX K hK ls st h ht
  have hn := hn p l e s m args below meth c D dA A mc ms c0 z0 ad0 n0 post Q F L HR EX K hK
  obtain ⟨x, hx, ht⟩ := lO_s ht
  intro ad H locs lsA e1 e2 e3 e4 hP hD hS hH hF hl hv
  have g := hn ls (.inr (.inl x) :: st) h ht ad H locs lsA e1 e2 e3 e4 hP hD hS hH (okF_push hF (hF.1 _ _ hx)) hl hv
  cases x with
  | none => exact lv_aloadN F.1 F.2.1 hd (lD_at hv hx) g
  | some a => exact lv_aload F.1 F.2.1 hd (lD_at hv hx) g
theorem sl_is_n {xs : Nat → Int32} {SL : Nat} {md : MD} {lc lz pc : Nat} {k : Fin 4} {n : Nat} {nx : TT} (hd : decode md.2.1 pc = .ok (.istore_n k, 1)) (hk : (k : Nat) = n) (hn : SnL xs SL md lc lz (pc + 1) nx) : SnL xs SL md lc lz pc (tt_is n nx) := by
  intro p l e s m args below meth c D dA A mc ms c0 z0 ad0 n0 post Q F L HR EX K hK ls st h ht
  have hn := hn p l e s m args below meth c D dA A mc ms c0 z0 ad0 n0 post Q F L HR EX K hK
  obtain ⟨hi, ht⟩ := ht
  obtain ⟨x, r, rfl, ht⟩ := pI_s ht
  intro ad H locs lsA e1 e2 e3 e4 hP hD hS hH hF hl hv
  refine lv_istore_n F.1 F.2.1 hd hk hv (by rw [← hl]; exact hi) rfl (fun ls' hv' => ?_)
  exact hn _ r h ht ad H locs ls' e1 e2 e3 e4 hP hD hS hH (okF_st hF) (by rw [stL_len]; exact hl) (lv_st1 hv')
theorem sl_is {xs : Nat → Int32} {SL : Nat} {md : MD} {lc lz pc : Nat} {n : Nat} {nx : TT} (hd : decode md.2.1 pc = .ok (.istore n, 2)) (hn : SnL xs SL md lc lz (pc + 2) nx) : SnL xs SL md lc lz pc (tt_is n nx) := by
  intro p l e s m args below meth c D dA A mc ms c0 z0 ad0 n0 post Q F L HR EX K hK ls st h ht
  have hn := hn p l e s m args below meth c D dA A mc ms c0 z0 ad0 n0 post Q F L HR EX K hK
  obtain ⟨hi, ht⟩ := ht
  obtain ⟨x, r, rfl, ht⟩ := pI_s ht
  intro ad H locs lsA e1 e2 e3 e4 hP hD hS hH hF hl hv
  refine lv_istore F.1 F.2.1 hd hv (by rw [← hl]; exact hi) rfl (fun ls' hv' => ?_)
  exact hn _ r h ht ad H locs ls' e1 e2 e3 e4 hP hD hS hH (okF_st hF) (by rw [stL_len]; exact hl) (lv_st1 hv')
theorem sl_as_n {xs : Nat → Int32} {SL : Nat} {md : MD} {lc lz pc : Nat} {k : Fin 4} {n : Nat} {nx : TT} (hd : decode md.2.1 pc = .ok (.astore_n k, 1)) (hk : (k : Nat) = n) (hn : SnL xs SL md lc lz (pc + 1) nx) : SnL xs SL md lc lz pc (tt_as n nx) := by
  intro p l e s m args below meth c D dA A mc ms c0 z0 ad0 n0 post Q F L HR EX K hK ls st h ht
  have hn := hn p l e s m args below meth c D dA A mc ms c0 z0 ad0 n0 post Q F L HR EX K hK
  obtain ⟨hi, ht⟩ := ht
  obtain ⟨x, r, rfl, ht⟩ := pO_s ht
  intro ad H locs lsA e1 e2 e3 e4 hP hD hS hH hF hl hv
  cases x with
  | none =>
    refine lv_astore_nN F.1 F.2.1 hd hk hv (by rw [← hl]; exact hi) rfl (fun ls' hv' => ?_)
    exact hn _ r h ht ad H locs ls' e1 e2 e3 e4 hP hD hS hH (okF_st hF) (by rw [stL_len]; exact hl) (lv_st1 (v := .inr (.inl none)) hv')
  | some a =>
    refine lv_astore_n F.1 F.2.1 hd hk hv (by rw [← hl]; exact hi) rfl (fun ls' hv' => ?_)
    exact hn _ r h ht ad H locs ls' e1 e2 e3 e4 hP hD hS hH (okF_st hF) (by rw [stL_len]; exact hl) (lv_st1 (v := .inr (.inl (some a))) hv')
theorem sl_as {xs : Nat → Int32} {SL : Nat} {md : MD} {lc lz pc : Nat} {n : Nat} {nx : TT} (hd : decode md.2.1 pc = .ok (.astore n, 2)) (hn : SnL xs SL md lc lz (pc + 2) nx) : SnL xs SL md lc lz pc (tt_as n nx) := by
  intro p l e s m args below meth c D dA A mc ms c0 z0 ad0 n0 post Q F L HR EX K hK ls st h ht
  have hn := hn p l e s m args below meth c D dA A mc ms c0 z0 ad0 n0 post Q F L HR EX K hK
  obtain ⟨hi, ht⟩ := ht
  obtain ⟨x, r, rfl, ht⟩ := pO_s ht
  intro ad H locs lsA e1 e2 e3 e4 hP hD hS hH hF hl hv
  cases x with
  | none =>
    refine lv_astoreN F.1 F.2.1 hd hv (by rw [← hl]; exact hi) rfl (fun ls' hv' => ?_)
    exact hn _ r h ht ad H locs ls' e1 e2 e3 e4 hP hD hS hH (okF_st hF) (by rw [stL_len]; exact hl) (lv_st1 (v := .inr (.inl none)) hv')
  | some a =>
    refine lv_astore F.1 F.2.1 hd hv (by rw [← hl]; exact hi) rfl (fun ls' hv' => ?_)
    exact hn _ r h ht ad H locs ls' e1 e2 e3 e4 hP hD hS hH (okF_st hF) (by rw [stL_len]; exact hl) (lv_st1 (v := .inr (.inl (some a))) hv')
theorem sl_ls_n {xs : Nat → Int32} {SL : Nat} {md : MD} {lc lz pc : Nat} {k : Fin 4} {n : Nat} {nx : TT} (hd : decode md.2.1 pc = .ok (.lstore_n k, 1)) (hk : (k : Nat) = n) (hn : SnL xs SL md lc lz (pc + 1) nx) : SnL xs SL md lc lz pc (tt_ls n nx) := by
  intro p l e s m args below meth c D dA A mc ms c0 z0 ad0 n0 post Q F L HR EX K hK ls st h ht
  have hn := hn p l e s m args below meth c D dA A mc ms c0 z0 ad0 n0 post Q F L HR EX K hK
  obtain ⟨hi, ht⟩ := ht
  obtain ⟨x, r, rfl, ht⟩ := pL_s ht
  intro ad H locs lsA e1 e2 e3 e4 hP hD hS hH hF hl hv
  refine lv_lstore_n F.1 F.2.1 hd hk hv (by rw [← hl]; exact hi) rfl (fun ls' hv' => ?_)
  exact hn _ r h ht ad H locs ls' e1 e2 e3 e4 hP hD hS hH (okF_cl (okF_st hF)) (by rw [clL_len, stL_len]; exact hl) (lv_st2 (v := .inr (.inr x)) hv')
theorem sl_ls {xs : Nat → Int32} {SL : Nat} {md : MD} {lc lz pc : Nat} {n : Nat} {nx : TT} (hd : decode md.2.1 pc = .ok (.lstore n, 2)) (hn : SnL xs SL md lc lz (pc + 2) nx) : SnL xs SL md lc lz pc (tt_ls n nx) := by
  intro p l e s m args below meth c D dA A mc ms c0 z0 ad0 n0 post Q F L HR EX K hK ls st h ht
  have hn := hn p l e s m args below meth c D dA A mc ms c0 z0 ad0 n0 post Q F L HR EX K hK
  obtain ⟨hi, ht⟩ := ht
  obtain ⟨x, r, rfl, ht⟩ := pL_s ht
  intro ad H locs lsA e1 e2 e3 e4 hP hD hS hH hF hl hv
  refine lv_lstore F.1 F.2.1 hd hv (by rw [← hl]; exact hi) rfl (fun ls' hv' => ?_)
  exact hn _ r h ht ad H locs ls' e1 e2 e3 e4 hP hD hS hH (okF_cl (okF_st hF)) (by rw [clL_len, stL_len]; exact hl) (lv_st2 (v := .inr (.inr x)) hv')
theorem sl_inc {xs : Nat → Int32} {SL : Nat} {md : MD} {lc lz pc : Nat} {n : Nat} {z : Int} {nx : TT} (hd : decode md.2.1 pc = .ok (.iinc n z, 3)) (hn : SnL xs SL md lc lz (pc + 3) nx) : SnL xs SL md lc lz pc (tt_inc n z nx) := by
  intro p l e s m args below meth c D dA A mc ms c0 z0 ad0 n0 post Q F L HR EX K hK ls st h ht
  have hn := hn p l e s m args below meth c D dA A mc ms c0 z0 ad0 n0 post Q F L HR EX K hK
  obtain ⟨hi, ht⟩ := ht
  obtain ⟨x, hx, hr, ht⟩ := lI_s ht
  intro ad H locs lsA e1 e2 e3 e4 hP hD hS hH hF hl hv
  obtain ⟨k, hk⟩ := List.getElem?_of_mem (lD_mem.mpr ⟨_, hx, rfl⟩ : (n, dV ad (.inl x)) ∈ lD ad ls)
  refine lv_iinc (k := k) F.1 F.2.1 hd hv hk (Int32.ofInt_add x z).symm (by rw [← hl]; exact hi) rfl (fun ls' hv' => ?_)
  exact hn _ st h ht ad H locs ls' e1 e2 e3 e4 hP hD hS hH (okF_st (okF_push hF hr)) (by rw [stL_len]; exact hl) (lv_st1 (v := .inl (x + z)) hv')
theorem sl_add {xs : Nat → Int32} {SL : Nat} {md : MD} {lc lz pc : Nat} {nx : TT} (hd : decode md.2.1 pc = .ok (.iadd, 1)) (hn : SnL xs SL md lc lz (pc + 1) nx) : SnL xs SL md lc lz pc (tt_add nx) := by
  intro p l e s m args below meth c D dA A mc ms c0 z0 ad0 n0 post Q F L HR EX K hK ls st h ht
  have hn := hn p l e s m args below meth c D dA A mc ms c0 z0 ad0 n0 post Q F L HR EX K hK
  obtain ⟨x, y, r, rfl, hr, ht⟩ := pII_s ht
  intro ad H locs lsA e1 e2 e3 e4 hP hD hS hH hF hl hv
  have g := hn ls (.inl (x + y) :: r) h ht ad H locs lsA e1 e2 e3 e4 hP hD hS hH (okF_push (okF_pop (okF_pop hF)) hr) hl hv
  refine lv_iadd F.1 F.2.1 hd ?_
  rw [← Int32.ofInt_add]
  exact g
theorem sl_sub {xs : Nat → Int32} {SL : Nat} {md : MD} {lc lz pc : Nat} {nx : TT} (hd : decode md.2.1 pc = .ok (.isub, 1)) (hn : SnL xs SL md lc lz (pc + 1) nx) : SnL xs SL md lc lz pc (tt_sub nx) := by
  intro p l e s m args below meth c D dA A mc ms c0 z0 ad0 n0 post Q F L HR EX K hK ls st h ht
  have hn := hn p l e s m args below meth c D dA A mc ms c0 z0 ad0 n0 post Q F L HR EX K hK
  obtain ⟨x, y, r, rfl, hr, ht⟩ := pII_s ht
  intro ad H locs lsA e1 e2 e3 e4 hP hD hS hH hF hl hv
  have g := hn ls (.inl (x - y) :: r) h ht ad H locs lsA e1 e2 e3 e4 hP hD hS hH (okF_push (okF_pop (okF_pop hF)) hr) hl hv
  refine lv_isub F.1 F.2.1 hd ?_
  rw [← Int32.ofInt_sub]
  exact g
theorem sl_mul {xs : Nat → Int32} {SL : Nat} {md : MD} {lc lz pc : Nat} {nx : TT} (hd : decode md.2.1 pc = .ok (.imul, 1)) (hn : SnL xs SL md lc lz (pc + 1) nx) : SnL xs SL md lc lz pc (tt_mul nx) := by
  intro p l e s m args below meth c D dA A mc ms c0 z0 ad0 n0 post Q F L HR EX K hK ls st h ht
  have hn := hn p l e s m args below meth c D dA A mc ms c0 z0 ad0 n0 post Q F L HR EX K hK
  obtain ⟨x, y, r, rfl, hr, ht⟩ := pII_s ht
  intro ad H locs lsA e1 e2 e3 e4 hP hD hS hH hF hl hv
  have g := hn ls (.inl (x * y) :: r) h ht ad H locs lsA e1 e2 e3 e4 hP hD hS hH (okF_push (okF_pop (okF_pop hF)) hr) hl hv
  refine lv_imul F.1 F.2.1 hd ?_
  rw [← Int32.ofInt_mul]
  exact g
theorem sl_ladd {xs : Nat → Int32} {SL : Nat} {md : MD} {lc lz pc : Nat} {nx : TT} (hd : decode md.2.1 pc = .ok (.ladd, 1)) (hn : SnL xs SL md lc lz (pc + 1) nx) : SnL xs SL md lc lz pc (tt_ladd nx) := by
  intro p l e s m args below meth c D dA A mc ms c0 z0 ad0 n0 post Q F L HR EX K hK ls st h ht
  have hn := hn p l e s m args below meth c D dA A mc ms c0 z0 ad0 n0 post Q F L HR EX K hK
  obtain ⟨x, y, r, rfl, hr, ht⟩ := pLL_s ht
  intro ad H locs lsA e1 e2 e3 e4 hP hD hS hH hF hl hv
  have g := hn ls (.inr (.inr (x + y)) :: r) h ht ad H locs lsA e1 e2 e3 e4 hP hD hS hH (okF_push (okF_pop (okF_pop hF)) hr) hl hv
  refine lv_ladd F.1 F.2.1 hd ?_
  rw [← Int64.ofInt_add]
  exact g
theorem sl_lmul {xs : Nat → Int32} {SL : Nat} {md : MD} {lc lz pc : Nat} {nx : TT} (hd : decode md.2.1 pc = .ok (.lmul, 1)) (hn : SnL xs SL md lc lz (pc + 1) nx) : SnL xs SL md lc lz pc (tt_lmul nx) := by
  intro p l e s m args below meth c D dA A mc ms c0 z0 ad0 n0 post Q F L HR EX K hK ls st h ht
  have hn := hn p l e s m args below meth c D dA A mc ms c0 z0 ad0 n0 post Q F L HR EX K hK
  obtain ⟨x, y, r, rfl, hr, ht⟩ := pLL_s ht
  intro ad H locs lsA e1 e2 e3 e4 hP hD hS hH hF hl hv
  have g := hn ls (.inr (.inr (x * y)) :: r) h ht ad H locs lsA e1 e2 e3 e4 hP hD hS hH (okF_push (okF_pop (okF_pop hF)) hr) hl hv
  refine lv_lmul F.1 F.2.1 hd ?_
  rw [← Int64.ofInt_mul]
  exact g
theorem sl_div {xs : Nat → Int32} {SL : Nat} {md : MD} {lc lz pc : Nat} {nx : TT} (hd : decode md.2.1 pc = .ok (.idiv, 1)) (hn : SnL xs SL md lc lz (pc + 1) nx) : SnL xs SL md lc lz pc (tt_div nx) := by
  intro p l e s m args below meth c D dA A mc ms c0 z0 ad0 n0 post Q F L HR EX K hK ls st h ht
  have hn := hn p l e s m args below meth c D dA A mc ms c0 z0 ad0 n0 post Q F L HR EX K hK
  obtain ⟨x, y, r, rfl, h0, h1, ht⟩ := pII_s ht
  intro ad H locs lsA e1 e2 e3 e4 hP hD hS hH hF hl hv
  have hx : inR x := okF_2nd hF
  have hy : inR y := okF_top hF
  have g := hn ls (.inl (x / y) :: r) h ht ad H locs lsA e1 e2 e3 e4 hP hD hS hH (okF_push (okF_pop (okF_pop hF)) (inR_div h0 h1 hx)) hl hv
  refine lv_idiv F.1 F.2.1 hd (fun q => ?_) ?_
  · have q2 := congrArg Int32.toInt q
    rw [i32_toInt hy] at q2
    have q3 : y = 0 := q2
    omega
  · rw [i32_div h0 h1 hx hy]
    exact g
theorem sl_rem {xs : Nat → Int32} {SL : Nat} {md : MD} {lc lz pc : Nat} {nx : TT} (hd : decode md.2.1 pc = .ok (.irem, 1)) (hn : SnL xs SL md lc lz (pc + 1) nx) : SnL xs SL md lc lz pc (tt_rem nx) := by
  intro p l e s m args below meth c D dA A mc ms c0 z0 ad0 n0 post Q F L HR EX K hK ls st h ht
  have hn := hn p l e s m args below meth c D dA A mc ms c0 z0 ad0 n0 post Q F L HR EX K hK
  obtain ⟨x, y, r, rfl, h0, h1, ht⟩ := pII_s ht
  intro ad H locs lsA e1 e2 e3 e4 hP hD hS hH hF hl hv
  have hx : inR x := okF_2nd hF
  have hy : inR y := okF_top hF
  have g := hn ls (.inl (x % y) :: r) h ht ad H locs lsA e1 e2 e3 e4 hP hD hS hH (okF_push (okF_pop (okF_pop hF)) (inR_mod h0 h1 hx)) hl hv
  refine lv_irem F.1 F.2.1 hd (fun q => ?_) ?_
  · have q2 := congrArg Int32.toInt q
    rw [i32_toInt hy] at q2
    have q3 : y = 0 := q2
    omega
  · rw [i32_div h0 h1 hx hy, ← Int32.ofInt_mul, ← Int32.ofInt_sub, mod_eq]
    exact g
theorem sl_ldiv {xs : Nat → Int32} {SL : Nat} {md : MD} {lc lz pc : Nat} {nx : TT} (hd : decode md.2.1 pc = .ok (.ldiv, 1)) (hn : SnL xs SL md lc lz (pc + 1) nx) : SnL xs SL md lc lz pc (tt_ldiv nx) := by
  intro p l e s m args below meth c D dA A mc ms c0 z0 ad0 n0 post Q F L HR EX K hK ls st h ht
  have hn := hn p l e s m args below meth c D dA A mc ms c0 z0 ad0 n0 post Q F L HR EX K hK
  obtain ⟨x, y, r, rfl, h0, h1, ht⟩ := pLL_s ht
  intro ad H locs lsA e1 e2 e3 e4 hP hD hS hH hF hl hv
  have hx : inL x := okF_2nd hF
  have hy : inL y := okF_top hF
  have g := hn ls (.inr (.inr (x / y)) :: r) h ht ad H locs lsA e1 e2 e3 e4 hP hD hS hH (okF_push (okF_pop (okF_pop hF)) (inL_div h0 h1 hx)) hl hv
  refine lv_ldiv F.1 F.2.1 hd (fun q => ?_) ?_
  · have q2 := congrArg Int64.toInt q
    rw [i64_toInt hy] at q2
    have q3 : y = 0 := q2
    omega
  · rw [i64_div h0 h1 hx hy]
    exact g
theorem sl_lrem {xs : Nat → Int32} {SL : Nat} {md : MD} {lc lz pc : Nat} {nx : TT} (hd : decode md.2.1 pc = .ok (.lrem, 1)) (hn : SnL xs SL md lc lz (pc + 1) nx) : SnL xs SL md lc lz pc (tt_lrem nx) := by
  intro p l e s m args below meth c D dA A mc ms c0 z0 ad0 n0 post Q F L HR EX K hK ls st h ht
  have hn := hn p l e s m args below meth c D dA A mc ms c0 z0 ad0 n0 post Q F L HR EX K hK
  obtain ⟨x, y, r, rfl, h0, h1, ht⟩ := pLL_s ht
  intro ad H locs lsA e1 e2 e3 e4 hP hD hS hH hF hl hv
  have hx : inL x := okF_2nd hF
  have hy : inL y := okF_top hF
  have g := hn ls (.inr (.inr (x % y)) :: r) h ht ad H locs lsA e1 e2 e3 e4 hP hD hS hH (okF_push (okF_pop (okF_pop hF)) (inL_mod h0 h1 hx)) hl hv
  refine lv_lrem F.1 F.2.1 hd (fun q => ?_) ?_
  · have q2 := congrArg Int64.toInt q
    rw [i64_toInt hy] at q2
    have q3 : y = 0 := q2
    omega
  · rw [i64_div h0 h1 hx hy, ← Int64.ofInt_mul, ← Int64.ofInt_sub, mod_eq]
    exact g
theorem sl_zeq {xs : Nat → Int32} {SL : Nat} {md : MD} {lc lz pc : Nat} {off : Int} {tg : Nat} {a b : TT} (hd : decode md.2.1 pc = .ok (.ifCond .eq off, 3)) (hg : (pc : Int) + off = (tg : Int)) (ha : SnL xs SL md lc lz tg a) (hn : SnL xs SL md lc lz (pc + 3) b) : SnL xs SL md lc lz pc (tt_zeq a b) := by
  intro p l e s m args below meth c D dA A mc ms c0 z0 ad0 n0 post Q F L HR EX K hK ls st h ht
  have hn := hn p l e s m args below meth c D dA A mc ms c0 z0 ad0 n0 post Q F L HR EX K hK
  have ha := ha p l e s m args below meth c D dA A mc ms c0 z0 ad0 n0 post Q F L HR EX K hK
  obtain ⟨x, r, rfl, ht⟩ := pI_s ht
  intro ad H locs lsA e1 e2 e3 e4 hP hD hS hH hF hl hv
  have hx : inR x := okF_top hF
  refine lv_if_eq F.1 F.2.1 hd hg (fun q => ?_) (fun q => ?_)
  · exact ha ls r h (ht.1 ((i32_eq hx inR_0).mp q)) ad H locs lsA e1 e2 e3 e4 hP hD hS hH (okF_pop hF) hl hv
  · exact hn ls r h (ht.2 (fun z => q ((i32_eq hx inR_0).mpr z))) ad H locs lsA e1 e2 e3 e4 hP hD hS hH (okF_pop hF) hl hv
theorem sl_zne {xs : Nat → Int32} {SL : Nat} {md : MD} {lc lz pc : Nat} {off : Int} {tg : Nat} {a b : TT} (hd : decode md.2.1 pc = .ok (.ifCond .ne off, 3)) (hg : (pc : Int) + off = (tg : Int)) (ha : SnL xs SL md lc lz tg a) (hn : SnL xs SL md lc lz (pc + 3) b) : SnL xs SL md lc lz pc (tt_zne a b) := by
  intro p l e s m args below meth c D dA A mc ms c0 z0 ad0 n0 post Q F L HR EX K hK ls st h ht
  have hn := hn p l e s m args below meth c D dA A mc ms c0 z0 ad0 n0 post Q F L HR EX K hK
  have ha := ha p l e s m args below meth c D dA A mc ms c0 z0 ad0 n0 post Q F L HR EX K hK
  obtain ⟨x, r, rfl, ht⟩ := pI_s ht
  intro ad H locs lsA e1 e2 e3 e4 hP hD hS hH hF hl hv
  have hx : inR x := okF_top hF
  refine lv_if_ne F.1 F.2.1 hd hg (fun q => ?_) (fun q => ?_)
  · exact ha ls r h (ht.1 (fun z => q ((i32_eq hx inR_0).mpr z))) ad H locs lsA e1 e2 e3 e4 hP hD hS hH (okF_pop hF) hl hv
  · exact hn ls r h (ht.2 ((i32_eq hx inR_0).mp q)) ad H locs lsA e1 e2 e3 e4 hP hD hS hH (okF_pop hF) hl hv
theorem sl_zlt {xs : Nat → Int32} {SL : Nat} {md : MD} {lc lz pc : Nat} {off : Int} {tg : Nat} {a b : TT} (hd : decode md.2.1 pc = .ok (.ifCond .lt off, 3)) (hg : (pc : Int) + off = (tg : Int)) (ha : SnL xs SL md lc lz tg a) (hn : SnL xs SL md lc lz (pc + 3) b) : SnL xs SL md lc lz pc (tt_zlt a b) := by
  intro p l e s m args below meth c D dA A mc ms c0 z0 ad0 n0 post Q F L HR EX K hK ls st h ht
  have hn := hn p l e s m args below meth c D dA A mc ms c0 z0 ad0 n0 post Q F L HR EX K hK
  have ha := ha p l e s m args below meth c D dA A mc ms c0 z0 ad0 n0 post Q F L HR EX K hK
  obtain ⟨x, r, rfl, ht⟩ := pI_s ht
  intro ad H locs lsA e1 e2 e3 e4 hP hD hS hH hF hl hv
  have hx : inR x := okF_top hF
  refine lv_if_lt F.1 F.2.1 hd hg (fun q => ?_) (fun q => ?_)
  · exact ha ls r h (ht.1 ((i32_lt hx inR_0).mp q)) ad H locs lsA e1 e2 e3 e4 hP hD hS hH (okF_pop hF) hl hv
  · exact hn ls r h (ht.2 (fun z => q ((i32_lt hx inR_0).mpr z))) ad H locs lsA e1 e2 e3 e4 hP hD hS hH (okF_pop hF) hl hv
theorem sl_zge {xs : Nat → Int32} {SL : Nat} {md : MD} {lc lz pc : Nat} {off : Int} {tg : Nat} {a b : TT} (hd : decode md.2.1 pc = .ok (.ifCond .ge off, 3)) (hg : (pc : Int) + off = (tg : Int)) (ha : SnL xs SL md lc lz tg a) (hn : SnL xs SL md lc lz (pc + 3) b) : SnL xs SL md lc lz pc (tt_zge a b) := by
  intro p l e s m args below meth c D dA A mc ms c0 z0 ad0 n0 post Q F L HR EX K hK ls st h ht
  have hn := hn p l e s m args below meth c D dA A mc ms c0 z0 ad0 n0 post Q F L HR EX K hK
  have ha := ha p l e s m args below meth c D dA A mc ms c0 z0 ad0 n0 post Q F L HR EX K hK
  obtain ⟨x, r, rfl, ht⟩ := pI_s ht
  intro ad H locs lsA e1 e2 e3 e4 hP hD hS hH hF hl hv
  have hx : inR x := okF_top hF
  refine lv_if_ge F.1 F.2.1 hd hg (fun q => ?_) (fun q => ?_)
  · exact ha ls r h (ht.1 ((i32_le inR_0 hx).mp q)) ad H locs lsA e1 e2 e3 e4 hP hD hS hH (okF_pop hF) hl hv
  · exact hn ls r h (ht.2 (fun z => q ((i32_le inR_0 hx).mpr z))) ad H locs lsA e1 e2 e3 e4 hP hD hS hH (okF_pop hF) hl hv
theorem sl_zgt {xs : Nat → Int32} {SL : Nat} {md : MD} {lc lz pc : Nat} {off : Int} {tg : Nat} {a b : TT} (hd : decode md.2.1 pc = .ok (.ifCond .gt off, 3)) (hg : (pc : Int) + off = (tg : Int)) (ha : SnL xs SL md lc lz tg a) (hn : SnL xs SL md lc lz (pc + 3) b) : SnL xs SL md lc lz pc (tt_zgt a b) := by
  intro p l e s m args below meth c D dA A mc ms c0 z0 ad0 n0 post Q F L HR EX K hK ls st h ht
  have hn := hn p l e s m args below meth c D dA A mc ms c0 z0 ad0 n0 post Q F L HR EX K hK
  have ha := ha p l e s m args below meth c D dA A mc ms c0 z0 ad0 n0 post Q F L HR EX K hK
  obtain ⟨x, r, rfl, ht⟩ := pI_s ht
  intro ad H locs lsA e1 e2 e3 e4 hP hD hS hH hF hl hv
  have hx : inR x := okF_top hF
  refine lv_if_gt F.1 F.2.1 hd hg (fun q => ?_) (fun q => ?_)
  · exact ha ls r h (ht.1 ((i32_lt inR_0 hx).mp q)) ad H locs lsA e1 e2 e3 e4 hP hD hS hH (okF_pop hF) hl hv
  · exact hn ls r h (ht.2 (fun z => q ((i32_lt inR_0 hx).mpr z))) ad H locs lsA e1 e2 e3 e4 hP hD hS hH (okF_pop hF) hl hv
theorem sl_zle {xs : Nat → Int32} {SL : Nat} {md : MD} {lc lz pc : Nat} {off : Int} {tg : Nat} {a b : TT} (hd : decode md.2.1 pc = .ok (.ifCond .le off, 3)) (hg : (pc : Int) + off = (tg : Int)) (ha : SnL xs SL md lc lz tg a) (hn : SnL xs SL md lc lz (pc + 3) b) : SnL xs SL md lc lz pc (tt_zle a b) := by
  intro p l e s m args below meth c D dA A mc ms c0 z0 ad0 n0 post Q F L HR EX K hK ls st h ht
  have hn := hn p l e s m args below meth c D dA A mc ms c0 z0 ad0 n0 post Q F L HR EX K hK
  have ha := ha p l e s m args below meth c D dA A mc ms c0 z0 ad0 n0 post Q F L HR EX K hK
  obtain ⟨x, r, rfl, ht⟩ := pI_s ht
  intro ad H locs lsA e1 e2 e3 e4 hP hD hS hH hF hl hv
  have hx : inR x := okF_top hF
  refine lv_if_le F.1 F.2.1 hd hg (fun q => ?_) (fun q => ?_)
  · exact ha ls r h (ht.1 ((i32_le hx inR_0).mp q)) ad H locs lsA e1 e2 e3 e4 hP hD hS hH (okF_pop hF) hl hv
  · exact hn ls r h (ht.2 (fun z => q ((i32_le hx inR_0).mpr z))) ad H locs lsA e1 e2 e3 e4 hP hD hS hH (okF_pop hF) hl hv
theorem sl_ceq {xs : Nat → Int32} {SL : Nat} {md : MD} {lc lz pc : Nat} {off : Int} {tg : Nat} {a b : TT} (hd : decode md.2.1 pc = .ok (.if_icmp .eq off, 3)) (hg : (pc : Int) + off = (tg : Int)) (ha : SnL xs SL md lc lz tg a) (hn : SnL xs SL md lc lz (pc + 3) b) : SnL xs SL md lc lz pc (tt_ceq a b) := by
  intro p l e s m args below meth c D dA A mc ms c0 z0 ad0 n0 post Q F L HR EX K hK ls st h ht
  have hn := hn p l e s m args below meth c D dA A mc ms c0 z0 ad0 n0 post Q F L HR EX K hK
  have ha := ha p l e s m args below meth c D dA A mc ms c0 z0 ad0 n0 post Q F L HR EX K hK
  obtain ⟨x, y, r, rfl, ht⟩ := pII_s ht
  intro ad H locs lsA e1 e2 e3 e4 hP hD hS hH hF hl hv
  have hx : inR x := okF_2nd hF
  have hy : inR y := okF_top hF
  refine lv_icmp_eq F.1 F.2.1 hd hg (fun q => ?_) (fun q => ?_)
  · exact ha ls r h (ht.1 ((i32_eq hx hy).mp q)) ad H locs lsA e1 e2 e3 e4 hP hD hS hH (okF_pop (okF_pop hF)) hl hv
  · exact hn ls r h (ht.2 (fun z => q ((i32_eq hx hy).mpr z))) ad H locs lsA e1 e2 e3 e4 hP hD hS hH (okF_pop (okF_pop hF)) hl hv
theorem sl_cne {xs : Nat → Int32} {SL : Nat} {md : MD} {lc lz pc : Nat} {off : Int} {tg : Nat} {a b : TT} (hd : decode md.2.1 pc = .ok (.if_icmp .ne off, 3)) (hg : (pc : Int) + off = (tg : Int)) (ha : SnL xs SL md lc lz tg a) (hn : SnL xs SL md lc lz (pc + 3) b) : SnL xs SL md lc lz pc (tt_cne a b) := by
  intro p l e s m args below meth c D dA A mc ms c0 z0 ad0 n0 post Q F L HR EX K hK ls st h ht
  have hn := hn p l e s m args below meth c D dA A mc ms c0 z0 ad0 n0 post Q F L HR EX K hK
  have ha := ha p l e s m args below meth c D dA A mc ms c0 z0 ad0 n0 post Q F L HR EX K hK
  obtain ⟨x, y, r, rfl, ht⟩ := pII_s ht
  intro ad H locs lsA e1 e2 e3 e4 hP hD hS hH hF hl hv
  have hx : inR x := okF_2nd hF
  have hy : inR y := okF_top hF
  refine lv_icmp_ne F.1 F.2.1 hd hg (fun q => ?_) (fun q => ?_)
  · exact ha ls r h (ht.1 (fun z => q ((i32_eq hx hy).mpr z))) ad H locs lsA e1 e2 e3 e4 hP hD hS hH (okF_pop (okF_pop hF)) hl hv
  · exact hn ls r h (ht.2 ((i32_eq hx hy).mp q)) ad H locs lsA e1 e2 e3 e4 hP hD hS hH (okF_pop (okF_pop hF)) hl hv
theorem sl_clt {xs : Nat → Int32} {SL : Nat} {md : MD} {lc lz pc : Nat} {off : Int} {tg : Nat} {a b : TT} (hd : decode md.2.1 pc = .ok (.if_icmp .lt off, 3)) (hg : (pc : Int) + off = (tg : Int)) (ha : SnL xs SL md lc lz tg a) (hn : SnL xs SL md lc lz (pc + 3) b) : SnL xs SL md lc lz pc (tt_clt a b) := by
  intro p l e s m args below meth c D dA A mc ms c0 z0 ad0 n0 post Q F L HR EX K hK ls st h ht
  have hn := hn p l e s m args below meth c D dA A mc ms c0 z0 ad0 n0 post Q F L HR EX K hK
  have ha := ha p l e s m args below meth c D dA A mc ms c0 z0 ad0 n0 post Q F L HR EX K hK
  obtain ⟨x, y, r, rfl, ht⟩ := pII_s ht
  intro ad H locs lsA e1 e2 e3 e4 hP hD hS hH hF hl hv
  have hx : inR x := okF_2nd hF
  have hy : inR y := okF_top hF
  refine lv_icmp_lt F.1 F.2.1 hd hg (fun q => ?_) (fun q => ?_)
  · exact ha ls r h (ht.1 ((i32_lt hx hy).mp q)) ad H locs lsA e1 e2 e3 e4 hP hD hS hH (okF_pop (okF_pop hF)) hl hv
  · exact hn ls r h (ht.2 (fun z => q ((i32_lt hx hy).mpr z))) ad H locs lsA e1 e2 e3 e4 hP hD hS hH (okF_pop (okF_pop hF)) hl hv
theorem sl_cge {xs : Nat → Int32} {SL : Nat} {md : MD} {lc lz pc : Nat} {off : Int} {tg : Nat} {a b : TT} (hd : decode md.2.1 pc = .ok (.if_icmp .ge off, 3)) (hg : (pc : Int) + off = (tg : Int)) (ha : SnL xs SL md lc lz tg a) (hn : SnL xs SL md lc lz (pc + 3) b) : SnL xs SL md lc lz pc (tt_cge a b) := by
  intro p l e s m args below meth c D dA A mc ms c0 z0 ad0 n0 post Q F L HR EX K hK ls st h ht
  have hn := hn p l e s m args below meth c D dA A mc ms c0 z0 ad0 n0 post Q F L HR EX K hK
  have ha := ha p l e s m args below meth c D dA A mc ms c0 z0 ad0 n0 post Q F L HR EX K hK
  obtain ⟨x, y, r, rfl, ht⟩ := pII_s ht
  intro ad H locs lsA e1 e2 e3 e4 hP hD hS hH hF hl hv
  have hx : inR x := okF_2nd hF
  have hy : inR y := okF_top hF
  refine lv_icmp_ge F.1 F.2.1 hd hg (fun q => ?_) (fun q => ?_)
  · exact ha ls r h (ht.1 ((i32_le hy hx).mp q)) ad H locs lsA e1 e2 e3 e4 hP hD hS hH (okF_pop (okF_pop hF)) hl hv
  · exact hn ls r h (ht.2 (fun z => q ((i32_le hy hx).mpr z))) ad H locs lsA e1 e2 e3 e4 hP hD hS hH (okF_pop (okF_pop hF)) hl hv
theorem sl_cgt {xs : Nat → Int32} {SL : Nat} {md : MD} {lc lz pc : Nat} {off : Int} {tg : Nat} {a b : TT} (hd : decode md.2.1 pc = .ok (.if_icmp .gt off, 3)) (hg : (pc : Int) + off = (tg : Int)) (ha : SnL xs SL md lc lz tg a) (hn : SnL xs SL md lc lz (pc + 3) b) : SnL xs SL md lc lz pc (tt_cgt a b) := by
  intro p l e s m args below meth c D dA A mc ms c0 z0 ad0 n0 post Q F L HR EX K hK ls st h ht
  have hn := hn p l e s m args below meth c D dA A mc ms c0 z0 ad0 n0 post Q F L HR EX K hK
  have ha := ha p l e s m args below meth c D dA A mc ms c0 z0 ad0 n0 post Q F L HR EX K hK
  obtain ⟨x, y, r, rfl, ht⟩ := pII_s ht
  intro ad H locs lsA e1 e2 e3 e4 hP hD hS hH hF hl hv
  have hx : inR x := okF_2nd hF
  have hy : inR y := okF_top hF
  refine lv_icmp_gt F.1 F.2.1 hd hg (fun q => ?_) (fun q => ?_)
  · exact ha ls r h (ht.1 ((i32_lt hy hx).mp q)) ad H locs lsA e1 e2 e3 e4 hP hD hS hH (okF_pop (okF_pop hF)) hl hv
  · exact hn ls r h (ht.2 (fun z => q ((i32_lt hy hx).mpr z))) ad H locs lsA e1 e2 e3 e4 hP hD hS hH (okF_pop (okF_pop hF)) hl hv
theorem sl_cle {xs : Nat → Int32} {SL : Nat} {md : MD} {lc lz pc : Nat} {off : Int} {tg : Nat} {a b : TT} (hd : decode md.2.1 pc = .ok (.if_icmp .le off, 3)) (hg : (pc : Int) + off = (tg : Int)) (ha : SnL xs SL md lc lz tg a) (hn : SnL xs SL md lc lz (pc + 3) b) : SnL xs SL md lc lz pc (tt_cle a b) := by
  intro p l e s m args below meth c D dA A mc ms c0 z0 ad0 n0 post Q F L HR EX K hK ls st h ht
  have hn := hn p l e s m args below meth c D dA A mc ms c0 z0 ad0 n0 post Q F L HR EX K hK
  have ha := ha p l e s m args below meth c D dA A mc ms c0 z0 ad0 n0 post Q F L HR EX K hK
  obtain ⟨x, y, r, rfl, ht⟩ := pII_s ht
  intro ad H locs lsA e1 e2 e3 e4 hP hD hS hH hF hl hv
  have hx : inR x := okF_2nd hF
  have hy : inR y := okF_top hF
  refine lv_icmp_le F.1 F.2.1 hd hg (fun q => ?_) (fun q => ?_)
  · exact ha ls r h (ht.1 ((i32_le hx hy).mp q)) ad H locs lsA e1 e2 e3 e4 hP hD hS hH (okF_pop (okF_pop hF)) hl hv
  · exact hn ls r h (ht.2 (fun z => q ((i32_le hx hy).mpr z))) ad H locs lsA e1 e2 e3 e4 hP hD hS hH (okF_pop (okF_pop hF)) hl hv
theorem sl_ifnull {xs : Nat → Int32} {SL : Nat} {md : MD} {lc lz pc : Nat} {off : Int} {tg : Nat} {a b : TT} (hd : decode md.2.1 pc = .ok (.ifnull off, 3)) (hg : (pc : Int) + off = (tg : Int)) (ha : SnL xs SL md lc lz tg a) (hn : SnL xs SL md lc lz (pc + 3) b) : SnL xs SL md lc lz pc (tt_nn a b) := by
  intro p l e s m args below meth c D dA A mc ms c0 z0 ad0 n0 post Q F L HR EX K hK ls st h ht
  have hn := hn p l e s m args below meth c D dA A mc ms c0 z0 ad0 n0 post Q F L HR EX K hK
  have ha := ha p l e s m args below meth c D dA A mc ms c0 z0 ad0 n0 post Q F L HR EX K hK
  obtain ⟨x, r, rfl, ht⟩ := pO_s ht
  intro ad H locs lsA e1 e2 e3 e4 hP hD hS hH hF hl hv
  cases x with
  | none => exact lv_ifnullN F.1 F.2.1 hd hg (ha ls r h (ht.1 rfl) ad H locs lsA e1 e2 e3 e4 hP hD hS hH (okF_pop hF) hl hv)
  | some k => exact lv_ifnull F.1 F.2.1 hd (hn ls r h (ht.2 (fun q => by cases q)) ad H locs lsA e1 e2 e3 e4 hP hD hS hH (okF_pop hF) hl hv)
theorem sl_ifnonnull {xs : Nat → Int32} {SL : Nat} {md : MD} {lc lz pc : Nat} {off : Int} {tg : Nat} {a b : TT} (hd : decode md.2.1 pc = .ok (.ifnonnull off, 3)) (hg : (pc : Int) + off = (tg : Int)) (ha : SnL xs SL md lc lz (pc + 3) a) (hn : SnL xs SL md lc lz tg b) : SnL xs SL md lc lz pc (tt_nn a b) := by
  intro p l e s m args below meth c D dA A mc ms c0 z0 ad0 n0 post Q F L HR EX K hK ls st h ht
  have hn := hn p l e s m args below meth c D dA A mc ms c0 z0 ad0 n0 post Q F L HR EX K hK
  have ha := ha p l e s m args below meth c D dA A mc ms c0 z0 ad0 n0 post Q F L HR EX K hK
  obtain ⟨x, r, rfl, ht⟩ := pO_s ht
  intro ad H locs lsA e1 e2 e3 e4 hP hD hS hH hF hl hv
  cases x with
  | none => exact lv_ifnonnullN F.1 F.2.1 hd (ha ls r h (ht.1 rfl) ad H locs lsA e1 e2 e3 e4 hP hD hS hH (okF_pop hF) hl hv)
  | some k => exact lv_ifnonnull F.1 F.2.1 hd hg (hn ls r h (ht.2 (fun q => by cases q)) ad H locs lsA e1 e2 e3 e4 hP hD hS hH (okF_pop hF) hl hv)
theorem sl_goto {xs : Nat → Int32} {SL : Nat} {md : MD} {lc lz pc : Nat} {off : Int} {tg : Nat} {nx : TT} (hd : decode md.2.1 pc = .ok (.goto off, 3)) (hg : (pc : Int) + off = (tg : Int)) (hn : SnL xs SL md lc lz tg nx) : SnL xs SL md lc lz pc nx := by
  intro p l e s m args below meth c D dA A mc ms c0 z0 ad0 n0 post Q F L HR EX K hK ls st h ht
  have hn := hn p l e s m args below meth c D dA A mc ms c0 z0 ad0 n0 post Q F L HR EX K hK
  intro ad H locs lsA e1 e2 e3 e4 hP hD hS hH hF hl hv
  exact lv_goto F.1 F.2.1 hd hg (hn ls st h ht ad H locs lsA e1 e2 e3 e4 hP hD hS hH hF hl hv)
theorem sl_cut {xs : Nat → Int32} {SL : Nat} {md : MD} {lc lz pc : Nat} : SnL xs SL md lc lz pc (tt_cut pc) := by
  intro p l e s m args below meth c D dA A mc ms c0 z0 ad0 n0 post Q F L HR EX K hK ls st h ht
  obtain ⟨rfl, ht⟩ := ht
  exact hK _ _ _ ht
theorem sl_pop {xs : Nat → Int32} {SL : Nat} {md : MD} {lc lz pc : Nat} {nx : TT} (hd : decode md.2.1 pc = .ok (.pop, 1)) (hn : SnL xs SL md lc lz (pc + 1) nx) : SnL xs SL md lc lz pc (tt_pop nx) := by
  intro p l e s m args below meth c D dA A mc ms c0 z0 ad0 n0 post Q F L HR EX K hK ls st h ht
  have hn := hn p l e s m args below meth c D dA A mc ms c0 z0 ad0 n0 post Q F L HR EX K hK
  obtain ⟨v, r, rfl, hc, ht⟩ := pV_s ht
  intro ad H locs lsA e1 e2 e3 e4 hP hD hS hH hF hl hv
  exact lv_pop F.1 F.2.1 hd (hc ad) (hn ls r h ht ad H locs lsA e1 e2 e3 e4 hP hD hS hH (okF_pop hF) hl hv)
theorem sl_dup {xs : Nat → Int32} {SL : Nat} {md : MD} {lc lz pc : Nat} {nx : TT} (hd : decode md.2.1 pc = .ok (.dup, 1)) (hn : SnL xs SL md lc lz (pc + 1) nx) : SnL xs SL md lc lz pc (tt_dup nx) := by
  intro p l e s m args below meth c D dA A mc ms c0 z0 ad0 n0 post Q F L HR EX K hK ls st h ht
  have hn := hn p l e s m args below meth c D dA A mc ms c0 z0 ad0 n0 post Q F L HR EX K hK
  obtain ⟨v, r, rfl, hc, ht⟩ := pV_s ht
  intro ad H locs lsA e1 e2 e3 e4 hP hD hS hH hF hl hv
  exact lv_dup F.1 F.2.1 hd (hc ad) (hn ls (v :: v :: r) h ht ad H locs lsA e1 e2 e3 e4 hP hD hS hH (okF_push hF (okF_top hF)) hl hv)
theorem sl_dup2 {xs : Nat → Int32} {SL : Nat} {md : MD} {lc lz pc : Nat} {nx : TT} (hd : decode md.2.1 pc = .ok (.dup2, 1)) (hn : SnL xs SL md lc lz (pc + 1) nx) : SnL xs SL md lc lz pc (tt_dup2 nx) := by
  intro p l e s m args below meth c D dA A mc ms c0 z0 ad0 n0 post Q F L HR EX K hK ls st h ht
  have hn := hn p l e s m args below meth c D dA A mc ms c0 z0 ad0 n0 post Q F L HR EX K hK
  obtain ⟨v, r, rfl, hc, ht⟩ := pV_s ht
  obtain ⟨w, r, rfl, hc2, ht⟩ := pV_s ht
  intro ad H locs lsA e1 e2 e3 e4 hP hD hS hH hF hl hv
  exact lv_dup2_11 F.1 F.2.1 hd (hc ad) (hc2 ad) (hn ls (v :: w :: v :: w :: r) h ht ad H locs lsA e1 e2 e3 e4 hP hD hS hH (okF_push (okF_push hF (okF_2nd hF)) (okF_top hF)) hl hv)
theorem sl_gI {xs : Nat → Int32} {SL : Nat} {md : MD} {lc lz pc : Nat} {idx ci kn : Nat} {fin : Bool} {nx : TT} (fd : FD md.1 idx ci kn fin) (hr : isRf (tyF ci kn) = false) (hd : decode md.2.1 pc = .ok (.getfield idx, 3)) (hn : SnL xs SL md lc lz (pc + 3) nx) : SnL xs SL md lc lz pc (tt_gI ci kn nx) := by
  intro p l e s m args below meth c D dA A mc ms c0 z0 ad0 n0 post Q F L HR EX K hK ls st h ht
  have hn := hn p l e s m args below meth c D dA A mc ms c0 z0 ad0 n0 post Q F L HR EX K hK
  obtain ⟨a, r, rfl, ⟨ha, hs⟩, ht⟩ := pA_s ht
  intro ad H locs lsA e1 e2 e3 e4 hP hD hS hH hF hl hv
  obtain ⟨C, T, hc, hin, hk, hlk, hty, hnm, hfin⟩ := fd
  have hw := wo_get (dA := dA) (ad := ad) ha
  rw [cE_obj hs] at hw
  refine va_get (own := md.1) (v := .int (Int32.ofInt (gI h a kn))) F.1 F.2.1 F.2.2.2.2.2.2.1 hin F.2.2.2.2.2.1 F.2.2.2.2.2.2.2.1 hP a hw hc kn hk (F.2.2.2.2.2.2.1 _ hlk) (fun _ h9 => h9) ?_ hd ?_
  · rw [fV_get hk]; simp [fV, hr]
  · exact hn ls (.inl (gI h a kn) :: r) h ht ad H locs lsA e1 e2 e3 e4 hP hD hS hH (okF_push (okF_pop hF) (okH_int hH (isLg_obj hs) _)) hl hv
theorem sl_gR {xs : Nat → Int32} {SL : Nat} {md : MD} {lc lz pc : Nat} {idx ci kn : Nat} {fin : Bool} {nx : TT} (fd : FD md.1 idx ci kn fin) (hr : isRf (tyF ci kn) = true) (hd : decode md.2.1 pc = .ok (.getfield idx, 3)) (hn : SnL xs SL md lc lz (pc + 3) nx) : SnL xs SL md lc lz pc (tt_gR ci kn nx) := by
  intro p l e s m args below meth c D dA A mc ms c0 z0 ad0 n0 post Q F L HR EX K hK ls st h ht
  have hn := hn p l e s m args below meth c D dA A mc ms c0 z0 ad0 n0 post Q F L HR EX K hK
  obtain ⟨a, r, rfl, ⟨ha, hs⟩, ht⟩ := pA_s ht
  intro ad H locs lsA e1 e2 e3 e4 hP hD hS hH hF hl hv
  obtain ⟨C, T, hc, hin, hk, hlk, hty, hnm, hfin⟩ := fd
  have hw := wo_get (dA := dA) (ad := ad) ha
  rw [cE_obj hs] at hw
  refine va_get (own := md.1) (v := va_rf ((gR h a kn).map ad)) F.1 F.2.1 F.2.2.2.2.2.2.1 hin F.2.2.2.2.2.1 F.2.2.2.2.2.2.2.1 hP a hw hc kn hk (F.2.2.2.2.2.2.1 _ hlk) (fun _ h9 => h9) ?_ hd ?_
  · rw [fV_get hk]; simp [fV, hr]
  · exact hn ls (.inr (.inl (gR h a kn)) :: r) h ht ad H locs lsA e1 e2 e3 e4 hP hD hS hH (okF_push (okF_pop hF) (okV_ref hH _ _)) hl hv
theorem sl_pI {xs : Nat → Int32} {SL : Nat} {md : MD} {lc lz pc : Nat} {idx ci kn : Nat} {nx : TT} (fd : FD md.1 idx ci kn false) (hT : tyF ci kn = .int) (hd : decode md.2.1 pc = .ok (.putfield idx, 3)) (hn : SnL xs SL md lc lz (pc + 3) nx) : SnL xs SL md lc lz pc (tt_pI ci kn nx) := by
  intro p l e s m args below meth c D dA A mc ms c0 z0 ad0 n0 post Q F L HR EX K hK ls st h ht
  have hn := hn p l e s m args below meth c D dA A mc ms c0 z0 ad0 n0 post Q F L HR EX K hK
  obtain ⟨a, v, r, rfl, ⟨ha, hs⟩, ht⟩ := pIA_s ht
  intro ad H locs lsA e1 e2 e3 e4 hP hD hS hH hF hl hv
  obtain ⟨C, T, hc, hin, hk, hlk, hty, hnm, hfin⟩ := fd
  have hw := wo_get (dA := dA) (ad := ad) ha
  rw [cE_obj hs] at hw
  have hr : isRf (tyF ci kn) = false := by rw [hT]; rfl
  refine va_put (own := md.1) (v := .int (Int32.ofInt v)) (ty := .int) F.1 F.2.1 F.2.2.2.2.2.2.1 hin (tyF ci) hty hnm F.2.2.2.2.2.1 F.2.2.2.2.2.2.2.1 hP hD hS a hw hc kn hk (F.2.2.2.2.2.2.1 _ hlk) (fun _ h9 => h9) hfin (by rw [hty kn hk, hT]) (vp_nar_int _) rfl (by simpa using hk) hd (fun H' locs' hP' hD' hS' => ?_)
  rw [wo_sI ha hs hk hr] at hP' hD'
  exact hn ls r (sI h a kn v) ht ad H' locs' lsA e1 e2 e3 e4 hP' hD' hS' (okH_wI hH (isLg_obj hs) (okF_top hF)) (okF_pop (okF_pop hF)) hl hv
theorem sl_pIF {xs : Nat → Int32} {SL : Nat} {md : MD} {lc lz pc : Nat} {idx ci kn : Nat} {nx : TT} (fd : FD md.1 idx ci kn true) (hT : tyF ci kn = .int) (hd : decode md.2.1 pc = .ok (.putfield idx, 3)) (hi : md.2.2.2.2.2.2 = true) (ho : ∀ C T, classes[ci]? = some (C, T, nF ci) → (T kn).1 = md.1) (hn : SnL xs SL md lc lz (pc + 3) nx) : SnL xs SL md lc lz pc (tt_pI ci kn nx) := by
  intro p l e s m args below meth c D dA A mc ms c0 z0 ad0 n0 post Q F L HR EX K hK ls st h ht
  have hn := hn p l e s m args below meth c D dA A mc ms c0 z0 ad0 n0 post Q F L HR EX K hK
  obtain ⟨a, v, r, rfl, ⟨ha, hs⟩, ht⟩ := pIA_s ht
  intro ad H locs lsA e1 e2 e3 e4 hP hD hS hH hF hl hv
  obtain ⟨C, T, hc, hin, hk, hlk, hty, hnm, hfin⟩ := fd
  have hw := wo_get (dA := dA) (ad := ad) ha
  rw [cE_obj hs] at hw
  have hr : isRf (tyF ci kn) = false := by rw [hT]; rfl
  refine va_putF (own := md.1) (v := .int (Int32.ofInt v)) (ty := .int) F.1 F.2.1 F.2.2.2.2.2.2.1 hin (tyF ci) hty hnm F.2.2.2.2.2.1 F.2.2.2.2.2.2.2.1 hP hD hS a hw hc kn hk (F.2.2.2.2.2.2.1 _ hlk) (fun _ h9 => h9) hfin (F.2.2.2.2.2.2.2.2.2.1 hi) (ho C T hc) (by rw [hty kn hk, hT]) (vp_nar_int _) rfl (by simpa using hk) hd (fun H' locs' hP' hD' hS' => ?_)
  rw [wo_sI ha hs hk hr] at hP' hD'
  exact hn ls r (sI h a kn v) ht ad H' locs' lsA e1 e2 e3 e4 hP' hD' hS' (okH_wI hH (isLg_obj hs) (okF_top hF)) (okF_pop (okF_pop hF)) hl hv
theorem sl_pZ {xs : Nat → Int32} {SL : Nat} {md : MD} {lc lz pc : Nat} {idx ci kn : Nat} {nx : TT} (fd : FD md.1 idx ci kn false) (hT : tyF ci kn = .boolean) (hd : decode md.2.1 pc = .ok (.putfield idx, 3)) (hn : SnL xs SL md lc lz (pc + 3) nx) : SnL xs SL md lc lz pc (tt_pZ ci kn nx) := by
  intro p l e s m args below meth c D dA A mc ms c0 z0 ad0 n0 post Q F L HR EX K hK ls st h ht
  have hn := hn p l e s m args below meth c D dA A mc ms c0 z0 ad0 n0 post Q F L HR EX K hK
  obtain ⟨a, v, r, rfl, ⟨ha, hs⟩, hz, ht⟩ := pIA_s ht
  intro ad H locs lsA e1 e2 e3 e4 hP hD hS hH hF hl hv
  obtain ⟨C, T, hc, hin, hk, hlk, hty, hnm, hfin⟩ := fd
  have hw := wo_get (dA := dA) (ad := ad) ha
  rw [cE_obj hs] at hw
  have hr : isRf (tyF ci kn) = false := by rw [hT]; rfl
  refine va_put (own := md.1) (v := .int (Int32.ofInt v)) (ty := .boolean) F.1 F.2.1 F.2.2.2.2.2.2.1 hin (tyF ci) hty hnm F.2.2.2.2.2.1 F.2.2.2.2.2.2.2.1 hP hD hS a hw hc kn hk (F.2.2.2.2.2.2.1 _ hlk) (fun _ h9 => h9) hfin (by rw [hty kn hk, hT]) (by rcases hz with rfl | rfl <;> decide) (by rcases hz with rfl | rfl <;> decide) (by simpa using hk) hd (fun H' locs' hP' hD' hS' => ?_)
  rw [wo_sI ha hs hk hr] at hP' hD'
  exact hn ls r (sI h a kn v) ht ad H' locs' lsA e1 e2 e3 e4 hP' hD' hS' (okH_wI hH (isLg_obj hs) (okF_top hF)) (okF_pop (okF_pop hF)) hl hv
theorem sl_pZF {xs : Nat → Int32} {SL : Nat} {md : MD} {lc lz pc : Nat} {idx ci kn : Nat} {nx : TT} (fd : FD md.1 idx ci kn true) (hT : tyF ci kn = .boolean) (hd : decode md.2.1 pc = .ok (.putfield idx, 3)) (hi : md.2.2.2.2.2.2 = true) (ho : ∀ C T, classes[ci]? = some (C, T, nF ci) → (T kn).1 = md.1) (hn : SnL xs SL md lc lz (pc + 3) nx) : SnL xs SL md lc lz pc (tt_pZ ci kn nx) := by
  intro p l e s m args below meth c D dA A mc ms c0 z0 ad0 n0 post Q F L HR EX K hK ls st h ht
  have hn := hn p l e s m args below meth c D dA A mc ms c0 z0 ad0 n0 post Q F L HR EX K hK
  obtain ⟨a, v, r, rfl, ⟨ha, hs⟩, hz, ht⟩ := pIA_s ht
  intro ad H locs lsA e1 e2 e3 e4 hP hD hS hH hF hl hv
  obtain ⟨C, T, hc, hin, hk, hlk, hty, hnm, hfin⟩ := fd
  have hw := wo_get (dA := dA) (ad := ad) ha
  rw [cE_obj hs] at hw
  have hr : isRf (tyF ci kn) = false := by rw [hT]; rfl
  refine va_putF (own := md.1) (v := .int (Int32.ofInt v)) (ty := .boolean) F.1 F.2.1 F.2.2.2.2.2.2.1 hin (tyF ci) hty hnm F.2.2.2.2.2.1 F.2.2.2.2.2.2.2.1 hP hD hS a hw hc kn hk (F.2.2.2.2.2.2.1 _ hlk) (fun _ h9 => h9) hfin (F.2.2.2.2.2.2.2.2.2.1 hi) (ho C T hc) (by rw [hty kn hk, hT]) (by rcases hz with rfl | rfl <;> decide) (by rcases hz with rfl | rfl <;> decide) (by simpa using hk) hd (fun H' locs' hP' hD' hS' => ?_)
  rw [wo_sI ha hs hk hr] at hP' hD'
  exact hn ls r (sI h a kn v) ht ad H' locs' lsA e1 e2 e3 e4 hP' hD' hS' (okH_wI hH (isLg_obj hs) (okF_top hF)) (okF_pop (okF_pop hF)) hl hv
theorem sl_pR {xs : Nat → Int32} {SL : Nat} {md : MD} {lc lz pc : Nat} {idx ci kn : Nat} {nx : TT} (fd : FD md.1 idx ci kn false) (hr : isRf (tyF ci kn) = true) (hd : decode md.2.1 pc = .ok (.putfield idx, 3)) (hn : SnL xs SL md lc lz (pc + 3) nx) : SnL xs SL md lc lz pc (tt_pR ci kn nx) := by
  intro p l e s m args below meth c D dA A mc ms c0 z0 ad0 n0 post Q F L HR EX K hK ls st h ht
  have hn := hn p l e s m args below meth c D dA A mc ms c0 z0 ad0 n0 post Q F L HR EX K hK
  obtain ⟨a, v, r, rfl, ⟨ha, hs⟩, hx, ht⟩ := pOA_s ht
  intro ad H locs lsA e1 e2 e3 e4 hP hD hS hH hF hl hv
  obtain ⟨C, T, hc, hin, hk, hlk, hty, hnm, hfin⟩ := fd
  have hw := wo_get (dA := dA) (ad := ad) ha
  rw [cE_obj hs] at hw
  refine va_put (own := md.1) (v := va_rf (v.map ad)) (ty := tyF ci kn) F.1 F.2.1 F.2.2.2.2.2.2.1 hin (tyF ci) hty hnm F.2.2.2.2.2.1 F.2.2.2.2.2.2.2.1 hP hD hS a hw hc kn hk (F.2.2.2.2.2.2.1 _ hlk) (fun _ h9 => h9) hfin (hty kn hk) (nar_ref hr _) (fit_ref hr _) (by simpa using hk) hd (fun H' locs' hP' hD' hS' => ?_)
  rw [wo_sR ha hs hk hr] at hP' hD'
  exact hn ls r (sR h a kn v) ht ad H' locs' lsA e1 e2 e3 e4 hP' hD' hS' (okH_wR hH hx) (okF_pop (okF_pop hF)) hl hv
theorem sl_pRF {xs : Nat → Int32} {SL : Nat} {md : MD} {lc lz pc : Nat} {idx ci kn : Nat} {nx : TT} (fd : FD md.1 idx ci kn true) (hr : isRf (tyF ci kn) = true) (hd : decode md.2.1 pc = .ok (.putfield idx, 3)) (hi : md.2.2.2.2.2.2 = true) (ho : ∀ C T, classes[ci]? = some (C, T, nF ci) → (T kn).1 = md.1) (hn : SnL xs SL md lc lz (pc + 3) nx) : SnL xs SL md lc lz pc (tt_pR ci kn nx) := by
  intro p l e s m args below meth c D dA A mc ms c0 z0 ad0 n0 post Q F L HR EX K hK ls st h ht
  have hn := hn p l e s m args below meth c D dA A mc ms c0 z0 ad0 n0 post Q F L HR EX K hK
  obtain ⟨a, v, r, rfl, ⟨ha, hs⟩, hx, ht⟩ := pOA_s ht
  intro ad H locs lsA e1 e2 e3 e4 hP hD hS hH hF hl hv
  obtain ⟨C, T, hc, hin, hk, hlk, hty, hnm, hfin⟩ := fd
  have hw := wo_get (dA := dA) (ad := ad) ha
  rw [cE_obj hs] at hw
  refine va_putF (own := md.1) (v := va_rf (v.map ad)) (ty := tyF ci kn) F.1 F.2.1 F.2.2.2.2.2.2.1 hin (tyF ci) hty hnm F.2.2.2.2.2.1 F.2.2.2.2.2.2.2.1 hP hD hS a hw hc kn hk (F.2.2.2.2.2.2.1 _ hlk) (fun _ h9 => h9) hfin (F.2.2.2.2.2.2.2.2.2.1 hi) (ho C T hc) (hty kn hk) (nar_ref hr _) (fit_ref hr _) (by simpa using hk) hd (fun H' locs' hP' hD' hS' => ?_)
  rw [wo_sR ha hs hk hr] at hP' hD'
  exact hn ls r (sR h a kn v) ht ad H' locs' lsA e1 e2 e3 e4 hP' hD' hS' (okH_wR hH hx) (okF_pop (okF_pop hF)) hl hv
theorem sl_ia {xs : Nat → Int32} {SL : Nat} {md : MD} {lc lz pc : Nat} {nx : TT} (hd : decode md.2.1 pc = .ok (.iaload, 1)) (hn : SnL xs SL md lc lz (pc + 1) nx) : SnL xs SL md lc lz pc (tt_ia nx) := by
  intro p l e s m args below meth c D dA A mc ms c0 z0 ad0 n0 post Q F L HR EX K hK ls st h ht
  have hn := hn p l e s m args below meth c D dA A mc ms c0 z0 ad0 n0 post Q F L HR EX K hK
  obtain ⟨a, i, r, rfl, ⟨ha, n, hs⟩, h0, h1, ht⟩ := pIA_s ht
  intro ad H locs lsA e1 e2 e3 e4 hP hD hS hH hF hl hv
  rw [lnA_of hs] at h1
  have hi : inR i := okF_top hF
  have hw := wo_get (dA := dA) (ad := ad) ha
  rw [cE_arr hs (by decide) (by decide)] at hw
  have g := hn ls (.inl (gI h a i) :: r) h ht ad H locs lsA e1 e2 e3 e4 hP hD hS hH (okF_push (okF_pop (okF_pop hF)) (okH_int hH (isLg_arr hs (by decide)) _)) hl hv
  refine va_iald (t0 := 0) F.1 F.2.1 F.2.2.2.2.2.2.2.1 hP a hw rfl (i32_in h0 h1 hi) hd ?_
  rw [nat_back h0 hi]
  exact g
theorem sl_ba {xs : Nat → Int32} {SL : Nat} {md : MD} {lc lz pc : Nat} {nx : TT} (hd : decode md.2.1 pc = .ok (.baload, 1)) (hn : SnL xs SL md lc lz (pc + 1) nx) : SnL xs SL md lc lz pc (tt_ba nx) := by
  intro p l e s m args below meth c D dA A mc ms c0 z0 ad0 n0 post Q F L HR EX K hK ls st h ht
  have hn := hn p l e s m args below meth c D dA A mc ms c0 z0 ad0 n0 post Q F L HR EX K hK
  obtain ⟨a, i, r, rfl, ⟨ha, n, hs⟩, h0, h1, ht⟩ := pIA_s ht
  intro ad H locs lsA e1 e2 e3 e4 hP hD hS hH hF hl hv
  rw [lnA_of hs] at h1
  have hi : inR i := okF_top hF
  have hw := wo_get (dA := dA) (ad := ad) ha
  rw [cE_arr hs (by decide) (by decide)] at hw
  have g := hn ls (.inl (gI h a i) :: r) h ht ad H locs lsA e1 e2 e3 e4 hP hD hS hH (okF_push (okF_pop (okF_pop hF)) (okH_int hH (isLg_arr hs (by decide)) _)) hl hv
  refine va_bald (t0 := 1) F.1 F.2.1 F.2.2.2.2.2.2.2.1 hP a hw rfl (i32_in h0 h1 hi) hd ?_
  rw [nat_back h0 hi]
  exact g
theorem sl_za {xs : Nat → Int32} {SL : Nat} {md : MD} {lc lz pc : Nat} {nx : TT} (hd : decode md.2.1 pc = .ok (.baload, 1)) (hn : SnL xs SL md lc lz (pc + 1) nx) : SnL xs SL md lc lz pc (tt_za nx) := by
  intro p l e s m args below meth c D dA A mc ms c0 z0 ad0 n0 post Q F L HR EX K hK ls st h ht
  have hn := hn p l e s m args below meth c D dA A mc ms c0 z0 ad0 n0 post Q F L HR EX K hK
  obtain ⟨a, i, r, rfl, ⟨ha, n, hs⟩, h0, h1, ht⟩ := pIA_s ht
  intro ad H locs lsA e1 e2 e3 e4 hP hD hS hH hF hl hv
  rw [lnA_of hs] at h1
  have hi : inR i := okF_top hF
  have hw := wo_get (dA := dA) (ad := ad) ha
  rw [cE_arr hs (by decide) (by decide)] at hw
  have g := hn ls (.inl (gI h a i) :: r) h ht ad H locs lsA e1 e2 e3 e4 hP hD hS hH (okF_push (okF_pop (okF_pop hF)) (okH_int hH (isLg_arr hs (by decide)) _)) hl hv
  refine va_zald (t0 := 2) F.1 F.2.1 F.2.2.2.2.2.2.2.1 hP a hw rfl (i32_in h0 h1 hi) hd ?_
  rw [nat_back h0 hi]
  exact g
theorem sl_iS {xs : Nat → Int32} {SL : Nat} {md : MD} {lc lz pc : Nat} {nx : TT} (hd : decode md.2.1 pc = .ok (.iastore, 1)) (hn : SnL xs SL md lc lz (pc + 1) nx) : SnL xs SL md lc lz pc (tt_iS nx) := by
  intro p l e s m args below meth c D dA A mc ms c0 z0 ad0 n0 post Q F L HR EX K hK ls st h ht
  have hn := hn p l e s m args below meth c D dA A mc ms c0 z0 ad0 n0 post Q F L HR EX K hK
  obtain ⟨a, i, v, r, rfl, ⟨ha, n, hs⟩, h0, h1, ht⟩ := pIIA_s ht
  intro ad H locs lsA e1 e2 e3 e4 hP hD hS hH hF hl hv
  rw [lnA_of hs] at h1
  have hi : inR i := okF_2nd hF
  have hw := wo_get (dA := dA) (ad := ad) ha
  rw [cE_arr hs (by decide) (by decide)] at hw
  refine va_iast (t0 := 0) F.1 F.2.1 F.2.2.2.2.2.2.2.1 hP hD hS a hw rfl (i32_in h0 h1 hi) hd (fun H' locs' hP' hD' hS' => ?_)
  rw [wo_sIa ha hs (by decide) (by decide) h0 hi rfl] at hP' hD'
  exact hn ls r (sI h a i v) ht ad H' locs' lsA e1 e2 e3 e4 hP' hD' hS' (okH_wI hH (isLg_arr hs (by decide)) (okF_top hF)) (okF_pop (okF_pop (okF_pop hF))) hl hv
theorem sl_bS {xs : Nat → Int32} {SL : Nat} {md : MD} {lc lz pc : Nat} {nx : TT} (hd : decode md.2.1 pc = .ok (.bastore, 1)) (hn : SnL xs SL md lc lz (pc + 1) nx) : SnL xs SL md lc lz pc (tt_bS nx) := by
  intro p l e s m args below meth c D dA A mc ms c0 z0 ad0 n0 post Q F L HR EX K hK ls st h ht
  have hn := hn p l e s m args below meth c D dA A mc ms c0 z0 ad0 n0 post Q F L HR EX K hK
  obtain ⟨a, i, v, r, rfl, ⟨ha, n, hs⟩, h0, h1, hb0, hb1, ht⟩ := pIIA_s ht
  intro ad H locs lsA e1 e2 e3 e4 hP hD hS hH hF hl hv
  rw [lnA_of hs] at h1
  have hi : inR i := okF_2nd hF
  have hw := wo_get (dA := dA) (ad := ad) ha
  rw [cE_arr hs (by decide) (by decide)] at hw
  refine va_bast (t0 := 1) F.1 F.2.1 F.2.2.2.2.2.2.2.1 hP hD hS a hw rfl (i32_in h0 h1 hi) hd (fun H' locs' hP' hD' hS' => ?_)
  rw [wo_sIa ha hs (by decide) (by decide) h0 hi (nar_byte hb0 hb1)] at hP' hD'
  exact hn ls r (sI h a i v) ht ad H' locs' lsA e1 e2 e3 e4 hP' hD' hS' (okH_wI hH (isLg_arr hs (by decide)) (okF_top hF)) (okF_pop (okF_pop (okF_pop hF))) hl hv
theorem sl_zS {xs : Nat → Int32} {SL : Nat} {md : MD} {lc lz pc : Nat} {nx : TT} (hd : decode md.2.1 pc = .ok (.bastore, 1)) (hn : SnL xs SL md lc lz (pc + 1) nx) : SnL xs SL md lc lz pc (tt_zS nx) := by
  intro p l e s m args below meth c D dA A mc ms c0 z0 ad0 n0 post Q F L HR EX K hK ls st h ht
  have hn := hn p l e s m args below meth c D dA A mc ms c0 z0 ad0 n0 post Q F L HR EX K hK
  obtain ⟨a, i, v, r, rfl, ⟨ha, n, hs⟩, h0, h1, hb0, ht⟩ := pIIA_s ht
  intro ad H locs lsA e1 e2 e3 e4 hP hD hS hH hF hl hv
  rw [lnA_of hs] at h1
  have hi : inR i := okF_2nd hF
  have hw := wo_get (dA := dA) (ad := ad) ha
  rw [cE_arr hs (by decide) (by decide)] at hw
  refine va_zast (t0 := 2) F.1 F.2.1 F.2.2.2.2.2.2.2.1 hP hD hS a hw rfl (i32_in h0 h1 hi) hd (fun H' locs' hP' hD' hS' => ?_)
  rw [wo_sIa ha hs (by decide) (by decide) h0 hi (nar_bool hb0)] at hP' hD'
  exact hn ls r (sI h a i v) ht ad H' locs' lsA e1 e2 e3 e4 hP' hD' hS' (okH_wI hH (isLg_arr hs (by decide)) (okF_top hF)) (okF_pop (okF_pop (okF_pop hF))) hl hv
theorem sl_aa {xs : Nat → Int32} {SL : Nat} {md : MD} {lc lz pc : Nat} {nx : TT} (hd : decode md.2.1 pc = .ok (.aaload, 1)) (hn : SnL xs SL md lc lz (pc + 1) nx) : SnL xs SL md lc lz pc (tt_aa nx) := by
  intro p l e s m args below meth c D dA A mc ms c0 z0 ad0 n0 post Q F L HR EX K hK ls st h ht
  have hn := hn p l e s m args below meth c D dA A mc ms c0 z0 ad0 n0 post Q F L HR EX K hK
  obtain ⟨a, i, r, rfl, ⟨ha, n, hs⟩, h0, h1, ht⟩ := pIA_s ht
  intro ad H locs lsA e1 e2 e3 e4 hP hD hS hH hF hl hv
  rw [lnA_of hs] at h1
  have hi : inR i := okF_top hF
  have hw := wo_get (dA := dA) (ad := ad) ha
  rw [cE_ref hs] at hw
  have g := hn ls (.inr (.inl (gR h a i)) :: r) h ht ad H locs lsA e1 e2 e3 e4 hP hD hS hH (okF_push (okF_pop (okF_pop hF)) (okV_ref hH _ _)) hl hv
  refine va_aldq (t0 := 4) F.1 F.2.1 F.2.2.2.2.2.2.2.1 hP a hw rfl (i32_in h0 h1 hi) hd ?_
  rw [nat_back h0 hi]
  exact g
theorem sl_aS {xs : Nat → Int32} {SL : Nat} {md : MD} {lc lz pc : Nat} {nx : TT} (hd : decode md.2.1 pc = .ok (.aastore, 1)) (hn : SnL xs SL md lc lz (pc + 1) nx) : SnL xs SL md lc lz pc (tt_aS nx) := by
  intro p l e s m args below meth c D dA A mc ms c0 z0 ad0 n0 post Q F L HR EX K hK ls st h ht
  have hn := hn p l e s m args below meth c D dA A mc ms c0 z0 ad0 n0 post Q F L HR EX K hK
  obtain ⟨a, i, v, r, rfl, ⟨ha, n, hs⟩, h0, h1, ⟨hv1, hv2⟩, ht⟩ := pOIA_s ht
  intro ad H locs lsA e1 e2 e3 e4 hP hD hS hH hF hl hv
  rw [lnA_of hs] at h1
  have hi : inR i := okF_2nd hF
  have hw := wo_get (dA := dA) (ad := ad) ha
  rw [cE_ref hs] at hw
  have hw2 := wo_get (dA := dA) (ad := ad) hv1
  rw [cE_obj hv2] at hw2
  refine va_astq (t0 := 4) (r := (R_Wo, F_Wo, 2)) F.1 F.2.1 F.2.2.2.2.2.2.2.1 hP hD hS a v 6 hw rfl hw2 rfl (i32_in h0 h1 hi) hd (fun H' locs' hP' hD' hS' => ?_)
  rw [wo_sRa ha hs h0 hi] at hP' hD'
  exact hn ls r (sR h a i (some v)) ht ad H' locs' lsA e1 e2 e3 e4 hP' hD' hS' (okH_wR hH (fun x hx => by cases hx; exact hv1)) (okF_pop (okF_pop (okF_pop hF))) hl hv
theorem sl_len {xs : Nat → Int32} {SL : Nat} {md : MD} {lc lz pc : Nat} {t : Nat} {nx : TT} (ht5 : t < 5) (hd : decode md.2.1 pc = .ok (.arraylength, 1)) (hz : ∀ a, inR (lnA a)) (hn : SnL xs SL md lc lz (pc + 1) nx) : SnL xs SL md lc lz pc (tt_len t nx) := by
  intro p l e s m args below meth c D dA A mc ms c0 z0 ad0 n0 post Q F L HR EX K hK ls st h ht
  have hn := hn p l e s m args below meth c D dA A mc ms c0 z0 ad0 n0 post Q F L HR EX K hK
  obtain ⟨a, r, rfl, ⟨ha, n, hs⟩, ht⟩ := pA_s ht
  intro ad H locs lsA e1 e2 e3 e4 hP hD hS hH hF hl hv
  have hw := wo_get (dA := dA) (ad := ad) ha
  have g := hn ls (.inl (lnA a) :: r) h ht ad H locs lsA e1 e2 e3 e4 hP hD hS hH (okF_push (okF_pop hF) (hz a)) hl hv
  obtain ⟨x, hx, hn1⟩ : ∃ x : vp_A, cE dA ad h a = .inl (dA t, x) ∧ x.1 = n := by unfold cE; rw [hs]; exact ⟨_, rfl, rfl⟩
  rw [hx] at hw
  have hT : ∃ ty, (tysOf dA)[t]? = some (dA t, ty) := by
    match t, ht5 with
    | 0, _ => exact ⟨_, rfl⟩
    | 1, _ => exact ⟨_, rfl⟩
    | 2, _ => exact ⟨_, rfl⟩
    | 3, _ => exact ⟨_, rfl⟩
    | 4, _ => exact ⟨_, rfl⟩
  obtain ⟨ty, hT⟩ := hT
  exact va_alen (t0 := t) F.1 F.2.1 F.2.2.2.2.2.2.2.1 hP a hw hT (by rw [hn1, lnA_of hs]; rfl) hd g
theorem sl_and {xs : Nat → Int32} {SL : Nat} {md : MD} {lc lz pc : Nat} {nx : TT} (hd : decode md.2.1 pc = .ok (.iand, 1)) (hn : SnL xs SL md lc lz (pc + 1) nx) : SnL xs SL md lc lz pc (tt_and nx) := by
  intro p l e s m args below meth c D dA A mc ms c0 z0 ad0 n0 post Q F L HR EX K hK ls st h ht
  have hn := hn p l e s m args below meth c D dA A mc ms c0 z0 ad0 n0 post Q F L HR EX K hK
  obtain ⟨x, y, r, rfl, hc, ht⟩ := pII_s ht
  intro ad H locs lsA e1 e2 e3 e4 hP hD hS hH hF hl hv
  have hx := okF_2nd hF
  have hy := okF_top hF
  have g := hn ls (.inl (x % (y + 1)) :: r) h ht ad H locs lsA e1 e2 e3 e4 hP hD hS hH (okF_push (okF_pop (okF_pop hF)) (inR_and hc)) hl hv
  refine lv_iand F.1 F.2.1 hd ?_
  rw [i32_and hc]
  exact g
theorem sl_xor {xs : Nat → Int32} {SL : Nat} {md : MD} {lc lz pc : Nat} {nx : TT} (hd : decode md.2.1 pc = .ok (.ixor, 1)) (hn : SnL xs SL md lc lz (pc + 1) nx) : SnL xs SL md lc lz pc (tt_xor nx) := by
  intro p l e s m args below meth c D dA A mc ms c0 z0 ad0 n0 post Q F L HR EX K hK ls st h ht
  have hn := hn p l e s m args below meth c D dA A mc ms c0 z0 ad0 n0 post Q F L HR EX K hK
  obtain ⟨x, y, r, rfl, hc, h0, ht⟩ := pII_s ht
  intro ad H locs lsA e1 e2 e3 e4 hP hD hS hH hF hl hv
  have hx := okF_2nd hF
  have hy := okF_top hF
  have g := hn ls (.inl (oc x) :: r) h ht ad H locs lsA e1 e2 e3 e4 hP hD hS hH (okF_push (okF_pop (okF_pop hF)) (inR_oc h0 hx)) hl hv
  refine lv_ixor F.1 F.2.1 hd ?_
  rw [hc, i32_xor1 h0 hx]
  exact g
theorem sl_shr {xs : Nat → Int32} {SL : Nat} {md : MD} {lc lz pc : Nat} {nx : TT} (hd : decode md.2.1 pc = .ok (.ishr, 1)) (hn : SnL xs SL md lc lz (pc + 1) nx) : SnL xs SL md lc lz pc (tt_shr nx) := by
  intro p l e s m args below meth c D dA A mc ms c0 z0 ad0 n0 post Q F L HR EX K hK ls st h ht
  have hn := hn p l e s m args below meth c D dA A mc ms c0 z0 ad0 n0 post Q F L HR EX K hK
  obtain ⟨x, y, r, rfl, hc, ht⟩ := pII_s ht
  intro ad H locs lsA e1 e2 e3 e4 hP hD hS hH hF hl hv
  have hx := okF_2nd hF
  have hy := okF_top hF
  have g := hn ls (.inl (x / shf y) :: r) h ht ad H locs lsA e1 e2 e3 e4 hP hD hS hH (okF_push (okF_pop (okF_pop hF)) (inR_shr hx hc)) hl hv
  refine lv_ishr F.1 F.2.1 hd ?_
  rw [i32_shr hx hc]
  exact g
theorem sl_ushr {xs : Nat → Int32} {SL : Nat} {md : MD} {lc lz pc : Nat} {nx : TT} (hd : decode md.2.1 pc = .ok (.iushr, 1)) (hn : SnL xs SL md lc lz (pc + 1) nx) : SnL xs SL md lc lz pc (tt_ushr nx) := by
  intro p l e s m args below meth c D dA A mc ms c0 z0 ad0 n0 post Q F L HR EX K hK ls st h ht
  have hn := hn p l e s m args below meth c D dA A mc ms c0 z0 ad0 n0 post Q F L HR EX K hK
  obtain ⟨x, y, r, rfl, hc, ht⟩ := pII_s ht
  intro ad H locs lsA e1 e2 e3 e4 hP hD hS hH hF hl hv
  have hx := okF_2nd hF
  have hy := okF_top hF
  have g := hn ls (.inl (ush x y) :: r) h ht ad H locs lsA e1 e2 e3 e4 hP hD hS hH (okF_push (okF_pop (okF_pop hF)) (inR_ush hx hc)) hl hv
  exact lv_iushr F.1 F.2.1 hd (i32_ush hx hc) g
theorem sl_lcmp {xs : Nat → Int32} {SL : Nat} {md : MD} {lc lz pc : Nat} {nx : TT} (hd : decode md.2.1 pc = .ok (.lcmp, 1)) (hn : SnL xs SL md lc lz (pc + 1) nx) : SnL xs SL md lc lz pc (tt_lcmp nx) := by
  intro p l e s m args below meth c D dA A mc ms c0 z0 ad0 n0 post Q F L HR EX K hK ls st h ht
  have hn := hn p l e s m args below meth c D dA A mc ms c0 z0 ad0 n0 post Q F L HR EX K hK
  obtain ⟨x, y, r, rfl, ht⟩ := pLL_s ht
  intro ad H locs lsA e1 e2 e3 e4 hP hD hS hH hF hl hv
  have hx := okF_2nd hF
  have hy := okF_top hF
  have g := hn ls (.inl (cmL x y) :: r) h ht ad H locs lsA e1 e2 e3 e4 hP hD hS hH (okF_push (okF_pop (okF_pop hF)) (inR_cm x y)) hl hv
  refine W.lcmp F.1 F.2.1 hd ?_
  rw [i64_cmp hx hy]
  exact g
theorem sl_i2b {xs : Nat → Int32} {SL : Nat} {md : MD} {lc lz pc : Nat} {nx : TT} (hd : decode md.2.1 pc = .ok (.i2b, 1)) (hn : SnL xs SL md lc lz (pc + 1) nx) : SnL xs SL md lc lz pc (tt_i2b nx) := by
  intro p l e s m args below meth c D dA A mc ms c0 z0 ad0 n0 post Q F L HR EX K hK ls st h ht
  have hn := hn p l e s m args below meth c D dA A mc ms c0 z0 ad0 n0 post Q F L HR EX K hK
  obtain ⟨x, r, rfl, ht⟩ := pI_s ht
  intro ad H locs lsA e1 e2 e3 e4 hP hD hS hH hF hl hv
  have hx := okF_top hF
  have g := hn ls (.inl (bm x) :: r) h ht ad H locs lsA e1 e2 e3 e4 hP hD hS hH (okF_push (okF_pop hF) (inR_bm x)) hl hv
  exact lv_i2b F.1 F.2.1 hd (i32_i2b hx) g
theorem sl_i2l {xs : Nat → Int32} {SL : Nat} {md : MD} {lc lz pc : Nat} {nx : TT} (hd : decode md.2.1 pc = .ok (.i2l, 1)) (hn : SnL xs SL md lc lz (pc + 1) nx) : SnL xs SL md lc lz pc (tt_i2l nx) := by
  intro p l e s m args below meth c D dA A mc ms c0 z0 ad0 n0 post Q F L HR EX K hK ls st h ht
  have hn := hn p l e s m args below meth c D dA A mc ms c0 z0 ad0 n0 post Q F L HR EX K hK
  obtain ⟨x, r, rfl, ht⟩ := pI_s ht
  intro ad H locs lsA e1 e2 e3 e4 hP hD hS hH hF hl hv
  have hx := okF_top hF
  have g := hn ls (.inr (.inr x) :: r) h ht ad H locs lsA e1 e2 e3 e4 hP hD hS hH (okF_push (okF_pop hF) (inL_R hx)) hl hv
  exact lv_i2l F.1 F.2.1 hd (i64_i2l hx) g
theorem sl_l2i {xs : Nat → Int32} {SL : Nat} {md : MD} {lc lz pc : Nat} {nx : TT} (hd : decode md.2.1 pc = .ok (.l2i, 1)) (hn : SnL xs SL md lc lz (pc + 1) nx) : SnL xs SL md lc lz pc (tt_l2i nx) := by
  intro p l e s m args below meth c D dA A mc ms c0 z0 ad0 n0 post Q F L HR EX K hK ls st h ht
  have hn := hn p l e s m args below meth c D dA A mc ms c0 z0 ad0 n0 post Q F L HR EX K hK
  obtain ⟨x, r, rfl, hc, ht⟩ := pL_s ht
  intro ad H locs lsA e1 e2 e3 e4 hP hD hS hH hF hl hv
  have hx := okF_top hF
  have g := hn ls (.inl x :: r) h ht ad H locs lsA e1 e2 e3 e4 hP hD hS hH (okF_push (okF_pop hF) hc) hl hv
  exact lv_l2i F.1 F.2.1 hd (i32_l2i hc) g
def swL (xs : Nat → Int32) (SL : Nat) (md : MD) (lc lz pc : Nat) : List Int → List TT → Prop
  | [], [] => True
  | off :: os, t :: ts => (∃ tg : Nat, (pc : Int) + off = (tg : Int) ∧ SnL xs SL md lc lz tg t) ∧ swL xs SL md lc lz pc os ts
  | _, _ => False
theorem swL_at {xs : Nat → Int32} {SL : Nat} {md : MD} {lc lz pc : Nat} {os : List Int} {ts : List TT} (h : swL xs SL md lc lz pc os ts) : ∀ (i : Nat) (t : TT), ts[i]? = some t → ∃ (off : Int) (tg : Nat), os[i]? = some off ∧ (pc : Int) + off = (tg : Int) ∧ SnL xs SL md lc lz tg t := by
  induction os generalizing ts with
  | nil => cases ts with
    | nil => intro i t h1; simp at h1
    | cons t ts => exact h.elim
  | cons u os ih => cases ts with
    | nil => exact h.elim
    | cons v ts =>
      intro i t h1
      cases i with
      | zero =>
        obtain ⟨tg, a, b⟩ := h.1
        simp at h1
        exact ⟨u, tg, rfl, a, h1 ▸ b⟩
      | succ i => obtain ⟨off, tg, a, b⟩ := ih h.2 i t (by simpa using h1); exact ⟨off, tg, by simpa using a, b⟩
theorem sl_sw {xs : Nat → Int32} {SL : Nat} {md : MD} {lc lz pc : Nat} {dflt lo hi : Int} {os : List Int} {len tgd : Nat} {ts : List TT} {d : TT} (hd : decode md.2.1 pc = .ok (.tableswitch dflt lo hi os.toArray, len)) (hhi : hi = lo + ts.length - 1) (hS : swL xs SL md lc lz pc os ts) (hg : (pc : Int) + dflt = (tgd : Int)) (hn : SnL xs SL md lc lz tgd d) : SnL xs SL md lc lz pc (tt_sw lo ts d) := by
  intro p l e s m args below meth c D dA A mc ms c0 z0 ad0 n0 post Q F L HR EX K hK ls st h ht
  have hn := hn p l e s m args below meth c D dA A mc ms c0 z0 ad0 n0 post Q F L HR EX K hK
  obtain ⟨x, r, rfl, ht⟩ := pI_s ht
  intro ad H locs lsA e1 e2 e3 e4 hP hD hS' hH hF hl hv
  have hx : inR x := okF_top hF
  have ex : (Int32.ofInt x).toInt = x := i32_toInt hx
  by_cases q : x < lo ∨ lo + ts.length ≤ x
  · exact lv_tableOut F.1 F.2.1 hd (by rw [ex, hhi]; omega) hg (hn ls r h (ht.2 q) ad H locs lsA e1 e2 e3 e4 hP hD hS' hH (okF_pop hF) hl hv)
  · have hi1 : (x - lo).toNat < ts.length := by omega
    have h1 : ts[(x - lo).toNat]? = some ts[(x - lo).toNat] := List.getElem?_eq_getElem hi1
    obtain ⟨off, tg, a, b, g⟩ := swL_at hS _ _ h1
    have g := g p l e s m args below meth c D dA A mc ms c0 z0 ad0 n0 post Q F L HR EX K hK ls r h (swG_at ht.1 _ _ h1 (by omega)) ad H locs lsA e1 e2 e3 e4 hP hD hS' hH (okF_pop hF) hl hv
    exact lv_tableIn F.1 F.2.1 hd (by rw [ex]; omega) (by rw [ex, hhi]; omega) (by rw [ex]; simpa using a) b g
theorem sl_ir {xs : Nat → Int32} {SL : Nat} {md : MD} {lc lz pc : Nat} (hd : decode md.2.1 pc = .ok (.ireturn, 1)) (hr : md.2.2.2.1 = some .int) : SnL xs SL md lc lz pc tt_ir := by
  intro p l e s m args below meth c D dA A mc ms c0 z0 ad0 n0 post Q F L HR EX K hK ls st h ht
  obtain ⟨x, r, rfl, rfl, ht2⟩ := pI_s ht
  exact HR pc ls (some (.inl x)) h (Or.inr (Or.inl ⟨x, rfl, hd, Or.inl hr⟩)) ht2
theorem sl_zr {xs : Nat → Int32} {SL : Nat} {md : MD} {lc lz pc : Nat} (hd : decode md.2.1 pc = .ok (.ireturn, 1)) (hr : md.2.2.2.1 = some .boolean) : SnL xs SL md lc lz pc tt_zr := by
  intro p l e s m args below meth c D dA A mc ms c0 z0 ad0 n0 post Q F L HR EX K hK ls st h ht
  obtain ⟨x, r, rfl, rfl, hz, ht⟩ := pI_s ht
  exact HR pc ls (some (.inl x)) h (Or.inr (Or.inl ⟨x, rfl, hd, Or.inr (Or.inl ⟨hr, hz⟩)⟩)) ht
theorem sl_br {xs : Nat → Int32} {SL : Nat} {md : MD} {lc lz pc : Nat} (hd : decode md.2.1 pc = .ok (.ireturn, 1)) (hr : md.2.2.2.1 = some .byte) : SnL xs SL md lc lz pc tt_br := by
  intro p l e s m args below meth c D dA A mc ms c0 z0 ad0 n0 post Q F L HR EX K hK ls st h ht
  obtain ⟨x, r, rfl, rfl, h0, h1, ht⟩ := pI_s ht
  exact HR pc ls (some (.inl x)) h (Or.inr (Or.inl ⟨x, rfl, hd, Or.inr (Or.inr ⟨hr, h0, h1⟩)⟩)) ht
theorem sl_lr {xs : Nat → Int32} {SL : Nat} {md : MD} {lc lz pc : Nat} (hd : decode md.2.1 pc = .ok (.lreturn, 1)) (hr : md.2.2.2.1 = some .long) : SnL xs SL md lc lz pc tt_lr := by
  intro p l e s m args below meth c D dA A mc ms c0 z0 ad0 n0 post Q F L HR EX K hK ls st h ht
  obtain ⟨x, r, rfl, rfl, ht2⟩ := pL_s ht
  exact HR pc ls (some (.inr (.inr x))) h (Or.inr (Or.inr (Or.inl ⟨x, rfl, hd, hr⟩))) ht2
theorem sl_ar {xs : Nat → Int32} {SL : Nat} {md : MD} {lc lz pc : Nat} {n : String} (hd : decode md.2.1 pc = .ok (.areturn, 1)) (hr : md.2.2.2.1 = some (.object n)) : SnL xs SL md lc lz pc tt_ar := by
  intro p l e s m args below meth c D dA A mc ms c0 z0 ad0 n0 post Q F L HR EX K hK ls st h ht
  obtain ⟨x, r, rfl, rfl, ht2⟩ := pO_s ht
  exact HR pc ls (some (.inr (.inl x))) h (Or.inr (Or.inr (Or.inr ⟨x, rfl, hd, n, hr⟩))) ht2
theorem sl_vr {xs : Nat → Int32} {SL : Nat} {md : MD} {lc lz pc : Nat} (hd : decode md.2.1 pc = .ok (.return_, 1)) (hr : md.2.2.2.1 = none) : SnL xs SL md lc lz pc tt_vr := by
  intro p l e s m args below meth c D dA A mc ms c0 z0 ad0 n0 post Q F L HR EX K hK ls st h ht
  obtain ⟨rfl, ht⟩ := ht
  exact HR pc ls none h (Or.inl ⟨rfl, hr, hd⟩) ht
theorem sl_cW {xs : Nat → Int32} {SL : Nat} {md : MD} {lc lz pc : Nat} {y : MethodName} {mdY : MD} {idx ci n : Nat} {mc ms : List PV → Nat} {Ct : CtT} {nx : TT} (hM : MetP y mdY mc ms Ct) (mi : MI y mdY n) (hi : Cond.instanceMethod y ∈ gw) (hs : Cond.selects y.cls y y ∈ gw) (hlk : Cond.methodLink md.1 idx y ∈ gw) (hc : (classes[ci]?).map (fun q => q.1) = some y.cls) (hrm : rmOK md mdY = true)
    (hd : decode md.2.1 pc = .ok (.invokevirtual idx, 3)) (hn : SnL xs SL md lc lz (pc + 3) nx) : SnL xs SL md lc lz pc (tt_cW ci (n + 1) mc ms lc lz Ct nx) := by
  intro p l e s m args below meth c D dA A mc' ms' c0 z0 ad0 n0 post Q F L HR EX K hK ls st h ht
  have hn := hn p l e s m args below meth c D dA A mc' ms' c0 z0 ad0 n0 post Q F L HR EX K hK
  obtain ⟨hlen, h4, hrc, hc1, hz1, hct⟩ := ht
  obtain ⟨a, ps, hav, ⟨ha, hsh⟩⟩ := rcv_s hrc
  intro ad H locs lsA e1 e2 e3 e4 hP hD hS hH hF hl hv
  have hrest : ∀ v ∈ st.drop (n + 1), okV (hN h) v := fun v q => hF.2 v (List.mem_of_mem_drop q)
  have hav' : ∀ v ∈ (st.take (n + 1)).reverse, okV (hN h) v := fun v q => hF.2 v (List.mem_of_mem_take (List.mem_reverse.mp q))
  have hM1 := hM l D dA ad h H.size (st.take (n + 1)).reverse _ hct hH hav'
  obtain ⟨q, hq1, hq2⟩ : ∃ q, classes[ci]? = some q ∧ q.1 = y.cls := by
    cases hx : classes[ci]? with
    | none => rw [hx] at hc; cases hc
    | some q => rw [hx] at hc; exact ⟨q, rfl, Option.some.inj hc⟩
  have hw := wo_get (dA := dA) (ad := ad) ha
  rw [cE_obj hsh] at hw
  have hrv := va_recv F.2.2.2.2.2.2.2.1 hP hq1 hw
  rw [hq2] at hrv
  have hlps : ps.length = n := by
    have := congrArg List.length hav
    rw [List.length_reverse, List.length_take] at this
    simp at this
    omega
  rw [hav] at hM1 hc1 hz1
  refine W.back (post := fun r h' => nx K post ls (r.toList ++ st.drop (n + 1)) h') (cy := mc (.inr (.inl (some a)) :: ps)) (sy := ms (.inr (.inl (some a)) :: ps)) (rest := st.drop (n + 1)) F.2.2.2.2.2.2.2.2.1 e1 e2 e3 e4 hD hS hF hrest hl hv (by omega) (by omega) ?_ (fun r h' hp => hn ls _ h' hp)
  refine va_runV (C := y.cls) (b := ad a) (As := ps.map (dV ad)) (nL := md.2.2.1) (n := n) ⟨F.1, F.2.1, F.2.2.1, F.2.2.2.2.2.1, F.2.2.2.2.2.2.1⟩ hM1 ⟨callB_of n F.2.2.2.2.2.2.1 (good_ws mi.2.1) rfl rfl rfl (F.2.2.2.2.2.2.1 _ mi.2.2.1) (F.2.2.2.2.2.2.1 _ hlk) mi.2.2.2 (rmOK_s hrm), F.2.2.2.2.2.2.1 _ hi, F.2.2.2.2.2.2.1 _ hs⟩ ⟨pc_blind, hrv, fun U hU hW => ⟨rfl, by rw [hU], by rw [hU]; exact hP, va_K.moved hW.alike F.2.2.2.2.2.2.2.1, hD.weaken (fun _ _ _ _ => trivial), va_AO.moved hW.alike F.2.2.2.2.2.2.2.2.2.2⟩⟩ rfl (by rw [List.length_map]; exact hlps) hv.1 ?_ (lv_room (sum8 h4)) hd ⟨by show hC h - c0 + _ ≤ mc'; omega, by show hZ h - z0 + _ ≤ ms'; omega⟩
  show st.map (dV ad) = _
  rw [take_map (n := n + 1), hav]
  simp [dV, va_rf]
theorem sl_cV {xs : Nat → Int32} {SL : Nat} {md : MD} {lc lz pc : Nat} {y : MethodName} {mdY : MD} {idx ci n : Nat} {Ct : CtT} {nx : TT} (hM : MetP y mdY (fun _ => 0) (fun _ => 0) Ct) (mi : MI y mdY n) (hi : Cond.instanceMethod y ∈ gw) (hs : Cond.selects y.cls y y ∈ gw) (hlk : Cond.methodLink md.1 idx y ∈ gw) (hc : (classes[ci]?).map (fun q => q.1) = some y.cls) (hrm : rmOK md mdY = true)
    (hd : decode md.2.1 pc = .ok (.invokevirtual idx, 3)) (hn : SnL xs SL md lc lz (pc + 3) nx) : SnL xs SL md lc lz pc (tt_cV ci (n + 1) Ct nx) := by
  intro p l e s m args below meth c D dA A mc' ms' c0 z0 ad0 n0 post Q F L HR EX K hK ls st h ht
  have hn := hn p l e s m args below meth c D dA A mc' ms' c0 z0 ad0 n0 post Q F L HR EX K hK
  obtain ⟨hlen, h4, hrc, hct⟩ := ht
  obtain ⟨a, ps, hav, ⟨ha, hsh⟩⟩ := rcv_s hrc
  intro ad H locs lsA e1 e2 e3 e4 hP hD hS hH hF hl hv
  have hrest : ∀ v ∈ st.drop (n + 1), okV (hN h) v := fun v q => hF.2 v (List.mem_of_mem_drop q)
  have hav' : ∀ v ∈ (st.take (n + 1)).reverse, okV (hN h) v := fun v q => hF.2 v (List.mem_of_mem_take (List.mem_reverse.mp q))
  have hM1 := hM l D dA ad h H.size (st.take (n + 1)).reverse _ hct hH hav'
  obtain ⟨q, hq1, hq2⟩ : ∃ q, classes[ci]? = some q ∧ q.1 = y.cls := by
    cases hx : classes[ci]? with
    | none => rw [hx] at hc; cases hc
    | some q => rw [hx] at hc; exact ⟨q, rfl, Option.some.inj hc⟩
  have hw := wo_get (dA := dA) (ad := ad) ha
  rw [cE_obj hsh] at hw
  have hrv := va_recv F.2.2.2.2.2.2.2.1 hP hq1 hw
  rw [hq2] at hrv
  have hlps : ps.length = n := by
    have := congrArg List.length hav
    rw [List.length_reverse, List.length_take] at this
    simp at this
    omega
  rw [hav] at hM1
  refine W.back (post := fun r h' => nx K post ls (r.toList ++ st.drop (n + 1)) h') (cy := 0) (sy := 0) (rest := st.drop (n + 1)) F.2.2.2.2.2.2.2.2.1 e1 e2 e3 e4 hD hS hF hrest hl hv (by omega) (by omega) ?_ (fun r h' hp => hn ls _ h' hp)
  refine va_runV (C := y.cls) (b := ad a) (As := ps.map (dV ad)) (nL := md.2.2.1) (n := n) ⟨F.1, F.2.1, F.2.2.1, F.2.2.2.2.2.1, F.2.2.2.2.2.2.1⟩ hM1 ⟨callB_of n F.2.2.2.2.2.2.1 (good_ws mi.2.1) rfl rfl rfl (F.2.2.2.2.2.2.1 _ mi.2.2.1) (F.2.2.2.2.2.2.1 _ hlk) mi.2.2.2 (rmOK_s hrm), F.2.2.2.2.2.2.1 _ hi, F.2.2.2.2.2.2.1 _ hs⟩ ⟨pc_blind, hrv, fun U hU hW => ⟨rfl, by rw [hU], by rw [hU]; exact hP, va_K.moved hW.alike F.2.2.2.2.2.2.2.1, hD.weaken (fun _ _ _ _ => trivial), va_AO.moved hW.alike F.2.2.2.2.2.2.2.2.2.2⟩⟩ rfl (by rw [List.length_map]; exact hlps) hv.1 ?_ (lv_room (sum8 h4)) hd ⟨by show hC h - c0 + 0 ≤ mc'; omega, by show hZ h - z0 + 0 ≤ ms'; omega⟩
  show st.map (dV ad) = _
  rw [take_map (n := n + 1), hav]
  simp [dV, va_rf]
theorem sl_cS {xs : Nat → Int32} {SL : Nat} {md : MD} {lc lz pc : Nat} {y : MethodName} {mdY : MD} {idx n : Nat} {Ct : CtT} {nx : TT} (hM : MetP y mdY (fun _ => 0) (fun _ => 0) Ct) (mi : MI y mdY n) (hs : Cond.static y ∈ gw) (hlk : Cond.methodLink md.1 idx y ∈ gw) (hrm : rmOK md mdY = true)
    (hd : decode md.2.1 pc = .ok (.invokestatic idx, 3)) (hn : SnL xs SL md lc lz (pc + 3) nx) : SnL xs SL md lc lz pc (tt_cS n Ct nx) := by
  intro p l e s m args below meth c D dA A mc' ms' c0 z0 ad0 n0 post Q F L HR EX K hK ls st h ht
  have hn := hn p l e s m args below meth c D dA A mc' ms' c0 z0 ad0 n0 post Q F L HR EX K hK
  obtain ⟨hlen, h4, hct⟩ := ht
  intro ad H locs lsA e1 e2 e3 e4 hP hD hS hH hF hl hv
  have hrest : ∀ v ∈ st.drop n, okV (hN h) v := fun v q => hF.2 v (List.mem_of_mem_drop q)
  have hav' : ∀ v ∈ (st.take n).reverse, okV (hN h) v := fun v q => hF.2 v (List.mem_of_mem_take (List.mem_reverse.mp q))
  have hM1 := hM l D dA ad h H.size (st.take n).reverse _ hct hH hav'
  refine W.back (post := fun r h' => nx K post ls (r.toList ++ st.drop n) h') (cy := 0) (sy := 0) (rest := st.drop n) F.2.2.2.2.2.2.2.2.1 e1 e2 e3 e4 hD hS hF hrest hl hv (by omega) (by omega) ?_ (fun r h' hp => hn ls _ h' hp)
  refine va_runS (As := (st.take n).reverse.map (dV ad)) (nL := md.2.2.1) (n := n) ⟨F.1, F.2.1, F.2.2.1, F.2.2.2.2.2.1, F.2.2.2.2.2.2.1⟩ hM1 ⟨callB_of n F.2.2.2.2.2.2.1 (good_ws mi.2.1) rfl rfl rfl (F.2.2.2.2.2.2.1 _ mi.2.2.1) (F.2.2.2.2.2.2.1 _ hlk) mi.2.2.2 (rmOK_s hrm), F.2.2.2.2.2.2.1 _ hs⟩ ⟨pc_blind, fun U hU hW => ⟨rfl, by rw [hU], by rw [hU]; exact hP, va_K.moved hW.alike F.2.2.2.2.2.2.2.1, hD.weaken (fun _ _ _ _ => trivial), va_AO.moved hW.alike F.2.2.2.2.2.2.2.2.2.2⟩⟩ rfl (by simp; omega) hv.1 ?_ (lv_room (sum8 h4)) hd ⟨by show hC h - c0 + 0 ≤ mc'; omega, by show hZ h - z0 + 0 ≤ ms'; omega⟩
  exact take_map
theorem sl_new {xs : Nat → Int32} {SL : Nat} {md : MD} {lc lz pc : Nat} {idx ci : Nat} {nx : TT} (cd : CD md.1 idx ci) (hd : decode md.2.1 pc = .ok (.new idx, 3)) (hn : SnL xs SL md lc lz (pc + 3) nx) : SnL xs SL md lc lz pc (tt_new ci lc lz nx) := by
  intro p l e s m args below meth c D dA A mc ms c0 z0 ad0 n0 post Q F L HR EX K hK ls st h ht
  have hn := hn p l e s m args below meth c D dA A mc ms c0 z0 ad0 n0 post Q F L HR EX K hK
  obtain ⟨hsh, h1k, hc1, hz1, ht⟩ := ht
  intro ad H locs lsA e1 e2 e3 e4 hP hD hS hH hF hl hv
  obtain ⟨C, T, hc, hin, hty, hcl, hit, hini, hdef⟩ := cd
  refine va_new (own := md.1) (ci := ci) (fs := (List.range (nF ci)).map (fun j => if isRf (tyF ci j) then .null else .int 0)) F.1 F.2.1 F.2.2.2.2.2.2.1 hin (tyF ci) hty F.2.2.2.2.2.1 (F.2.2.2.2.2.2.1 _ hcl) (F.2.2.2.2.2.2.1 _ hit) (F.2.2.2.2.2.2.1 _ hini) F.2.2.2.2.2.2.2.1 hP hD hS F.2.2.2.2.2.2.2.2.1 hc (fun j hj => ?_) (by show hC h - c0 + 1 ≤ mc; omega) (by show hZ h - z0 + _ ≤ ms; omega) hd (fun q H1 hP' hD' hS' => ?_)
  · rw [hdef j hj]
    simp [vp_V, List.getD_eq_getElem?_getD, List.getElem?_range hj]
  · have hcell : cE dA (adN ad (hN h) q) (nC h (nF ci)) (hN h) = .inr (ci, (List.range (nF ci)).map (fun j => if isRf (tyF ci j) then .null else .int 0)) := by
      rw [cE_obj hsh]
      congr 2
      refine List.map_congr_left (fun j _ => ?_)
      unfold fV
      rw [gI_nC, gR_nC, if_pos rfl, if_pos rfl]
      rfl
    rw [wo_new hH hcell] at hP' hD'
    have hsc : hN h < SC := by unfold SC; omega
    have g := hn ls (.inr (.inl (some (hN h))) :: st) (nC h (nF ci)) ht (adN ad (hN h) q) H1 locs lsA (fun k hk => (adN_agree hsc k (okP_le hk e2)).trans (e1 k hk)) (by show n0 ≤ hN h + 1; omega) ⟨by show c0 ≤ hC h + 1; omega, by show hC h + 1 ≤ c0 + mc; omega⟩ ⟨by show z0 ≤ hZ h + _; omega, by show hZ h + _ ≤ z0 + ms; omega⟩ hP' hD' hS' (okH_nC hH _) (okF_new hF) hl (by rw [lD_agree hF.1 (adN_agree hsc)]; exact hv)
    have ec : hC (nC h (nF ci)) - c0 = hC h - c0 + 1 := by show hC h + 1 - c0 = _; omega
    have ez : hZ (nC h (nF ci)) - z0 = hZ h - z0 + nF ci := by show hZ h + _ - z0 = _; omega
    have es : (Sum.inr (Sum.inl (some (hN h))) :: st : List PV).map (dV (adN ad (hN h) q)) = Value.ref q :: st.map (dV ad) := by
      rw [List.map_cons, map_agree hF.2 (adN_agree hsc)]
      show Value.ref (adN ad (hN h) q (hN h)) :: _ = _
      rw [show adN ad (hN h) q (hN h) = q from if_pos rfl]
    rw [ec, ez, es] at g
    exact g
theorem sl_na {xs : Nat → Int32} {SL : Nat} {md : MD} {lc lz pc t : Nat} {at_ : ArrayType} {ty : FieldType} {nx : TT} (hd : decode md.2.1 pc = .ok (.newarray at_, 2)) (hat : newarray.typeOf at_ = ty) (hw : Cond.arrayClass ty ∈ gw) (h3 : t ≠ 3) (h4 : t ≠ 4) (hT : ∀ dA : Nat → ClassId, (tysOf dA)[t]? = some (dA t, ty)) (hdf : defaultValue ty = .int 0) (hcb : componentBytes ty ≤ 8) (hnr : ∀ C, ty ≠ .object C) (hn : SnL xs SL md lc lz (pc + 2) nx) : SnL xs SL md lc lz pc (tt_na t lc lz nx) := by
  subst hat
  intro p l e s m args below meth c D dA A mc ms c0 z0 ad0 n0 post Q F L HR EX K hK ls st h ht
  have hn := hn p l e s m args below meth c D dA A mc ms c0 z0 ad0 n0 post Q F L HR EX K hK
  obtain ⟨z, r, rfl, hz0, hz9, hsh, h1k, hc1, hz1, ht⟩ := pI_s ht
  intro ad H locs lsA e1 e2 e3 e4 hP hD hS hH hF hl hv
  have hzr : inR z := ⟨by omega, by omega⟩
  have hFr := okF_pop hF
  refine va_newa (a0 := (z.toNat, .inl (fun _ => 0))) F.1 F.2.1 (F.2.2.2.2.2.2.1 _ hw) rfl F.2.2.2.2.2.2.2.1 hP hD hS F.2.2.2.2.2.2.2.2.1 (fun cA => by rw [hdf]; rfl) (fun q => by have := (i32_lt hzr inR_0).mp q; omega) (i32_nat hzr) ?_ (by show hC h - c0 + 1 ≤ mc; omega) (by show hZ h - z0 + _ ≤ ms; omega) hd (fun q cA H1 hK' hP' hD' hS' => ?_)
  · calc z.toNat * componentBytes (newarray.typeOf at_) ≤ 100000 * 8 := Nat.mul_le_mul (by omega) hcb
      _ ≤ 536870912 := by decide
  · have hcA : cA = dA t := by
      have a1 := (hK'.2 5 (cA, newarray.typeOf at_) rfl).2
      have a2 := (F.2.2.2.2.2.2.2.1.2 t _ (hT dA)).2
      have hr : ∀ c1, va_RA s c1 (newarray.typeOf at_) → s.vm.findClass ("[" ++ (newarray.typeOf at_).toString) = some c1 := by
        intro c1 h1
        cases at_ <;> exact h1
      exact Option.some.inj ((hr _ a1).symm.trans (hr _ a2))
    subst hcA
    have hcell : cE dA (adN ad (hN h) q) (nC h z.toNat) (hN h) = .inl (dA t, z.toNat, .inl (fun _ => 0)) := by
      rw [cE_arr hsh h3 h4]
      congr 4
      funext j
      rw [gI_nC, if_pos rfl]
      rfl
    rw [wo_new hH hcell] at hP' hD'
    have hsc : hN h < SC := by unfold SC; omega
    have g := hn ls (.inr (.inl (some (hN h))) :: r) (nC h z.toNat) ht (adN ad (hN h) q) H1 locs lsA (fun k hk => (adN_agree hsc k (okP_le hk e2)).trans (e1 k hk)) (by show n0 ≤ hN h + 1; omega) ⟨by show c0 ≤ hC h + 1; omega, by show hC h + 1 ≤ c0 + mc; omega⟩ ⟨by show z0 ≤ hZ h + _; omega, by show hZ h + _ ≤ z0 + ms; omega⟩ hP' hD' hS' (okH_nC hH _) (okF_new hFr) hl (by rw [lD_agree hF.1 (adN_agree hsc)]; exact hv)
    have ec : hC (nC h z.toNat) - c0 = hC h - c0 + 1 := by show hC h + 1 - c0 = _; omega
    have ez : hZ (nC h z.toNat) - z0 = hZ h - z0 + z.toNat := by show hZ h + _ - z0 = _; omega
    have es : (Sum.inr (Sum.inl (some (hN h))) :: r : List PV).map (dV (adN ad (hN h) q)) = Value.ref q :: r.map (dV ad) := by
      rw [List.map_cons, map_agree hFr.2 (adN_agree hsc)]
      show Value.ref (adN ad (hN h) q (hN h)) :: _ = _
      rw [show adN ad (hN h) q (hN h) = q from if_pos rfl]
    rw [ec, ez, es] at g
    exact g
theorem sl_nq {xs : Nat → Int32} {SL : Nat} {md : MD} {lc lz pc idx : Nat} {nx : TT} (hd : decode md.2.1 pc = .ok (.anewarray idx, 3)) (hlk : Cond.classLink md.1 idx "CosetHouse$Word" ∈ gw) (hn : SnL xs SL md lc lz (pc + 3) nx) : SnL xs SL md lc lz pc (tt_nq lc lz nx) := by
  intro p l e s m args below meth c D dA A mc ms c0 z0 ad0 n0 post Q F L HR EX K hK ls st h ht
  have hn := hn p l e s m args below meth c D dA A mc ms c0 z0 ad0 n0 post Q F L HR EX K hK
  obtain ⟨z, r, rfl, hz0, hz9, hsh, h1k, hc1, hz1, ht⟩ := pI_s ht
  intro ad H locs lsA e1 e2 e3 e4 hP hD hS hH hF hl hv
  have hzr : inR z := ⟨by omega, by omega⟩
  have hFr := okF_pop hF
  refine va_newq (C := "CosetHouse$Word") F.1 F.2.1 F.2.2.2.2.2.1 (F.2.2.2.2.2.2.1 _ hlk) F.2.2.2.2.2.2.2.2.2.2 F.2.2.2.2.2.2.2.1 hP hD hS F.2.2.2.2.2.2.2.2.1 (fun q => by have := (i32_lt hzr inR_0).mp q; omega) (i32_nat hzr) (by omega) (by show hC h - c0 + 1 ≤ mc; omega) (by show hZ h - z0 + _ ≤ ms; omega) hd (fun q cA H1 hK' hP' hD' hS' => ?_)
  · have hcA : cA = dA 4 := by
      obtain ⟨_, _, -, -, -, a1⟩ := (hK'.2 5 (cA, .object "CosetHouse$Word") rfl).2
      obtain ⟨_, _, -, -, -, a2⟩ := (F.2.2.2.2.2.2.2.1.2 4 (dA 4, .object "CosetHouse$Word") rfl).2
      exact Option.some.inj (a1.symm.trans a2)
    subst hcA
    have hcell : cE dA (adN ad (hN h) q) (nC h z.toNat) (hN h) = .inl (dA 4, z.toNat, .inr (.inr (.inr (.inr (fun _ => none))))) := by
      rw [cE_ref hsh]
      congr 7
      funext j
      rw [gR_nC, if_pos rfl]
      rfl
    rw [wo_new hH hcell] at hP' hD'
    have hsc : hN h < SC := by unfold SC; omega
    have g := hn ls (.inr (.inl (some (hN h))) :: r) (nC h z.toNat) ht (adN ad (hN h) q) H1 locs lsA (fun k hk => (adN_agree hsc k (okP_le hk e2)).trans (e1 k hk)) (by show n0 ≤ hN h + 1; omega) ⟨by show c0 ≤ hC h + 1; omega, by show hC h + 1 ≤ c0 + mc; omega⟩ ⟨by show z0 ≤ hZ h + _; omega, by show hZ h + _ ≤ z0 + ms; omega⟩ hP' hD' hS' (okH_nC hH _) (okF_new hFr) hl (by rw [lD_agree hF.1 (adN_agree hsc)]; exact hv)
    have ec : hC (nC h z.toNat) - c0 = hC h - c0 + 1 := by show hC h + 1 - c0 = _; omega
    have ez : hZ (nC h z.toNat) - z0 = hZ h - z0 + z.toNat := by show hZ h + _ - z0 = _; omega
    have es : (Sum.inr (Sum.inl (some (hN h))) :: r : List PV).map (dV (adN ad (hN h) q)) = Value.ref q :: r.map (dV ad) := by
      rw [List.map_cons, map_agree hFr.2 (adN_agree hsc)]
      show Value.ref (adN ad (hN h) q (hN h)) :: _ = _
      rw [show adN ad (hN h) q (hN h) = q from if_pos rfl]
    rw [ec, ez, es] at g
    exact g
theorem sl_oi {xs : Nat → Int32} {SL : Nat} {md : MD} {lc lz pc idx : Nat} {nx : TT} (hd : decode md.2.1 pc = .ok (.invokespecial idx, 3)) (hlk : Cond.methodLink md.1 idx Lib.objectInit ∈ gw) (hi : Cond.instanceMethod Lib.objectInit ∈ gw) (hcd : Cond.code Lib.objectInit ⟨#[0xb1]⟩ 1 none ∈ gw) (hrm : 1 ≤ md.2.2.2.2.1 ∧ 12 ≤ md.2.2.2.2.2.1) (hn : SnL xs SL md lc lz (pc + 3) nx) : SnL xs SL md lc lz pc (tt_oi nx) := by
  intro p l e s m args below meth c D dA A mc ms c0 z0 ad0 n0 post Q F L HR EX K hK ls st h ht
  have hn := hn p l e s m args below meth c D dA A mc ms c0 z0 ad0 n0 post Q F L HR EX K hK
  obtain ⟨a, r, rfl, rfl, ht2⟩ := pA_s ht
  intro ad H locs lsA e1 e2 e3 e4 hP hD hS hH hF hl hv
  exact W.objInit F.1 F.2.1 F.2.2.2.2.2.1 (F.2.2.2.2.2.2.1 _ hlk) (F.2.2.2.2.2.2.1 _ hi) (F.2.2.2.2.2.2.1 _ hcd) rfl (hv.1.trans F.2.2.1.symm) rfl hd hrm.1 (by show 2 * 0 + 0 + 12 ≤ _; exact hrm.2) (hn ls [] h ht2 ad H locs lsA e1 e2 e3 e4 hP hD hS hH (okF_pop hF) hl hv)
theorem sl_cI {xs : Nat → Int32} {SL : Nat} {md : MD} {lc lz pc : Nat} {y : MethodName} {mdY : MD} {idx n : Nat} {mc ms : List PV → Nat} {Ct : CtT} {nx : TT} (hM : MetP y mdY mc ms Ct) (mi : MI y mdY n) (hi : Cond.instanceMethod y ∈ gw) (hy1 : y.name = "<init>") (hret : mdY.2.2.2.1 = none) (hlk : Cond.methodLink md.1 idx y ∈ gw) (hrm : rmOK md mdY = true)
    (hd : decode md.2.1 pc = .ok (.invokespecial idx, 3)) (hn : SnL xs SL md lc lz (pc + 3) nx) : SnL xs SL md lc lz pc (tt_cI (n + 1) mc ms lc lz Ct nx) := by
  intro p l e s m args below meth c D dA A mc' ms' c0 z0 ad0 n0 post Q F L HR EX K hK ls st h ht
  have hn := hn p l e s m args below meth c D dA A mc' ms' c0 z0 ad0 n0 post Q F L HR EX K hK
  obtain ⟨hlen, h4, hrc, hc1, hz1, hct⟩ := ht
  obtain ⟨a, ps, hav, -⟩ := rcv_s hrc
  intro ad H locs lsA e1 e2 e3 e4 hP hD hS hH hF hl hv
  have hrest : ∀ v ∈ st.drop (n + 1), okV (hN h) v := fun v q => hF.2 v (List.mem_of_mem_drop q)
  have hav' : ∀ v ∈ (st.take (n + 1)).reverse, okV (hN h) v := fun v q => hF.2 v (List.mem_of_mem_take (List.mem_reverse.mp q))
  have hM1 := hM l D dA ad h H.size (st.take (n + 1)).reverse _ hct hH hav'
  have hlps : ps.length = n := by
    have := congrArg List.length hav
    rw [List.length_reverse, List.length_take] at this
    simp at this
    omega
  have mi2 := mi.2.1
  rw [hret] at hM1 mi2
  rw [hav] at hM1 hc1 hz1
  refine W.back (post := fun r h' => nx K post ls (r.toList ++ st.drop (n + 1)) h') (cy := mc (.inr (.inl (some a)) :: ps)) (sy := ms (.inr (.inl (some a)) :: ps)) (rest := st.drop (n + 1)) F.2.2.2.2.2.2.2.2.1 e1 e2 e3 e4 hD hS hF hrest hl hv (by omega) (by omega) ?_ (fun r h' hp => hn ls _ h' hp)
  refine va_runI (b := ad a) (As := ps.map (dV ad)) (nL := md.2.2.1) (n := n) ⟨F.1, F.2.1, F.2.2.1, F.2.2.2.2.2.1, F.2.2.2.2.2.2.1⟩ hM1 ⟨callB_of n F.2.2.2.2.2.2.1 (good_ws mi2) rfl rfl rfl (F.2.2.2.2.2.2.1 _ mi.2.2.1) (F.2.2.2.2.2.2.1 _ hlk) mi.2.2.2 (rmOK_s hrm), hy1, F.2.2.2.2.2.2.1 _ hi⟩ ⟨pc_blind, fun U hU hW => ⟨rfl, by rw [hU], by rw [hU]; exact hP, va_K.moved hW.alike F.2.2.2.2.2.2.2.1, hD.weaken (fun _ _ _ _ => trivial), va_AO.moved hW.alike F.2.2.2.2.2.2.2.2.2.2⟩⟩ rfl (by rw [List.length_map]; exact hlps) hv.1 ?_ (lv_room (sum8 h4)) hd ⟨by show hC h - c0 + _ ≤ mc'; omega, by show hZ h - z0 + _ ≤ ms'; omega⟩
  show st.map (dV ad) = _
  rw [take_map (n := n + 1), hav]
  simp [dV, va_rf]
theorem sl_min {xs : Nat → Int32} {SL : Nat} {md : MD} {lc lz pc idx : Nat} {nx : TT} (hd : decode md.2.1 pc = .ok (.invokestatic idx, 3)) (hlk : Cond.methodLink md.1 idx Lib.Math.min.name ∈ gw) (hst : Cond.static Lib.Math.min.name ∈ gw) (hini : Cond.initialized "java/lang/Math" ∈ gw) (hcd : Cond.code Lib.Math.min.name Lib.Math.min.code 2 (some .int) ∈ gw) (hrm : 1 ≤ md.2.2.2.2.1 ∧ 21 ≤ md.2.2.2.2.2.1) (hn : SnL xs SL md lc lz (pc + 3) nx) : SnL xs SL md lc lz pc (tt_min nx) := by
  intro p l e s m args below meth c D dA A mc ms c0 z0 ad0 n0 post Q F L HR EX K hK ls st h ht
  have hn := hn p l e s m args below meth c D dA A mc ms c0 z0 ad0 n0 post Q F L HR EX K hK
  obtain ⟨x, y, r, rfl, hr4, ht⟩ := pII_s ht
  intro ad H locs lsA e1 e2 e3 e4 hP hD hS hH hF hl hv
  have hx : inR x := okF_2nd hF
  have hy : inR y := okF_top hF
  have hm : inR (min x y) := by have a := hx.1; have b := hx.2; have c := hy.1; have d := hy.2; constructor <;> omega
  have g := hn ls (.inl (min x y) :: r) h ht ad H locs lsA e1 e2 e3 e4 hP hD hS hH (okF_push (okF_pop (okF_pop hF)) hm) hl hv
  refine va_mmin F.1 F.2.1 (F.2.2.1.trans hv.1.symm) F.2.2.2.2.2.1 (F.2.2.2.2.2.2.1 _ hlk) (F.2.2.2.2.2.2.1 _ hst) (F.2.2.2.2.2.2.1 _ hini) (F.2.2.2.2.2.2.1 _ hcd) hrm.1 (by have := sum8 (ad := ad) hr4; show _ + 13 ≤ md.2.2.2.2.2.1; omega) (by show hC h - c0 ≤ mc; omega) (by show hZ h - z0 ≤ ms; omega) hd ?_
  have em : (if Int32.ofInt y < Int32.ofInt x then Int32.ofInt y else Int32.ofInt x) = Int32.ofInt (min x y) := by
    simp only [i32_lt hy hx]
    split <;> (congr 1; omega)
  rw [em]
  exact g
theorem sl_max {xs : Nat → Int32} {SL : Nat} {md : MD} {lc lz pc idx : Nat} {nx : TT} (hd : decode md.2.1 pc = .ok (.invokestatic idx, 3)) (hlk : Cond.methodLink md.1 idx Lib.Math.max.name ∈ gw) (hst : Cond.static Lib.Math.max.name ∈ gw) (hini : Cond.initialized "java/lang/Math" ∈ gw) (hcd : Cond.code Lib.Math.max.name Lib.Math.max.code 2 (some .int) ∈ gw) (hrm : 1 ≤ md.2.2.2.2.1 ∧ 21 ≤ md.2.2.2.2.2.1) (hn : SnL xs SL md lc lz (pc + 3) nx) : SnL xs SL md lc lz pc (tt_max nx) := by
  intro p l e s m args below meth c D dA A mc ms c0 z0 ad0 n0 post Q F L HR EX K hK ls st h ht
  have hn := hn p l e s m args below meth c D dA A mc ms c0 z0 ad0 n0 post Q F L HR EX K hK
  obtain ⟨x, y, r, rfl, hr4, ht⟩ := pII_s ht
  intro ad H locs lsA e1 e2 e3 e4 hP hD hS hH hF hl hv
  have hx : inR x := okF_2nd hF
  have hy : inR y := okF_top hF
  have hm : inR (max x y) := by have a := hx.1; have b := hx.2; have c := hy.1; have d := hy.2; constructor <;> omega
  have g := hn ls (.inl (max x y) :: r) h ht ad H locs lsA e1 e2 e3 e4 hP hD hS hH (okF_push (okF_pop (okF_pop hF)) hm) hl hv
  refine va_mmax F.1 F.2.1 (F.2.2.1.trans hv.1.symm) F.2.2.2.2.2.1 (F.2.2.2.2.2.2.1 _ hlk) (F.2.2.2.2.2.2.1 _ hst) (F.2.2.2.2.2.2.1 _ hini) (F.2.2.2.2.2.2.1 _ hcd) hrm.1 (by have := sum8 (ad := ad) hr4; show _ + 13 ≤ md.2.2.2.2.2.1; omega) (by show hC h - c0 ≤ mc; omega) (by show hZ h - z0 ≤ ms; omega) hd ?_
  have em : (if Int32.ofInt x < Int32.ofInt y then Int32.ofInt y else Int32.ofInt x) = Int32.ofInt (max x y) := by
    simp only [i32_lt hx hy]
    split <;> (congr 1; omega)
  rw [em]
  exact g
theorem sl_acp {xs : Nat → Int32} {SL : Nat} {md : MD} {lc lz pc idx : Nat} {nx : TT} (hd : decode md.2.1 pc = .ok (.invokestatic idx, 3)) (hlk : Cond.methodLink md.1 idx arraycopyName ∈ gw) (hnt : Cond.native arraycopyName ∈ gw) (hst : Cond.static arraycopyName ∈ gw) (hini : Cond.initialized "java/lang/System" ∈ gw) (hrm : 1 ≤ md.2.2.2.2.1 ∧ 8 + (nativeFrameWords "java/lang/System" "arraycopy" 5 + 11) ≤ md.2.2.2.2.2.1) (hn : SnL xs SL md lc lz (pc + 3) nx) : SnL xs SL md lc lz pc (tt_acp nx) := by
  intro p l e s m args below meth c D dA A mc ms c0 z0 ad0 n0 post Q F L HR EX K hK ls st h ht
  have hn := hn p l e s m args below meth c D dA A mc ms c0 z0 ad0 n0 post Q F L HR EX K hK
  obtain ⟨b, sp, a, dp, n, r, rfl, ⟨hb, nb, hsb⟩, ⟨ha, na, hsa⟩, h0, h1, h2, h3, h4, hr4, ht⟩ := pCP_s ht
  intro ad H locs lsA e1 e2 e3 e4 hP hD hS hH hF hl hv
  rw [lnA_of hsb] at h3
  rw [lnA_of hsa] at h4
  have hn_ : inR n := okF_top hF
  have hd_ : inR dp := okF_2nd hF
  have hs_ : inR sp := okF_top (okF_pop (okF_pop (okF_pop hF)))
  have hwa := wo_get (dA := dA) (ad := ad) ha
  rw [cE_arr hsa (by decide) (by decide)] at hwa
  have hwb := wo_get (dA := dA) (ad := ad) hb
  rw [cE_arr hsb (by decide) (by decide)] at hwb
  have nn : ∀ {z : Int}, 0 ≤ z → inR z → ¬ Int32.ofInt z < 0 := fun h9 hz q => by have := (i32_lt hz inR_0).mp q; omega
  refine va_copyi (t0 := 0) (t1 := 0) (ty := .int) F.1 F.2.1 (F.2.2.1.trans hv.1.symm) F.2.2.2.2.2.1 (F.2.2.2.2.2.2.1 _ hlk) (F.2.2.2.2.2.2.1 _ hnt) (F.2.2.2.2.2.2.1 _ hst) (F.2.2.2.2.2.2.1 _ hini) F.2.2.2.2.2.2.2.1 hP hD hS b a hwb hwa rfl rfl rfl (nn h0 hs_) (nn h1 hd_) (nn h2 hn_) (by rw [i32_nat hs_, i32_nat hn_]; omega) (by rw [i32_nat hd_, i32_nat hn_]; omega) (fun _ _ => rfl) hrm.1 (by have := sum8 (ad := ad) hr4; have := hrm.2; show _ + _ ≤ md.2.2.2.2.2.1; omega) hd (fun H' locs' hP' hD' hS' => ?_)
  have hset : (wo dA ad h).set a (ad a, .inl (dA 0, na, .inl (va_cpy (fun i : Nat => Int32.ofInt (gI h b i)) (fun i : Nat => Int32.ofInt (gI h a i)) (Int32.ofInt sp).toNatClampNeg (Int32.ofInt dp).toNatClampNeg (Int32.ofInt n).toNatClampNeg))) = wo dA ad (sA h a (cpF h b sp a dp n)) := by
    refine wo_set ha rfl ?_ (fun q hq => cE_same (fun j => by rw [gI_sA, if_neg hq]) (fun _ => rfl))
    rw [cE_arr hsa (by decide) (by decide)]
    congr 4
    funext j
    rw [i32_nat hs_, i32_nat hd_, i32_nat hn_, gI_sA, if_pos rfl]
    unfold va_cpy cpF
    by_cases q : dp ≤ (j : Int) ∧ (j : Int) < dp + n
    · rw [if_pos q, if_pos (by omega)]
      congr 2
      omega
    · rw [if_neg q, if_neg (by omega)]
  rw [hset] at hP' hD'
  have hF5 := okF_pop (okF_pop (okF_pop (okF_pop (okF_pop hF))))
  exact hn ls r (sA h a (cpF h b sp a dp n)) ht ad H' locs' lsA e1 e2 e3 e4 hP' hD' hS' (okH_sA hH (isLg_arr hsa (by decide)) (fun j => by unfold cpF; split; exact okH_int hH (isLg_arr hsb (by decide)) _; exact okH_int hH (isLg_arr hsa (by decide)) _)) hF5 hl hv
theorem floydL {xs : Nat → Int32} {SL : Nat} {md : MD} {lc lz : Nat} {cs : List (Nat × TT)} (hs : ∀ q ∈ cs, SnL xs SL md lc lz q.1 q.2) {p : Program} {l : Launch} {e : Env} {s : State} {m : MethodId} {args : Array Value} {below : List Frame} {meth : Method} {c : Code} {D : va_G} {dA : Nat → ClassId} {A : Nat → Prop} {mc ms c0 z0 : Nat} {ad0 : Nat → Nat} {n0 : Nat} {post : TR} {Q : State → Prop}
    (F : Fx md p s m args meth c D dA A) (L : lc ≤ c0 + mc ∧ lz ≤ z0 + ms) (HR : ∀ pc ls r h, isRet md pc r → post r h → Wm md p l e s m args below meth c D dA A mc ms c0 z0 ad0 n0 Q pc ls r.toList h) (EX : EXL xs SL l s args A ad0)
    {I : Nat → LSt → PH → Prop} {μ : Nat → LSt → PH → Nat} (hI : ∀ pc ls h, I pc ls h → ∃ q ∈ cs, q.1 = pc) (hv : ∀ q ∈ cs, ∀ ls h, I q.1 ls h → q.2 (fun pc' ls' h' => I pc' ls' h' ∧ μ pc' ls' h' < μ q.1 ls h) post ls [] h) :
    ∀ (n pc : Nat) (ls : LSt) (h : PH), μ pc ls h < n → I pc ls h → Wm md p l e s m args below meth c D dA A mc ms c0 z0 ad0 n0 Q pc ls [] h := by
  intro n
  induction n with
  | zero => intro pc ls h h1; omega
  | succ n ih =>
    intro pc ls h h1 h2
    obtain ⟨q, hq, rfl⟩ := hI pc ls h h2
    refine hs q hq p l e s m args below meth c D dA A mc ms c0 z0 ad0 n0 post Q F L HR EX (fun pc' ls' h' => I pc' ls' h' ∧ μ pc' ls' h' < μ q.1 ls h) (fun pc' ls' h' hk => ih pc' ls' h' (by omega) hk.1) ls [] h (hv q hq ls h h2)
theorem sl_nal {xs : Nat → Int32} {SL : Nat} {md : MD} {lc lz pc : Nat} {nx : TT} (hd : decode md.2.1 pc = .ok (.newarray .long, 2)) (hw : Cond.arrayClass .long ∈ gw) (hn : SnL xs SL md lc lz (pc + 2) nx) : SnL xs SL md lc lz pc (tt_na 3 lc lz nx) := by
  intro p l e s m args below meth c D dA A mc ms c0 z0 ad0 n0 post Q F L HR EX K hK ls st h ht
  have hn := hn p l e s m args below meth c D dA A mc ms c0 z0 ad0 n0 post Q F L HR EX K hK
  obtain ⟨z, r, rfl, hz0, hz9, hsh, h1k, hc1, hz1, ht⟩ := pI_s ht
  intro ad H locs lsA e1 e2 e3 e4 hP hD hS hH hF hl hv
  have hzr : inR z := ⟨by omega, by omega⟩
  have hFr := okF_pop hF
  refine va_newa (atype := .long) (a0 := (z.toNat, .inr (.inl (fun _ => 0)))) F.1 F.2.1 (F.2.2.2.2.2.2.1 _ hw) rfl F.2.2.2.2.2.2.2.1 hP hD hS F.2.2.2.2.2.2.2.2.1 (fun cA => rfl) (fun q => by have := (i32_lt hzr inR_0).mp q; omega) (i32_nat hzr) ?_ (by show hC h - c0 + 1 ≤ mc; omega) (by show hZ h - z0 + _ ≤ ms; omega) hd (fun q cA H1 hK' hP' hD' hS' => ?_)
  · calc z.toNat * componentBytes .long ≤ 100000 * 8 := Nat.mul_le_mul (by omega) (by decide)
      _ ≤ 536870912 := by decide
  · have hcA : cA = dA 3 := by
      have a1 := (hK'.2 5 (cA, FieldType.long) rfl).2
      have a2 := (F.2.2.2.2.2.2.2.1.2 3 _ rfl).2
      have hr : ∀ c1, va_RA s c1 (.long) → s.vm.findClass ("[" ++ (FieldType.long).toString) = some c1 := by
        intro c1 h1
        exact h1
      exact Option.some.inj ((hr _ a1).symm.trans (hr _ a2))
    subst hcA
    have hcell : cE dA (adN ad (hN h) q) (nC h z.toNat) (hN h) = .inl (dA 3, z.toNat, .inr (.inl (fun _ => 0))) := by
      rw [cE_lng hsh]
      congr 5
      funext j
      rw [gI_nC, if_pos rfl]
      rfl
    rw [wo_new hH hcell] at hP' hD'
    have hsc : hN h < SC := by unfold SC; omega
    have g := hn ls (.inr (.inl (some (hN h))) :: r) (nC h z.toNat) ht (adN ad (hN h) q) H1 locs lsA (fun k hk => (adN_agree hsc k (okP_le hk e2)).trans (e1 k hk)) (by show n0 ≤ hN h + 1; omega) ⟨by show c0 ≤ hC h + 1; omega, by show hC h + 1 ≤ c0 + mc; omega⟩ ⟨by show z0 ≤ hZ h + _; omega, by show hZ h + _ ≤ z0 + ms; omega⟩ hP' hD' hS' (okH_nC hH _) (okF_new hFr) hl (by rw [lD_agree hF.1 (adN_agree hsc)]; exact hv)
    have ec : hC (nC h z.toNat) - c0 = hC h - c0 + 1 := by show hC h + 1 - c0 = _; omega
    have ez : hZ (nC h z.toNat) - z0 = hZ h - z0 + z.toNat := by show hZ h + _ - z0 = _; omega
    have es : (Sum.inr (Sum.inl (some (hN h))) :: r : List PV).map (dV (adN ad (hN h) q)) = Value.ref q :: r.map (dV ad) := by
      rw [List.map_cons, map_agree hFr.2 (adN_agree hsc)]
      show Value.ref (adN ad (hN h) q (hN h)) :: _ = _
      rw [show adN ad (hN h) q (hN h) = q from if_pos rfl]
    rw [ec, ez, es] at g
    exact g
theorem sl_lal {xs : Nat → Int32} {SL : Nat} {md : MD} {lc lz pc : Nat} {nx : TT} (hd : decode md.2.1 pc = .ok (.laload, 1)) (hn : SnL xs SL md lc lz (pc + 1) nx) : SnL xs SL md lc lz pc (tt_lal nx) := by
  intro p l e s m args below meth c D dA A mc ms c0 z0 ad0 n0 post Q F L HR EX K hK ls st h ht
  have hn := hn p l e s m args below meth c D dA A mc ms c0 z0 ad0 n0 post Q F L HR EX K hK
  obtain ⟨a, i, r, rfl, ⟨ha, n, hs⟩, h0, h1, ht⟩ := pIA_s ht
  intro ad H locs lsA e1 e2 e3 e4 hP hD hS hH hF hl hv
  rw [lnA_of hs] at h1
  have hi : inR i := okF_top hF
  have hw := wo_get (dA := dA) (ad := ad) ha
  rw [cE_lng hs] at hw
  have hL : inL (gI h a i) := by
    have := hH.1 a i
    rw [if_pos (show isLg a = true by unfold isLg; rw [hs]; rfl)] at this
    exact this
  have g := hn ls (.inr (.inr (gI h a i)) :: r) h ht ad H locs lsA e1 e2 e3 e4 hP hD hS hH (okF_push (okF_pop (okF_pop hF)) hL) hl hv
  refine va_lald (t0 := 3) F.1 F.2.1 F.2.2.2.2.2.2.2.1 hP a hw rfl (i32_in h0 h1 hi) hd ?_
  rw [nat_back h0 hi]
  exact g
theorem sl_laS {xs : Nat → Int32} {SL : Nat} {md : MD} {lc lz pc : Nat} {nx : TT} (hd : decode md.2.1 pc = .ok (.lastore, 1)) (hn : SnL xs SL md lc lz (pc + 1) nx) : SnL xs SL md lc lz pc (tt_laS nx) := by
  intro p l e s m args below meth c D dA A mc ms c0 z0 ad0 n0 post Q F L HR EX K hK ls st h ht
  have hn := hn p l e s m args below meth c D dA A mc ms c0 z0 ad0 n0 post Q F L HR EX K hK
  obtain ⟨a, i, v, r, rfl, ⟨ha, n, hs⟩, h0, h1, ht⟩ := pLIA_s ht
  intro ad H locs lsA e1 e2 e3 e4 hP hD hS hH hF hl hv
  rw [lnA_of hs] at h1
  have hi : inR i := okF_2nd hF
  have hw := wo_get (dA := dA) (ad := ad) ha
  rw [cE_lng hs] at hw
  refine va_last (t0 := 3) F.1 F.2.1 F.2.2.2.2.2.2.2.1 hP hD hS a hw rfl (i32_in h0 h1 hi) hd (fun H' locs' hP' hD' hS' => ?_)
  rw [wo_sLa ha hs h0 hi] at hP' hD'
  exact hn ls r (sI h a i v) ht ad H' locs' lsA e1 e2 e3 e4 hP' hD' hS' (okH_wL hH (by unfold isLg; rw [hs]; rfl) (okF_top hF)) (okF_pop (okF_pop (okF_pop hF))) hl hv
