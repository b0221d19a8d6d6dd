def tt_ci (z : Int) (nx : TT) : TT := fun K R ls st h => nx K R ls (.inl z :: st) h
def tt_cl (z : Int) (nx : TT) : TT := fun K R ls st h => nx K R ls (.inr (.inr z) :: st) h
def tt_nul (nx : TT) : TT := fun K R ls st h => nx K R ls (.inr (.inl none) :: st) h
theorem snd_iconst {md : MD} {lc lz pc : Nat} {n : Int} {nx : TT} (hd : decode md.2.1 pc = .ok (.iconst n, 1)) (hz : inR n) (he : Int32.ofInt n = Int32.ofInt n) (hn : Snd md lc lz (pc + 1) nx) : Snd md lc lz pc (tt_ci n nx) := by
  intro p l e s m args below meth c D dA A mc ms c0 z0 ad0 n0 post Q F L HR K hK ls st h ht
  have hn := hn p l e s m args below meth c D dA A mc ms c0 z0 ad0 n0 post Q F L HR K hK
  intro ad H locs lsA e1 e2 e3 e4 hP hD hS hH hF hl hv
  exact lv_iconst F.1 F.2.1 hd he (hn ls (.inl n :: st) h ht ad H locs lsA e1 e2 e3 e4 hP hD hS hH (okF_push hF hz) hl hv)

theorem snd_bipush {md : MD} {lc lz pc : Nat} {n : Int} {nx : TT} (hd : decode md.2.1 pc = .ok (.bipush n, 2)) (hz : inR n) (he : (Int8.ofInt n).toInt32 = Int32.ofInt n) (hn : Snd md lc lz (pc + 2) nx) : Snd md lc lz pc (tt_ci n nx) := by
  intro p l e s m args below meth c D dA A mc ms c0 z0 ad0 n0 post Q F L HR K hK ls st h ht
  have hn := hn p l e s m args below meth c D dA A mc ms c0 z0 ad0 n0 post Q F L HR K hK
  intro ad H locs lsA e1 e2 e3 e4 hP hD hS hH hF hl hv
  exact lv_bipush F.1 F.2.1 hd he (hn ls (.inl n :: st) h ht ad H locs lsA e1 e2 e3 e4 hP hD hS hH (okF_push hF hz) hl hv)

theorem snd_sipush {md : MD} {lc lz pc : Nat} {n : Int} {nx : TT} (hd : decode md.2.1 pc = .ok (.sipush n, 3)) (hz : inR n) (he : (Int16.ofInt n).toInt32 = Int32.ofInt n) (hn : Snd md lc lz (pc + 3) nx) : Snd md lc lz pc (tt_ci n nx) := by
  intro p l e s m args below meth c D dA A mc ms c0 z0 ad0 n0 post Q F L HR K hK ls st h ht
  have hn := hn p l e s m args below meth c D dA A mc ms c0 z0 ad0 n0 post Q F L HR K hK
  intro ad H locs lsA e1 e2 e3 e4 hP hD hS hH hF hl hv
  exact lv_sipush F.1 F.2.1 hd he (hn ls (.inl n :: st) h ht ad H locs lsA e1 e2 e3 e4 hP hD hS hH (okF_push hF hz) hl hv)

theorem snd_ldc {md : MD} {lc lz pc : Nat} {n : Int} {nx : TT} {idx : Nat} (hd : decode md.2.1 pc = .ok (.ldc idx, 2)) (hz : inR n) (hw : Cond.constant md.1 idx (Int32.ofInt n) ∈ gw) (hn : Snd md lc lz (pc + 2) nx) : Snd md lc lz pc (tt_ci n nx) := by
  intro p l e s m args below meth c D dA A mc ms c0 z0 ad0 n0 post Q F L HR K hK ls st h ht
  have hn := hn p l e s m args below meth c D dA A mc ms c0 z0 ad0 n0 post Q F L HR K hK
  intro ad H locs lsA e1 e2 e3 e4 hP hD hS hH hF hl hv
  exact lv_ldc F.1 F.2.1 F.2.2.2.2.2.1 (F.2.2.2.2.2.2.1 _ hw) hd (hn ls (.inl n :: st) h ht ad H locs lsA e1 e2 e3 e4 hP hD hS hH (okF_push hF hz) hl hv)

theorem snd_ldc2 {md : MD} {lc lz pc : Nat} {n : Int} {nx : TT} {idx : Nat} (hd : decode md.2.1 pc = .ok (.ldc2_w idx, 3)) (hz : inL n) (hw : Cond.constantLong md.1 idx (Int64.ofInt n) ∈ gw) (hn : Snd md lc lz (pc + 3) nx) : Snd md lc lz pc (tt_cl n nx) := by
  intro p l e s m args below meth c D dA A mc ms c0 z0 ad0 n0 post Q F L HR K hK ls st h ht
  have hn := hn p l e s m args below meth c D dA A mc ms c0 z0 ad0 n0 post Q F L HR K hK
  intro ad H locs lsA e1 e2 e3 e4 hP hD hS hH hF hl hv
  exact lv_ldc2 F.1 F.2.1 F.2.2.2.2.2.1 (F.2.2.2.2.2.2.1 _ hw) hd (hn ls (.inr (.inr n) :: st) h ht ad H locs lsA e1 e2 e3 e4 hP hD hS hH (okF_push hF hz) hl hv)

theorem snd_lconst {md : MD} {lc lz pc : Nat} {k : Fin 2} {n : Int} {nx : TT} (hd : decode md.2.1 pc = .ok (.lconst k, 1)) (hz : inL n) (he : Int64.ofNat (k : Nat) = Int64.ofInt n) (hn : Snd md lc lz (pc + 1) nx) : Snd md lc lz pc (tt_cl n nx) := by
  intro p l e s m args below meth c D dA A mc ms c0 z0 ad0 n0 post Q F L HR K hK ls st h ht
  have hn := hn p l e s m args below meth c D dA A mc ms c0 z0 ad0 n0 post Q F L HR K hK
  intro ad H locs lsA e1 e2 e3 e4 hP hD hS hH hF hl hv
  exact lv_lconst F.1 F.2.1 hd he (hn ls (.inr (.inr n) :: st) h ht ad H locs lsA e1 e2 e3 e4 hP hD hS hH (okF_push hF hz) hl hv)

theorem snd_null {md : MD} {lc lz pc : Nat} {nx : TT} (hd : decode md.2.1 pc = .ok (.aconst_null, 1)) (hn : Snd md lc lz (pc + 1) nx) : Snd md lc lz pc (tt_nul nx) := by
  intro p l e s m args below meth c D dA A mc ms c0 z0 ad0 n0 post Q F L HR K hK ls st h ht
  have hn := hn p l e s m args below meth c D dA A mc ms c0 z0 ad0 n0 post Q F L HR K hK
  intro ad H locs lsA e1 e2 e3 e4 hP hD hS hH hF hl hv
  exact lv_null F.1 F.2.1 hd (hn ls (.inr (.inl none) :: st) h ht ad H locs lsA e1 e2 e3 e4 hP hD hS hH (okF_push hF trivial) hl hv)

def tt_il (n : Nat) (nx : TT) : TT := fun K R ls st h => lI ls n (fun x => nx K R ls (.inl x :: st) h)
def tt_al (n : Nat) (nx : TT) : TT := fun K R ls st h => lO ls n (fun x => nx K R ls (.inr (.inl x) :: st) h)
def tt_ll (n : Nat) (nx : TT) : TT := fun K R ls st h => lL ls n (fun x => nx K R ls (.inr (.inr x) :: st) h)
theorem snd_il_n {md : MD} {lc lz pc : Nat} {k : Fin 4} {n : Nat} {nx : TT} (hd : decode md.2.1 pc = .ok (.iload_n k, 1)) (hk : (k : Nat) = n) (hn : Snd md lc lz (pc + 1) nx) : Snd md lc lz pc (tt_il n nx) := by
  intro p l e s m args below meth c D dA A mc ms c0 z0 ad0 n0 post Q F L HR K hK ls st h ht
  have hn := hn p l e s m args below meth c D dA A mc ms c0 z0 ad0 n0 post Q F L HR K hK
  obtain ⟨x, hx, ht⟩ := lI_s ht
  intro ad H locs lsA e1 e2 e3 e4 hP hD hS hH hF hl hv
  exact lv_iload_n F.1 F.2.1 hd hk (lD_at hv hx) (hn ls (.inl x :: st) h ht ad H locs lsA e1 e2 e3 e4 hP hD hS hH (okF_push hF (hF.1 _ _ hx)) hl hv)

theorem snd_il {md : MD} {lc lz pc : Nat} {n : Nat} {nx : TT} (hd : decode md.2.1 pc = .ok (.iload n, 2)) (hn : Snd md lc lz (pc + 2) nx) : Snd md lc lz pc (tt_il n nx) := by
  intro p l e s m args below meth c D dA A mc ms c0 z0 ad0 n0 post Q F L HR K hK ls st h ht
  have hn := hn p l e s m args below meth c D dA A mc ms c0 z0 ad0 n0 post Q F L HR K hK
  obtain ⟨x, hx, ht⟩ := lI_s ht
  intro ad H locs lsA e1 e2 e3 e4 hP hD hS hH hF hl hv
  exact lv_iload F.1 F.2.1 hd (lD_at hv hx) (hn ls (.inl x :: st) h ht ad H locs lsA e1 e2 e3 e4 hP hD hS hH (okF_push hF (hF.1 _ _ hx)) hl hv)

theorem snd_ll_n {md : MD} {lc lz pc : Nat} {k : Fin 4} {n : Nat} {nx : TT} (hd : decode md.2.1 pc = .ok (.lload_n k, 1)) (hk : (k : Nat) = n) (hn : Snd md lc lz (pc + 1) nx) : Snd md lc lz pc (tt_ll n nx) := by
  intro p l e s m args below meth c D dA A mc ms c0 z0 ad0 n0 post Q F L HR K hK ls st h ht
  have hn := hn p l e s m args below meth c D dA A mc ms c0 z0 ad0 n0 post Q F L HR K hK
  obtain ⟨x, hx, ht⟩ := lL_s ht
  intro ad H locs lsA e1 e2 e3 e4 hP hD hS hH hF hl hv
  exact lv_lload_n F.1 F.2.1 hd hk (lD_at hv hx) (hn ls (.inr (.inr x) :: st) h ht ad H locs lsA e1 e2 e3 e4 hP hD hS hH (okF_push hF (hF.1 _ _ hx)) hl hv)

theorem snd_ll {md : MD} {lc lz pc : Nat} {n : Nat} {nx : TT} (hd : decode md.2.1 pc = .ok (.lload n, 2)) (hn : Snd md lc lz (pc + 2) nx) : Snd md lc lz pc (tt_ll n nx) := by
  intro p l e s m args below meth c D dA A mc ms c0 z0 ad0 n0 post Q F L HR K hK ls st h ht
  have hn := hn p l e s m args below meth c D dA A mc ms c0 z0 ad0 n0 post Q F L HR K hK
  obtain ⟨x, hx, ht⟩ := lL_s ht
  intro ad H locs lsA e1 e2 e3 e4 hP hD hS hH hF hl hv
  exact lv_lload F.1 F.2.1 hd (lD_at hv hx) (hn ls (.inr (.inr x) :: st) h ht ad H locs lsA e1 e2 e3 e4 hP hD hS hH (okF_push hF (hF.1 _ _ hx)) hl hv)

theorem snd_al_n {md : MD} {lc lz pc : Nat} {k : Fin 4} {n : Nat} {nx : TT} (hd : decode md.2.1 pc = .ok (.aload_n k, 1)) (hk : (k : Nat) = n) (hn : Snd md lc lz (pc + 1) nx) : Snd md lc lz pc (tt_al n nx) := by
  intro p l e s m args below meth c D dA A mc ms c0 z0 ad0 n0 post Q F L HR K hK ls st h ht
  have hn := hn p l e s m args below meth c D dA A mc ms c0 z0 ad0 n0 post Q F L HR K hK
  obtain ⟨x, hx, ht⟩ := lO_s ht
  intro ad H locs lsA e1 e2 e3 e4 hP hD hS hH hF hl hv
  have g := hn ls (.inr (.inl x) :: st) h ht ad H locs lsA e1 e2 e3 e4 hP hD hS hH (okF_push hF (hF.1 _ _ hx)) hl hv
  cases x with
  | none => exact lv_aload_nN F.1 F.2.1 hd hk (lD_at hv hx) g
  | some a => exact lv_aload_n F.1 F.2.1 hd hk (lD_at hv hx) g

theorem snd_al {md : MD} {lc lz pc : Nat} {n : Nat} {nx : TT} (hd : decode md.2.1 pc = .ok (.aload n, 2)) (hn : Snd md lc lz (pc + 2) nx) : Snd md lc lz pc (tt_al n nx) := by
  intro p l e s m args below meth c D dA A mc ms c0 z0 ad0 n0 post Q F L HR K hK ls st h ht
  have hn := hn p l e s m args below meth c D dA A mc ms c0 z0 ad0 n0 post Q F L HR K hK
  obtain ⟨x, hx, ht⟩ := lO_s ht
  intro ad H locs lsA e1 e2 e3 e4 hP hD hS hH hF hl hv
  have g := hn ls (.inr (.inl x) :: st) h ht ad H locs lsA e1 e2 e3 e4 hP hD hS hH (okF_push hF (hF.1 _ _ hx)) hl hv
  cases x with
  | none => exact lv_aloadN F.1 F.2.1 hd (lD_at hv hx) g
  | some a => exact lv_aload F.1 F.2.1 hd (lD_at hv hx) g

def tt_is (n : Nat) (nx : TT) : TT := fun K R ls st h => n < ls.length ∧ pI st (fun x r => nx K R (stL ls n (.inl x)) r h)
def tt_as (n : Nat) (nx : TT) : TT := fun K R ls st h => n < ls.length ∧ pO st (fun x r => nx K R (stL ls n (.inr (.inl x))) r h)
def tt_ls (n : Nat) (nx : TT) : TT := fun K R ls st h => n + 1 < ls.length ∧ pL st (fun x r => nx K R (clL (stL ls n (.inr (.inr x))) (n + 1)) r h)
theorem snd_is_n {md : MD} {lc lz pc : Nat} {k : Fin 4} {n : Nat} {nx : TT} (hd : decode md.2.1 pc = .ok (.istore_n k, 1)) (hk : (k : Nat) = n) (hn : Snd md lc lz (pc + 1) nx) : Snd md lc lz pc (tt_is n nx) := by
  intro p l e s m args below meth c D dA A mc ms c0 z0 ad0 n0 post Q F L HR K hK ls st h ht
  have hn := hn p l e s m args below meth c D dA A mc ms c0 z0 ad0 n0 post Q F L HR K hK
  obtain ⟨hi, ht⟩ := ht
  obtain ⟨x, r, rfl, ht⟩ := pI_s ht
  intro ad H locs lsA e1 e2 e3 e4 hP hD hS hH hF hl hv
  refine lv_istore_n F.1 F.2.1 hd hk hv (by rw [← hl]; exact hi) rfl (fun ls' hv' => ?_)
  exact hn _ r h ht ad H locs ls' e1 e2 e3 e4 hP hD hS hH (okF_st hF) (by rw [stL_len]; exact hl) (lv_st1 hv')

theorem snd_is {md : MD} {lc lz pc : Nat} {n : Nat} {nx : TT} (hd : decode md.2.1 pc = .ok (.istore n, 2)) (hn : Snd md lc lz (pc + 2) nx) : Snd md lc lz pc (tt_is n nx) := by
  intro p l e s m args below meth c D dA A mc ms c0 z0 ad0 n0 post Q F L HR K hK ls st h ht
  have hn := hn p l e s m args below meth c D dA A mc ms c0 z0 ad0 n0 post Q F L HR K hK
  obtain ⟨hi, ht⟩ := ht
  obtain ⟨x, r, rfl, ht⟩ := pI_s ht
  intro ad H locs lsA e1 e2 e3 e4 hP hD hS hH hF hl hv
  refine lv_istore F.1 F.2.1 hd hv (by rw [← hl]; exact hi) rfl (fun ls' hv' => ?_)
  exact hn _ r h ht ad H locs ls' e1 e2 e3 e4 hP hD hS hH (okF_st hF) (by rw [stL_len]; exact hl) (lv_st1 hv')

theorem snd_as_n {md : MD} {lc lz pc : Nat} {k : Fin 4} {n : Nat} {nx : TT} (hd : decode md.2.1 pc = .ok (.astore_n k, 1)) (hk : (k : Nat) = n) (hn : Snd md lc lz (pc + 1) nx) : Snd md lc lz pc (tt_as n nx) := by
  intro p l e s m args below meth c D dA A mc ms c0 z0 ad0 n0 post Q F L HR K hK ls st h ht
  have hn := hn p l e s m args below meth c D dA A mc ms c0 z0 ad0 n0 post Q F L HR K hK
  obtain ⟨hi, ht⟩ := ht
  obtain ⟨x, r, rfl, ht⟩ := pO_s ht
  intro ad H locs lsA e1 e2 e3 e4 hP hD hS hH hF hl hv
  cases x with
  | none =>
    refine lv_astore_nN F.1 F.2.1 hd hk hv (by rw [← hl]; exact hi) rfl (fun ls' hv' => ?_)
    exact hn _ r h ht ad H locs ls' e1 e2 e3 e4 hP hD hS hH (okF_st hF) (by rw [stL_len]; exact hl) (lv_st1 (v := .inr (.inl none)) hv')
  | some a =>
    refine lv_astore_n F.1 F.2.1 hd hk hv (by rw [← hl]; exact hi) rfl (fun ls' hv' => ?_)
    exact hn _ r h ht ad H locs ls' e1 e2 e3 e4 hP hD hS hH (okF_st hF) (by rw [stL_len]; exact hl) (lv_st1 (v := .inr (.inl (some a))) hv')

theorem snd_as {md : MD} {lc lz pc : Nat} {n : Nat} {nx : TT} (hd : decode md.2.1 pc = .ok (.astore n, 2)) (hn : Snd md lc lz (pc + 2) nx) : Snd md lc lz pc (tt_as n nx) := by
  intro p l e s m args below meth c D dA A mc ms c0 z0 ad0 n0 post Q F L HR K hK ls st h ht
  have hn := hn p l e s m args below meth c D dA A mc ms c0 z0 ad0 n0 post Q F L HR K hK
  obtain ⟨hi, ht⟩ := ht
  obtain ⟨x, r, rfl, ht⟩ := pO_s ht
  intro ad H locs lsA e1 e2 e3 e4 hP hD hS hH hF hl hv
  cases x with
  | none =>
    refine lv_astoreN F.1 F.2.1 hd hv (by rw [← hl]; exact hi) rfl (fun ls' hv' => ?_)
    exact hn _ r h ht ad H locs ls' e1 e2 e3 e4 hP hD hS hH (okF_st hF) (by rw [stL_len]; exact hl) (lv_st1 (v := .inr (.inl none)) hv')
  | some a =>
    refine lv_astore F.1 F.2.1 hd hv (by rw [← hl]; exact hi) rfl (fun ls' hv' => ?_)
    exact hn _ r h ht ad H locs ls' e1 e2 e3 e4 hP hD hS hH (okF_st hF) (by rw [stL_len]; exact hl) (lv_st1 (v := .inr (.inl (some a))) hv')

theorem snd_ls_n {md : MD} {lc lz pc : Nat} {k : Fin 4} {n : Nat} {nx : TT} (hd : decode md.2.1 pc = .ok (.lstore_n k, 1)) (hk : (k : Nat) = n) (hn : Snd md lc lz (pc + 1) nx) : Snd md lc lz pc (tt_ls n nx) := by
  intro p l e s m args below meth c D dA A mc ms c0 z0 ad0 n0 post Q F L HR K hK ls st h ht
  have hn := hn p l e s m args below meth c D dA A mc ms c0 z0 ad0 n0 post Q F L HR K hK
  obtain ⟨hi, ht⟩ := ht
  obtain ⟨x, r, rfl, ht⟩ := pL_s ht
  intro ad H locs lsA e1 e2 e3 e4 hP hD hS hH hF hl hv
  refine lv_lstore_n F.1 F.2.1 hd hk hv (by rw [← hl]; exact hi) rfl (fun ls' hv' => ?_)
  exact hn _ r h ht ad H locs ls' e1 e2 e3 e4 hP hD hS hH (okF_cl (okF_st hF)) (by rw [clL_len, stL_len]; exact hl) (lv_st2 (v := .inr (.inr x)) hv')

theorem snd_ls {md : MD} {lc lz pc : Nat} {n : Nat} {nx : TT} (hd : decode md.2.1 pc = .ok (.lstore n, 2)) (hn : Snd md lc lz (pc + 2) nx) : Snd md lc lz pc (tt_ls n nx) := by
  intro p l e s m args below meth c D dA A mc ms c0 z0 ad0 n0 post Q F L HR K hK ls st h ht
  have hn := hn p l e s m args below meth c D dA A mc ms c0 z0 ad0 n0 post Q F L HR K hK
  obtain ⟨hi, ht⟩ := ht
  obtain ⟨x, r, rfl, ht⟩ := pL_s ht
  intro ad H locs lsA e1 e2 e3 e4 hP hD hS hH hF hl hv
  refine lv_lstore F.1 F.2.1 hd hv (by rw [← hl]; exact hi) rfl (fun ls' hv' => ?_)
  exact hn _ r h ht ad H locs ls' e1 e2 e3 e4 hP hD hS hH (okF_cl (okF_st hF)) (by rw [clL_len, stL_len]; exact hl) (lv_st2 (v := .inr (.inr x)) hv')

def tt_inc (n : Nat) (z : Int) (nx : TT) : TT := fun K R ls st h => n < ls.length ∧ lI ls n (fun x => inR (x + z) ∧ nx K R (stL ls n (.inl (x + z))) st h)
theorem snd_inc {md : MD} {lc lz pc : Nat} {n : Nat} {z : Int} {nx : TT} (hd : decode md.2.1 pc = .ok (.iinc n z, 3)) (hn : Snd md lc lz (pc + 3) nx) : Snd md lc lz pc (tt_inc n z nx) := by
  intro p l e s m args below meth c D dA A mc ms c0 z0 ad0 n0 post Q F L HR K hK ls st h ht
  have hn := hn p l e s m args below meth c D dA A mc ms c0 z0 ad0 n0 post Q F L HR K hK
  obtain ⟨hi, ht⟩ := ht
  obtain ⟨x, hx, hr, ht⟩ := lI_s ht
  intro ad H locs lsA e1 e2 e3 e4 hP hD hS hH hF hl hv
  obtain ⟨k, hk⟩ := List.getElem?_of_mem (lD_mem.mpr ⟨_, hx, rfl⟩ : (n, dV ad (.inl x)) ∈ lD ad ls)
  refine lv_iinc (k := k) F.1 F.2.1 hd hv hk (Int32.ofInt_add x z).symm (by rw [← hl]; exact hi) rfl (fun ls' hv' => ?_)
  exact hn _ st h ht ad H locs ls' e1 e2 e3 e4 hP hD hS hH (okF_st (okF_push hF hr)) (by rw [stL_len]; exact hl) (lv_st1 (v := .inl (x + z)) hv')

def tt_add (nx : TT) : TT := fun K R ls st h => pII st (fun x y r => inR (x + y) ∧ nx K R ls (.inl (x + y) :: r) h)
theorem snd_add {md : MD} {lc lz pc : Nat} {nx : TT} (hd : decode md.2.1 pc = .ok (.iadd, 1)) (hn : Snd md lc lz (pc + 1) nx) : Snd md lc lz pc (tt_add nx) := by
  intro p l e s m args below meth c D dA A mc ms c0 z0 ad0 n0 post Q F L HR K hK ls st h ht
  have hn := hn p l e s m args below meth c D dA A mc ms c0 z0 ad0 n0 post Q F L HR K hK
  obtain ⟨x, y, r, rfl, hr, ht⟩ := pII_s ht
  intro ad H locs lsA e1 e2 e3 e4 hP hD hS hH hF hl hv
  have g := hn ls (.inl (x + y) :: r) h ht ad H locs lsA e1 e2 e3 e4 hP hD hS hH (okF_push (okF_pop (okF_pop hF)) hr) hl hv
  refine lv_iadd F.1 F.2.1 hd ?_
  rw [← Int32.ofInt_add]
  exact g

def tt_sub (nx : TT) : TT := fun K R ls st h => pII st (fun x y r => inR (x - y) ∧ nx K R ls (.inl (x - y) :: r) h)
theorem snd_sub {md : MD} {lc lz pc : Nat} {nx : TT} (hd : decode md.2.1 pc = .ok (.isub, 1)) (hn : Snd md lc lz (pc + 1) nx) : Snd md lc lz pc (tt_sub nx) := by
  intro p l e s m args below meth c D dA A mc ms c0 z0 ad0 n0 post Q F L HR K hK ls st h ht
  have hn := hn p l e s m args below meth c D dA A mc ms c0 z0 ad0 n0 post Q F L HR K hK
  obtain ⟨x, y, r, rfl, hr, ht⟩ := pII_s ht
  intro ad H locs lsA e1 e2 e3 e4 hP hD hS hH hF hl hv
  have g := hn ls (.inl (x - y) :: r) h ht ad H locs lsA e1 e2 e3 e4 hP hD hS hH (okF_push (okF_pop (okF_pop hF)) hr) hl hv
  refine lv_isub F.1 F.2.1 hd ?_
  rw [← Int32.ofInt_sub]
  exact g

def tt_mul (nx : TT) : TT := fun K R ls st h => pII st (fun x y r => inR (x * y) ∧ nx K R ls (.inl (x * y) :: r) h)
theorem snd_mul {md : MD} {lc lz pc : Nat} {nx : TT} (hd : decode md.2.1 pc = .ok (.imul, 1)) (hn : Snd md lc lz (pc + 1) nx) : Snd md lc lz pc (tt_mul nx) := by
  intro p l e s m args below meth c D dA A mc ms c0 z0 ad0 n0 post Q F L HR K hK ls st h ht
  have hn := hn p l e s m args below meth c D dA A mc ms c0 z0 ad0 n0 post Q F L HR K hK
  obtain ⟨x, y, r, rfl, hr, ht⟩ := pII_s ht
  intro ad H locs lsA e1 e2 e3 e4 hP hD hS hH hF hl hv
  have g := hn ls (.inl (x * y) :: r) h ht ad H locs lsA e1 e2 e3 e4 hP hD hS hH (okF_push (okF_pop (okF_pop hF)) hr) hl hv
  refine lv_imul F.1 F.2.1 hd ?_
  rw [← Int32.ofInt_mul]
  exact g

def tt_ladd (nx : TT) : TT := fun K R ls st h => pLL st (fun x y r => inL (x + y) ∧ nx K R ls (.inr (.inr (x + y)) :: r) h)
theorem snd_ladd {md : MD} {lc lz pc : Nat} {nx : TT} (hd : decode md.2.1 pc = .ok (.ladd, 1)) (hn : Snd md lc lz (pc + 1) nx) : Snd md lc lz pc (tt_ladd nx) := by
  intro p l e s m args below meth c D dA A mc ms c0 z0 ad0 n0 post Q F L HR K hK ls st h ht
  have hn := hn p l e s m args below meth c D dA A mc ms c0 z0 ad0 n0 post Q F L HR K hK
  obtain ⟨x, y, r, rfl, hr, ht⟩ := pLL_s ht
  intro ad H locs lsA e1 e2 e3 e4 hP hD hS hH hF hl hv
  have g := hn ls (.inr (.inr (x + y)) :: r) h ht ad H locs lsA e1 e2 e3 e4 hP hD hS hH (okF_push (okF_pop (okF_pop hF)) hr) hl hv
  refine lv_ladd F.1 F.2.1 hd ?_
  rw [← Int64.ofInt_add]
  exact g

def tt_lmul (nx : TT) : TT := fun K R ls st h => pLL st (fun x y r => inL (x * y) ∧ nx K R ls (.inr (.inr (x * y)) :: r) h)
theorem snd_lmul {md : MD} {lc lz pc : Nat} {nx : TT} (hd : decode md.2.1 pc = .ok (.lmul, 1)) (hn : Snd md lc lz (pc + 1) nx) : Snd md lc lz pc (tt_lmul nx) := by
  intro p l e s m args below meth c D dA A mc ms c0 z0 ad0 n0 post Q F L HR K hK ls st h ht
  have hn := hn p l e s m args below meth c D dA A mc ms c0 z0 ad0 n0 post Q F L HR K hK
  obtain ⟨x, y, r, rfl, hr, ht⟩ := pLL_s ht
  intro ad H locs lsA e1 e2 e3 e4 hP hD hS hH hF hl hv
  have g := hn ls (.inr (.inr (x * y)) :: r) h ht ad H locs lsA e1 e2 e3 e4 hP hD hS hH (okF_push (okF_pop (okF_pop hF)) hr) hl hv
  refine lv_lmul F.1 F.2.1 hd ?_
  rw [← Int64.ofInt_mul]
  exact g

theorem i32_div {x y : Int} (h0 : 0 ≤ x) (h1 : 0 < y) (hx : inR x) (hy : inR y) : Int32.ofInt x / Int32.ofInt y = Int32.ofInt (x / y) := by
  have e : x.tdiv y = x / y := Int.tdiv_eq_ediv_of_nonneg h0
  rw [← e]
  exact (Int32.ofInt_tdiv (by show (-2147483648 : Int) ≤ x; exact hx.1) (by show x ≤ (2147483647 : Int); exact hx.2) (by show (-2147483648 : Int) ≤ y; exact hy.1) (by show y ≤ (2147483647 : Int); exact hy.2)).symm
theorem i64_div {x y : Int} (h0 : 0 ≤ x) (h1 : 0 < y) (hx : inL x) (hy : inL y) : Int64.ofInt x / Int64.ofInt y = Int64.ofInt (x / y) := by
  have e : x.tdiv y = x / y := Int.tdiv_eq_ediv_of_nonneg h0
  rw [← e]
  exact (Int64.ofInt_tdiv (by show (-9223372036854775808 : Int) ≤ x; exact hx.1) (by show x ≤ (9223372036854775807 : Int); exact hx.2) (by show (-9223372036854775808 : Int) ≤ y; exact hy.1) (by show y ≤ (9223372036854775807 : Int); exact hy.2)).symm
theorem div_in {x y : Int} (h0 : 0 ≤ x) (h1 : 0 < y) : 0 ≤ x / y ∧ x / y ≤ x := ⟨Int.ediv_nonneg h0 (Int.le_of_lt h1), Int.ediv_le_self _ h0⟩
theorem mod_in {x y : Int} (h0 : 0 ≤ x) (h1 : 0 < y) : 0 ≤ x % y ∧ x % y ≤ x := by
  have a := div_in h0 h1
  have b := Int.emod_nonneg x (Int.ne_of_gt h1)
  have c := Int.emod_add_mul_ediv x y
  have d := Int.mul_nonneg (Int.le_of_lt h1) a.1
  exact ⟨b, by omega⟩
theorem inR_div {x y : Int} (h0 : 0 ≤ x) (h1 : 0 < y) (hx : inR x) : inR (x / y) := by
  have := div_in h0 h1
  exact ⟨by have := hx.1; omega, by have := hx.2; omega⟩
theorem inR_mod {x y : Int} (h0 : 0 ≤ x) (h1 : 0 < y) (hx : inR x) : inR (x % y) := by
  have := mod_in h0 h1
  exact ⟨by have := hx.1; omega, by have := hx.2; omega⟩
theorem inL_div {x y : Int} (h0 : 0 ≤ x) (h1 : 0 < y) (hx : inL x) : inL (x / y) := by
  have := div_in h0 h1
  exact ⟨by have := hx.1; omega, by have := hx.2; omega⟩
theorem inL_mod {x y : Int} (h0 : 0 ≤ x) (h1 : 0 < y) (hx : inL x) : inL (x % y) := by
  have := mod_in h0 h1
  exact ⟨by have := hx.1; omega, by have := hx.2; omega⟩
theorem mod_eq (x y : Int) : x - x / y * y = x % y := by
  have := Int.emod_add_mul_ediv x y
  rw [Int.mul_comm] at this
  omega
def tt_div (nx : TT) : TT := fun K R ls st h => pII st (fun x y r => 0 ≤ x ∧ 0 < y ∧ nx K R ls (.inl (x / y) :: r) h)
theorem snd_div {md : MD} {lc lz pc : Nat} {nx : TT} (hd : decode md.2.1 pc = .ok (.idiv, 1)) (hn : Snd md lc lz (pc + 1) nx) : Snd md lc lz pc (tt_div nx) := by
  intro p l e s m args below meth c D dA A mc ms c0 z0 ad0 n0 post Q F L HR K hK ls st h ht
  have hn := hn p l e s m args below meth c D dA A mc ms c0 z0 ad0 n0 post Q F L HR K hK
  obtain ⟨x, y, r, rfl, h0, h1, ht⟩ := pII_s ht
  intro ad H locs lsA e1 e2 e3 e4 hP hD hS hH hF hl hv
  have hx : inR x := okF_2nd hF
  have hy : inR y := okF_top hF
  have g := hn ls (.inl (x / y) :: r) h ht ad H locs lsA e1 e2 e3 e4 hP hD hS hH (okF_push (okF_pop (okF_pop hF)) (inR_div h0 h1 hx)) hl hv
  refine lv_idiv F.1 F.2.1 hd (fun q => ?_) ?_
  · have q2 := congrArg Int32.toInt q
    rw [i32_toInt hy] at q2
    have q3 : y = 0 := q2
    omega
  · rw [i32_div h0 h1 hx hy]
    exact g

def tt_rem (nx : TT) : TT := fun K R ls st h => pII st (fun x y r => 0 ≤ x ∧ 0 < y ∧ nx K R ls (.inl (x % y) :: r) h)
theorem snd_rem {md : MD} {lc lz pc : Nat} {nx : TT} (hd : decode md.2.1 pc = .ok (.irem, 1)) (hn : Snd md lc lz (pc + 1) nx) : Snd md lc lz pc (tt_rem nx) := by
  intro p l e s m args below meth c D dA A mc ms c0 z0 ad0 n0 post Q F L HR K hK ls st h ht
  have hn := hn p l e s m args below meth c D dA A mc ms c0 z0 ad0 n0 post Q F L HR K hK
  obtain ⟨x, y, r, rfl, h0, h1, ht⟩ := pII_s ht
  intro ad H locs lsA e1 e2 e3 e4 hP hD hS hH hF hl hv
  have hx : inR x := okF_2nd hF
  have hy : inR y := okF_top hF
  have g := hn ls (.inl (x % y) :: r) h ht ad H locs lsA e1 e2 e3 e4 hP hD hS hH (okF_push (okF_pop (okF_pop hF)) (inR_mod h0 h1 hx)) hl hv
  refine lv_irem F.1 F.2.1 hd (fun q => ?_) ?_
  · have q2 := congrArg Int32.toInt q
    rw [i32_toInt hy] at q2
    have q3 : y = 0 := q2
    omega
  · rw [i32_div h0 h1 hx hy, ← Int32.ofInt_mul, ← Int32.ofInt_sub, mod_eq]
    exact g

def tt_ldiv (nx : TT) : TT := fun K R ls st h => pLL st (fun x y r => 0 ≤ x ∧ 0 < y ∧ nx K R ls (.inr (.inr (x / y)) :: r) h)
theorem snd_ldiv {md : MD} {lc lz pc : Nat} {nx : TT} (hd : decode md.2.1 pc = .ok (.ldiv, 1)) (hn : Snd md lc lz (pc + 1) nx) : Snd md lc lz pc (tt_ldiv nx) := by
  intro p l e s m args below meth c D dA A mc ms c0 z0 ad0 n0 post Q F L HR K hK ls st h ht
  have hn := hn p l e s m args below meth c D dA A mc ms c0 z0 ad0 n0 post Q F L HR K hK
  obtain ⟨x, y, r, rfl, h0, h1, ht⟩ := pLL_s ht
  intro ad H locs lsA e1 e2 e3 e4 hP hD hS hH hF hl hv
  have hx : inL x := okF_2nd hF
  have hy : inL y := okF_top hF
  have g := hn ls (.inr (.inr (x / y)) :: r) h ht ad H locs lsA e1 e2 e3 e4 hP hD hS hH (okF_push (okF_pop (okF_pop hF)) (inL_div h0 h1 hx)) hl hv
  refine lv_ldiv F.1 F.2.1 hd (fun q => ?_) ?_
  · have q2 := congrArg Int64.toInt q
    rw [i64_toInt hy] at q2
    have q3 : y = 0 := q2
    omega
  · rw [i64_div h0 h1 hx hy]
    exact g

def tt_lrem (nx : TT) : TT := fun K R ls st h => pLL st (fun x y r => 0 ≤ x ∧ 0 < y ∧ nx K R ls (.inr (.inr (x % y)) :: r) h)
theorem snd_lrem {md : MD} {lc lz pc : Nat} {nx : TT} (hd : decode md.2.1 pc = .ok (.lrem, 1)) (hn : Snd md lc lz (pc + 1) nx) : Snd md lc lz pc (tt_lrem nx) := by
  intro p l e s m args below meth c D dA A mc ms c0 z0 ad0 n0 post Q F L HR K hK ls st h ht
  have hn := hn p l e s m args below meth c D dA A mc ms c0 z0 ad0 n0 post Q F L HR K hK
  obtain ⟨x, y, r, rfl, h0, h1, ht⟩ := pLL_s ht
  intro ad H locs lsA e1 e2 e3 e4 hP hD hS hH hF hl hv
  have hx : inL x := okF_2nd hF
  have hy : inL y := okF_top hF
  have g := hn ls (.inr (.inr (x % y)) :: r) h ht ad H locs lsA e1 e2 e3 e4 hP hD hS hH (okF_push (okF_pop (okF_pop hF)) (inL_mod h0 h1 hx)) hl hv
  refine lv_lrem F.1 F.2.1 hd (fun q => ?_) ?_
  · have q2 := congrArg Int64.toInt q
    rw [i64_toInt hy] at q2
    have q3 : y = 0 := q2
    omega
  · rw [i64_div h0 h1 hx hy, ← Int64.ofInt_mul, ← Int64.ofInt_sub, mod_eq]
    exact g

def tt_zeq (a b : TT) : TT := fun K R ls st h => pI st (fun x r => (x = 0 → a K R ls r h) ∧ (¬ x = 0 → b K R ls r h))
theorem snd_zeq {md : MD} {lc lz pc : Nat} {off : Int} {tg : Nat} {a b : TT} (hd : decode md.2.1 pc = .ok (.ifCond .eq off, 3)) (hg : (pc : Int) + off = (tg : Int)) (ha : Snd md lc lz tg a) (hn : Snd md lc lz (pc + 3) b) : Snd md lc lz pc (tt_zeq a b) := by
  intro p l e s m args below meth c D dA A mc ms c0 z0 ad0 n0 post Q F L HR K hK ls st h ht
  have hn := hn p l e s m args below meth c D dA A mc ms c0 z0 ad0 n0 post Q F L HR K hK
  have ha := ha p l e s m args below meth c D dA A mc ms c0 z0 ad0 n0 post Q F L HR K hK
  obtain ⟨x, r, rfl, ht⟩ := pI_s ht
  intro ad H locs lsA e1 e2 e3 e4 hP hD hS hH hF hl hv
  have hx : inR x := okF_top hF
  refine lv_if_eq F.1 F.2.1 hd hg (fun q => ?_) (fun q => ?_)
  · exact ha ls r h (ht.1 ((i32_eq hx inR_0).mp q)) ad H locs lsA e1 e2 e3 e4 hP hD hS hH (okF_pop hF) hl hv
  · exact hn ls r h (ht.2 (fun z => q ((i32_eq hx inR_0).mpr z))) ad H locs lsA e1 e2 e3 e4 hP hD hS hH (okF_pop hF) hl hv

def tt_zne (a b : TT) : TT := fun K R ls st h => pI st (fun x r => (¬ x = 0 → a K R ls r h) ∧ (x = 0 → b K R ls r h))
theorem snd_zne {md : MD} {lc lz pc : Nat} {off : Int} {tg : Nat} {a b : TT} (hd : decode md.2.1 pc = .ok (.ifCond .ne off, 3)) (hg : (pc : Int) + off = (tg : Int)) (ha : Snd md lc lz tg a) (hn : Snd md lc lz (pc + 3) b) : Snd md lc lz pc (tt_zne a b) := by
  intro p l e s m args below meth c D dA A mc ms c0 z0 ad0 n0 post Q F L HR K hK ls st h ht
  have hn := hn p l e s m args below meth c D dA A mc ms c0 z0 ad0 n0 post Q F L HR K hK
  have ha := ha p l e s m args below meth c D dA A mc ms c0 z0 ad0 n0 post Q F L HR K hK
  obtain ⟨x, r, rfl, ht⟩ := pI_s ht
  intro ad H locs lsA e1 e2 e3 e4 hP hD hS hH hF hl hv
  have hx : inR x := okF_top hF
  refine lv_if_ne F.1 F.2.1 hd hg (fun q => ?_) (fun q => ?_)
  · exact ha ls r h (ht.1 (fun z => q ((i32_eq hx inR_0).mpr z))) ad H locs lsA e1 e2 e3 e4 hP hD hS hH (okF_pop hF) hl hv
  · exact hn ls r h (ht.2 ((i32_eq hx inR_0).mp q)) ad H locs lsA e1 e2 e3 e4 hP hD hS hH (okF_pop hF) hl hv

def tt_zlt (a b : TT) : TT := fun K R ls st h => pI st (fun x r => (x < 0 → a K R ls r h) ∧ (¬ x < 0 → b K R ls r h))
theorem snd_zlt {md : MD} {lc lz pc : Nat} {off : Int} {tg : Nat} {a b : TT} (hd : decode md.2.1 pc = .ok (.ifCond .lt off, 3)) (hg : (pc : Int) + off = (tg : Int)) (ha : Snd md lc lz tg a) (hn : Snd md lc lz (pc + 3) b) : Snd md lc lz pc (tt_zlt a b) := by
  intro p l e s m args below meth c D dA A mc ms c0 z0 ad0 n0 post Q F L HR K hK ls st h ht
  have hn := hn p l e s m args below meth c D dA A mc ms c0 z0 ad0 n0 post Q F L HR K hK
  have ha := ha p l e s m args below meth c D dA A mc ms c0 z0 ad0 n0 post Q F L HR K hK
  obtain ⟨x, r, rfl, ht⟩ := pI_s ht
  intro ad H locs lsA e1 e2 e3 e4 hP hD hS hH hF hl hv
  have hx : inR x := okF_top hF
  refine lv_if_lt F.1 F.2.1 hd hg (fun q => ?_) (fun q => ?_)
  · exact ha ls r h (ht.1 ((i32_lt hx inR_0).mp q)) ad H locs lsA e1 e2 e3 e4 hP hD hS hH (okF_pop hF) hl hv
  · exact hn ls r h (ht.2 (fun z => q ((i32_lt hx inR_0).mpr z))) ad H locs lsA e1 e2 e3 e4 hP hD hS hH (okF_pop hF) hl hv

def tt_zge (a b : TT) : TT := fun K R ls st h => pI st (fun x r => (0 ≤ x → a K R ls r h) ∧ (¬ 0 ≤ x → b K R ls r h))
theorem snd_zge {md : MD} {lc lz pc : Nat} {off : Int} {tg : Nat} {a b : TT} (hd : decode md.2.1 pc = .ok (.ifCond .ge off, 3)) (hg : (pc : Int) + off = (tg : Int)) (ha : Snd md lc lz tg a) (hn : Snd md lc lz (pc + 3) b) : Snd md lc lz pc (tt_zge a b) := by
  intro p l e s m args below meth c D dA A mc ms c0 z0 ad0 n0 post Q F L HR K hK ls st h ht
  have hn := hn p l e s m args below meth c D dA A mc ms c0 z0 ad0 n0 post Q F L HR K hK
  have ha := ha p l e s m args below meth c D dA A mc ms c0 z0 ad0 n0 post Q F L HR K hK
  obtain ⟨x, r, rfl, ht⟩ := pI_s ht
  intro ad H locs lsA e1 e2 e3 e4 hP hD hS hH hF hl hv
  have hx : inR x := okF_top hF
  refine lv_if_ge F.1 F.2.1 hd hg (fun q => ?_) (fun q => ?_)
  · exact ha ls r h (ht.1 ((i32_le inR_0 hx).mp q)) ad H locs lsA e1 e2 e3 e4 hP hD hS hH (okF_pop hF) hl hv
  · exact hn ls r h (ht.2 (fun z => q ((i32_le inR_0 hx).mpr z))) ad H locs lsA e1 e2 e3 e4 hP hD hS hH (okF_pop hF) hl hv

def tt_zgt (a b : TT) : TT := fun K R ls st h => pI st (fun x r => (0 < x → a K R ls r h) ∧ (¬ 0 < x → b K R ls r h))
theorem snd_zgt {md : MD} {lc lz pc : Nat} {off : Int} {tg : Nat} {a b : TT} (hd : decode md.2.1 pc = .ok (.ifCond .gt off, 3)) (hg : (pc : Int) + off = (tg : Int)) (ha : Snd md lc lz tg a) (hn : Snd md lc lz (pc + 3) b) : Snd md lc lz pc (tt_zgt a b) := by
  intro p l e s m args below meth c D dA A mc ms c0 z0 ad0 n0 post Q F L HR K hK ls st h ht
  have hn := hn p l e s m args below meth c D dA A mc ms c0 z0 ad0 n0 post Q F L HR K hK
  have ha := ha p l e s m args below meth c D dA A mc ms c0 z0 ad0 n0 post Q F L HR K hK
  obtain ⟨x, r, rfl, ht⟩ := pI_s ht
  intro ad H locs lsA e1 e2 e3 e4 hP hD hS hH hF hl hv
  have hx : inR x := okF_top hF
  refine lv_if_gt F.1 F.2.1 hd hg (fun q => ?_) (fun q => ?_)
  · exact ha ls r h (ht.1 ((i32_lt inR_0 hx).mp q)) ad H locs lsA e1 e2 e3 e4 hP hD hS hH (okF_pop hF) hl hv
  · exact hn ls r h (ht.2 (fun z => q ((i32_lt inR_0 hx).mpr z))) ad H locs lsA e1 e2 e3 e4 hP hD hS hH (okF_pop hF) hl hv

def tt_zle (a b : TT) : TT := fun K R ls st h => pI st (fun x r => (x ≤ 0 → a K R ls r h) ∧ (¬ x ≤ 0 → b K R ls r h))
theorem snd_zle {md : MD} {lc lz pc : Nat} {off : Int} {tg : Nat} {a b : TT} (hd : decode md.2.1 pc = .ok (.ifCond .le off, 3)) (hg : (pc : Int) + off = (tg : Int)) (ha : Snd md lc lz tg a) (hn : Snd md lc lz (pc + 3) b) : Snd md lc lz pc (tt_zle a b) := by
  intro p l e s m args below meth c D dA A mc ms c0 z0 ad0 n0 post Q F L HR K hK ls st h ht
  have hn := hn p l e s m args below meth c D dA A mc ms c0 z0 ad0 n0 post Q F L HR K hK
  have ha := ha p l e s m args below meth c D dA A mc ms c0 z0 ad0 n0 post Q F L HR K hK
  obtain ⟨x, r, rfl, ht⟩ := pI_s ht
  intro ad H locs lsA e1 e2 e3 e4 hP hD hS hH hF hl hv
  have hx : inR x := okF_top hF
  refine lv_if_le F.1 F.2.1 hd hg (fun q => ?_) (fun q => ?_)
  · exact ha ls r h (ht.1 ((i32_le hx inR_0).mp q)) ad H locs lsA e1 e2 e3 e4 hP hD hS hH (okF_pop hF) hl hv
  · exact hn ls r h (ht.2 (fun z => q ((i32_le hx inR_0).mpr z))) ad H locs lsA e1 e2 e3 e4 hP hD hS hH (okF_pop hF) hl hv

def tt_ceq (a b : TT) : TT := fun K R ls st h => pII st (fun x y r => (x = y → a K R ls r h) ∧ (¬ x = y → b K R ls r h))
theorem snd_ceq {md : MD} {lc lz pc : Nat} {off : Int} {tg : Nat} {a b : TT} (hd : decode md.2.1 pc = .ok (.if_icmp .eq off, 3)) (hg : (pc : Int) + off = (tg : Int)) (ha : Snd md lc lz tg a) (hn : Snd md lc lz (pc + 3) b) : Snd md lc lz pc (tt_ceq a b) := by
  intro p l e s m args below meth c D dA A mc ms c0 z0 ad0 n0 post Q F L HR K hK ls st h ht
  have hn := hn p l e s m args below meth c D dA A mc ms c0 z0 ad0 n0 post Q F L HR K hK
  have ha := ha p l e s m args below meth c D dA A mc ms c0 z0 ad0 n0 post Q F L HR K hK
  obtain ⟨x, y, r, rfl, ht⟩ := pII_s ht
  intro ad H locs lsA e1 e2 e3 e4 hP hD hS hH hF hl hv
  have hx : inR x := okF_2nd hF
  have hy : inR y := okF_top hF
  refine lv_icmp_eq F.1 F.2.1 hd hg (fun q => ?_) (fun q => ?_)
  · exact ha ls r h (ht.1 ((i32_eq hx hy).mp q)) ad H locs lsA e1 e2 e3 e4 hP hD hS hH (okF_pop (okF_pop hF)) hl hv
  · exact hn ls r h (ht.2 (fun z => q ((i32_eq hx hy).mpr z))) ad H locs lsA e1 e2 e3 e4 hP hD hS hH (okF_pop (okF_pop hF)) hl hv

def tt_cne (a b : TT) : TT := fun K R ls st h => pII st (fun x y r => (¬ x = y → a K R ls r h) ∧ (x = y → b K R ls r h))
theorem snd_cne {md : MD} {lc lz pc : Nat} {off : Int} {tg : Nat} {a b : TT} (hd : decode md.2.1 pc = .ok (.if_icmp .ne off, 3)) (hg : (pc : Int) + off = (tg : Int)) (ha : Snd md lc lz tg a) (hn : Snd md lc lz (pc + 3) b) : Snd md lc lz pc (tt_cne a b) := by
  intro p l e s m args below meth c D dA A mc ms c0 z0 ad0 n0 post Q F L HR K hK ls st h ht
  have hn := hn p l e s m args below meth c D dA A mc ms c0 z0 ad0 n0 post Q F L HR K hK
  have ha := ha p l e s m args below meth c D dA A mc ms c0 z0 ad0 n0 post Q F L HR K hK
  obtain ⟨x, y, r, rfl, ht⟩ := pII_s ht
  intro ad H locs lsA e1 e2 e3 e4 hP hD hS hH hF hl hv
  have hx : inR x := okF_2nd hF
  have hy : inR y := okF_top hF
  refine lv_icmp_ne F.1 F.2.1 hd hg (fun q => ?_) (fun q => ?_)
  · exact ha ls r h (ht.1 (fun z => q ((i32_eq hx hy).mpr z))) ad H locs lsA e1 e2 e3 e4 hP hD hS hH (okF_pop (okF_pop hF)) hl hv
  · exact hn ls r h (ht.2 ((i32_eq hx hy).mp q)) ad H locs lsA e1 e2 e3 e4 hP hD hS hH (okF_pop (okF_pop hF)) hl hv

def tt_clt (a b : TT) : TT := fun K R ls st h => pII st (fun x y r => (x < y → a K R ls r h) ∧ (¬ x < y → b K R ls r h))
theorem snd_clt {md : MD} {lc lz pc : Nat} {off : Int} {tg : Nat} {a b : TT} (hd : decode md.2.1 pc = .ok (.if_icmp .lt off, 3)) (hg : (pc : Int) + off = (tg : Int)) (ha : Snd md lc lz tg a) (hn : Snd md lc lz (pc + 3) b) : Snd md lc lz pc (tt_clt a b) := by
  intro p l e s m args below meth c D dA A mc ms c0 z0 ad0 n0 post Q F L HR K hK ls st h ht
  have hn := hn p l e s m args below meth c D dA A mc ms c0 z0 ad0 n0 post Q F L HR K hK
  have ha := ha p l e s m args below meth c D dA A mc ms c0 z0 ad0 n0 post Q F L HR K hK
  obtain ⟨x, y, r, rfl, ht⟩ := pII_s ht
  intro ad H locs lsA e1 e2 e3 e4 hP hD hS hH hF hl hv
  have hx : inR x := okF_2nd hF
  have hy : inR y := okF_top hF
  refine lv_icmp_lt F.1 F.2.1 hd hg (fun q => ?_) (fun q => ?_)
  · exact ha ls r h (ht.1 ((i32_lt hx hy).mp q)) ad H locs lsA e1 e2 e3 e4 hP hD hS hH (okF_pop (okF_pop hF)) hl hv
  · exact hn ls r h (ht.2 (fun z => q ((i32_lt hx hy).mpr z))) ad H locs lsA e1 e2 e3 e4 hP hD hS hH (okF_pop (okF_pop hF)) hl hv

def tt_cge (a b : TT) : TT := fun K R ls st h => pII st (fun x y r => (y ≤ x → a K R ls r h) ∧ (¬ y ≤ x → b K R ls r h))
theorem snd_cge {md : MD} {lc lz pc : Nat} {off : Int} {tg : Nat} {a b : TT} (hd : decode md.2.1 pc = .ok (.if_icmp .ge off, 3)) (hg : (pc : Int) + off = (tg : Int)) (ha : Snd md lc lz tg a) (hn : Snd md lc lz (pc + 3) b) : Snd md lc lz pc (tt_cge a b) := by
  intro p l e s m args below meth c D dA A mc ms c0 z0 ad0 n0 post Q F L HR K hK ls st h ht
  have hn := hn p l e s m args below meth c D dA A mc ms c0 z0 ad0 n0 post Q F L HR K hK
  have ha := ha p l e s m args below meth c D dA A mc ms c0 z0 ad0 n0 post Q F L HR K hK
  obtain ⟨x, y, r, rfl, ht⟩ := pII_s ht
  intro ad H locs lsA e1 e2 e3 e4 hP hD hS hH hF hl hv
  have hx : inR x := okF_2nd hF
  have hy : inR y := okF_top hF
  refine lv_icmp_ge F.1 F.2.1 hd hg (fun q => ?_) (fun q => ?_)
  · exact ha ls r h (ht.1 ((i32_le hy hx).mp q)) ad H locs lsA e1 e2 e3 e4 hP hD hS hH (okF_pop (okF_pop hF)) hl hv
  · exact hn ls r h (ht.2 (fun z => q ((i32_le hy hx).mpr z))) ad H locs lsA e1 e2 e3 e4 hP hD hS hH (okF_pop (okF_pop hF)) hl hv

def tt_cgt (a b : TT) : TT := fun K R ls st h => pII st (fun x y r => (y < x → a K R ls r h) ∧ (¬ y < x → b K R ls r h))
theorem snd_cgt {md : MD} {lc lz pc : Nat} {off : Int} {tg : Nat} {a b : TT} (hd : decode md.2.1 pc = .ok (.if_icmp .gt off, 3)) (hg : (pc : Int) + off = (tg : Int)) (ha : Snd md lc lz tg a) (hn : Snd md lc lz (pc + 3) b) : Snd md lc lz pc (tt_cgt a b) := by
  intro p l e s m args below meth c D dA A mc ms c0 z0 ad0 n0 post Q F L HR K hK ls st h ht
  have hn := hn p l e s m args below meth c D dA A mc ms c0 z0 ad0 n0 post Q F L HR K hK
  have ha := ha p l e s m args below meth c D dA A mc ms c0 z0 ad0 n0 post Q F L HR K hK
  obtain ⟨x, y, r, rfl, ht⟩ := pII_s ht
  intro ad H locs lsA e1 e2 e3 e4 hP hD hS hH hF hl hv
  have hx : inR x := okF_2nd hF
  have hy : inR y := okF_top hF
  refine lv_icmp_gt F.1 F.2.1 hd hg (fun q => ?_) (fun q => ?_)
  · exact ha ls r h (ht.1 ((i32_lt hy hx).mp q)) ad H locs lsA e1 e2 e3 e4 hP hD hS hH (okF_pop (okF_pop hF)) hl hv
  · exact hn ls r h (ht.2 (fun z => q ((i32_lt hy hx).mpr z))) ad H locs lsA e1 e2 e3 e4 hP hD hS hH (okF_pop (okF_pop hF)) hl hv

def tt_cle (a b : TT) : TT := fun K R ls st h => pII st (fun x y r => (x ≤ y → a K R ls r h) ∧ (¬ x ≤ y → b K R ls r h))
theorem snd_cle {md : MD} {lc lz pc : Nat} {off : Int} {tg : Nat} {a b : TT} (hd : decode md.2.1 pc = .ok (.if_icmp .le off, 3)) (hg : (pc : Int) + off = (tg : Int)) (ha : Snd md lc lz tg a) (hn : Snd md lc lz (pc + 3) b) : Snd md lc lz pc (tt_cle a b) := by
  intro p l e s m args below meth c D dA A mc ms c0 z0 ad0 n0 post Q F L HR K hK ls st h ht
  have hn := hn p l e s m args below meth c D dA A mc ms c0 z0 ad0 n0 post Q F L HR K hK
  have ha := ha p l e s m args below meth c D dA A mc ms c0 z0 ad0 n0 post Q F L HR K hK
  obtain ⟨x, y, r, rfl, ht⟩ := pII_s ht
  intro ad H locs lsA e1 e2 e3 e4 hP hD hS hH hF hl hv
  have hx : inR x := okF_2nd hF
  have hy : inR y := okF_top hF
  refine lv_icmp_le F.1 F.2.1 hd hg (fun q => ?_) (fun q => ?_)
  · exact ha ls r h (ht.1 ((i32_le hx hy).mp q)) ad H locs lsA e1 e2 e3 e4 hP hD hS hH (okF_pop (okF_pop hF)) hl hv
  · exact hn ls r h (ht.2 (fun z => q ((i32_le hx hy).mpr z))) ad H locs lsA e1 e2 e3 e4 hP hD hS hH (okF_pop (okF_pop hF)) hl hv

def tt_nn (a b : TT) : TT := fun K R ls st h => pO st (fun x r => (x = none → a K R ls r h) ∧ (¬ x = none → b K R ls r h))
theorem snd_ifnull {md : MD} {lc lz pc : Nat} {off : Int} {tg : Nat} {a b : TT} (hd : decode md.2.1 pc = .ok (.ifnull off, 3)) (hg : (pc : Int) + off = (tg : Int)) (ha : Snd md lc lz tg a) (hn : Snd md lc lz (pc + 3) b) : Snd md lc lz pc (tt_nn a b) := by
  intro p l e s m args below meth c D dA A mc ms c0 z0 ad0 n0 post Q F L HR K hK ls st h ht
  have hn := hn p l e s m args below meth c D dA A mc ms c0 z0 ad0 n0 post Q F L HR K hK
  have ha := ha p l e s m args below meth c D dA A mc ms c0 z0 ad0 n0 post Q F L HR K hK
  obtain ⟨x, r, rfl, ht⟩ := pO_s ht
  intro ad H locs lsA e1 e2 e3 e4 hP hD hS hH hF hl hv
  cases x with
  | none => exact lv_ifnullN F.1 F.2.1 hd hg (ha ls r h (ht.1 rfl) ad H locs lsA e1 e2 e3 e4 hP hD hS hH (okF_pop hF) hl hv)
  | some k => exact lv_ifnull F.1 F.2.1 hd (hn ls r h (ht.2 (fun q => by cases q)) ad H locs lsA e1 e2 e3 e4 hP hD hS hH (okF_pop hF) hl hv)

theorem snd_ifnonnull {md : MD} {lc lz pc : Nat} {off : Int} {tg : Nat} {a b : TT} (hd : decode md.2.1 pc = .ok (.ifnonnull off, 3)) (hg : (pc : Int) + off = (tg : Int)) (ha : Snd md lc lz (pc + 3) a) (hn : Snd md lc lz tg b) : Snd md lc lz pc (tt_nn a b) := by
  intro p l e s m args below meth c D dA A mc ms c0 z0 ad0 n0 post Q F L HR K hK ls st h ht
  have hn := hn p l e s m args below meth c D dA A mc ms c0 z0 ad0 n0 post Q F L HR K hK
  have ha := ha p l e s m args below meth c D dA A mc ms c0 z0 ad0 n0 post Q F L HR K hK
  obtain ⟨x, r, rfl, ht⟩ := pO_s ht
  intro ad H locs lsA e1 e2 e3 e4 hP hD hS hH hF hl hv
  cases x with
  | none => exact lv_ifnonnullN F.1 F.2.1 hd (ha ls r h (ht.1 rfl) ad H locs lsA e1 e2 e3 e4 hP hD hS hH (okF_pop hF) hl hv)
  | some k => exact lv_ifnonnull F.1 F.2.1 hd hg (hn ls r h (ht.2 (fun q => by cases q)) ad H locs lsA e1 e2 e3 e4 hP hD hS hH (okF_pop hF) hl hv)

theorem snd_goto {md : MD} {lc lz pc : Nat} {off : Int} {tg : Nat} {nx : TT} (hd : decode md.2.1 pc = .ok (.goto off, 3)) (hg : (pc : Int) + off = (tg : Int)) (hn : Snd md lc lz tg nx) : Snd md lc lz pc nx := by
  intro p l e s m args below meth c D dA A mc ms c0 z0 ad0 n0 post Q F L HR K hK ls st h ht
  have hn := hn p l e s m args below meth c D dA A mc ms c0 z0 ad0 n0 post Q F L HR K hK
  intro ad H locs lsA e1 e2 e3 e4 hP hD hS hH hF hl hv
  exact lv_goto F.1 F.2.1 hd hg (hn ls st h ht ad H locs lsA e1 e2 e3 e4 hP hD hS hH hF hl hv)

def tt_cut (n : Nat) : TT := fun K _ ls st h => st = [] ∧ K n ls h
theorem snd_cut {md : MD} {lc lz pc : Nat} : Snd md lc lz pc (tt_cut pc) := by
  intro p l e s m args below meth c D dA A mc ms c0 z0 ad0 n0 post Q F L HR K hK ls st h ht
  obtain ⟨rfl, ht⟩ := ht
  exact hK _ _ _ ht
def tt_pop (nx : TT) : TT := fun K R ls st h => pV st (fun _ r => nx K R ls r h)
theorem snd_pop {md : MD} {lc lz pc : Nat} {nx : TT} (hd : decode md.2.1 pc = .ok (.pop, 1)) (hn : Snd md lc lz (pc + 1) nx) : Snd md lc lz pc (tt_pop nx) := by
  intro p l e s m args below meth c D dA A mc ms c0 z0 ad0 n0 post Q F L HR K hK ls st h ht
  have hn := hn p l e s m args below meth c D dA A mc ms c0 z0 ad0 n0 post Q F L HR K hK
  obtain ⟨v, r, rfl, hc, ht⟩ := pV_s ht
  intro ad H locs lsA e1 e2 e3 e4 hP hD hS hH hF hl hv
  exact lv_pop F.1 F.2.1 hd (hc ad) (hn ls r h ht ad H locs lsA e1 e2 e3 e4 hP hD hS hH (okF_pop hF) hl hv)

def tt_dup (nx : TT) : TT := fun K R ls st h => pV st (fun v r => nx K R ls (v :: v :: r) h)
theorem snd_dup {md : MD} {lc lz pc : Nat} {nx : TT} (hd : decode md.2.1 pc = .ok (.dup, 1)) (hn : Snd md lc lz (pc + 1) nx) : Snd md lc lz pc (tt_dup nx) := by
  intro p l e s m args below meth c D dA A mc ms c0 z0 ad0 n0 post Q F L HR K hK ls st h ht
  have hn := hn p l e s m args below meth c D dA A mc ms c0 z0 ad0 n0 post Q F L HR K hK
  obtain ⟨v, r, rfl, hc, ht⟩ := pV_s ht
  intro ad H locs lsA e1 e2 e3 e4 hP hD hS hH hF hl hv
  exact lv_dup F.1 F.2.1 hd (hc ad) (hn ls (v :: v :: r) h ht ad H locs lsA e1 e2 e3 e4 hP hD hS hH (okF_push hF (okF_top hF)) hl hv)

def tt_dup2 (nx : TT) : TT := fun K R ls st h => pV st (fun v r => pV r (fun w r => nx K R ls (v :: w :: v :: w :: r) h))
theorem snd_dup2 {md : MD} {lc lz pc : Nat} {nx : TT} (hd : decode md.2.1 pc = .ok (.dup2, 1)) (hn : Snd md lc lz (pc + 1) nx) : Snd md lc lz pc (tt_dup2 nx) := by
  intro p l e s m args below meth c D dA A mc ms c0 z0 ad0 n0 post Q F L HR K hK ls st h ht
  have hn := hn p l e s m args below meth c D dA A mc ms c0 z0 ad0 n0 post Q F L HR K hK
  obtain ⟨v, r, rfl, hc, ht⟩ := pV_s ht
  obtain ⟨w, r, rfl, hc2, ht⟩ := pV_s ht
  intro ad H locs lsA e1 e2 e3 e4 hP hD hS hH hF hl hv
  exact lv_dup2_11 F.1 F.2.1 hd (hc ad) (hc2 ad) (hn ls (v :: w :: v :: w :: r) h ht ad H locs lsA e1 e2 e3 e4 hP hD hS hH (okF_push (okF_push hF (okF_2nd hF)) (okF_top hF)) hl hv)

