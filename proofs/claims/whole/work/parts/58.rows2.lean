theorem snd_ldcw {md : MD} {lc lz pc : Nat} {n : Int} {nx : TT} {idx : Nat} (hd : decode md.2.1 pc = .ok (.ldc_w idx, 3)) (hz : inR n) (hw : Cond.constant md.1 idx (Int32.ofInt n) ∈ gw) (hn : Snd md lc lz (pc + 3) nx) : Snd md lc lz pc (tt_ci n nx) := by
  intro p l e s m args below meth c D dA A mc ms c0 z0 ad0 n0 post Q F L HR K hK ls st h ht
  have hn := hn p l e s m args below meth c D dA A mc ms c0 z0 ad0 n0 post Q F L HR K hK
  intro ad H locs lsA e1 e2 e3 e4 hP hD hS hH hF hl hv
  exact lv_ldcw F.1 F.2.1 F.2.2.2.2.2.1 (F.2.2.2.2.2.2.1 _ hw) hd (hn ls (.inl n :: st) h ht ad H locs lsA e1 e2 e3 e4 hP hD hS hH (okF_push hF hz) hl hv)
