/-! METHODS with many loop heads -/
def lkJ : List (Nat × (LSt → PH → Prop)) → Nat → LSt → PH → Prop
  | [], _, _, _ => False
  | (p, J) :: t, pc, ls, h => if pc = p then J ls h else lkJ t pc ls h
theorem lkJ_c {p : Nat} {J : LSt → PH → Prop} {t : List (Nat × (LSt → PH → Prop))} {pc : Nat} {ls : LSt} {h : PH} : lkJ ((p, J) :: t) pc ls h = if pc = p then J ls h else lkJ t pc ls h := rfl
theorem lkJ_mem : ∀ {Js : List (Nat × (LSt → PH → Prop))} {pc : Nat} {ls : LSt} {h : PH}, lkJ Js pc ls h → pc ∈ Js.map Prod.fst
  | [], _, _, _, h => h.elim
  | (p, J) :: t, pc, ls, h, hj => by
    by_cases e : pc = p
    · rw [e]; exact List.mem_cons_self
    · rw [lkJ_c, if_neg e] at hj
      exact List.mem_cons_of_mem _ (lkJ_mem hj)
theorem metJ {y : MethodName} {md : MD} {Ct : CtT} {body : TT} {cs : List (Nat × TT)} (hy : plainName y.cls = true) (hown : md.1 = y.cls) (hin : md.2.2.2.2.2.2 = false) (hb : ∀ lc lz, Snd md lc lz 0 body) (hcs : ∀ lc lz, ∀ q ∈ cs, Snd md lc lz q.1 q.2)
    (vc : ∀ (av : List PV) (h : PH) (post : TR), Ct av h post → okH h → (∀ v ∈ av, okV (hN h) v) → (entA av).length ≤ md.2.2.1 ∧ ∃ (Js : List (Nat × (LSt → PH → Prop))) (μ : Nat → LSt → PH → Nat), Js.map Prod.fst = cs.map Prod.fst ∧
      (∀ q ∈ cs, ∀ ls h', lkJ Js q.1 ls h' → q.2 (fun pc' ls' h'' => lkJ Js pc' ls' h'' ∧ μ pc' ls' h'' < μ q.1 ls h') (fun r h'' => post r h'' ∧ hC h'' = hC h ∧ hZ h'' = hZ h) ls [] h') ∧
      body (lkJ Js) (fun r h'' => post r h'' ∧ hC h'' = hC h ∧ hZ h'' = hZ h) (fitL md.2.2.1 (entA av)) [] h) : MetP y md (fun _ => 0) (fun _ => 0) Ct := by
  refine metL (body := body) (cs := cs) hy hown hin hb hcs (fun av h post a b c => ?_)
  obtain ⟨hl, Js, μ, e, v, z⟩ := vc av h post a b c
  refine ⟨hl, lkJ Js, μ, fun pc ls h' hj => ?_, v, z⟩
  have := lkJ_mem hj
  rw [e, List.mem_map] at this
  exact this
