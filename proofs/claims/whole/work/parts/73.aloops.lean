theorem metL7 {y : MethodName} {md : MD} {Ct : CtT} {body : TT} {p1 p2 p3 p4 p5 p6 p7 : Nat} {B1 B2 B3 B4 B5 B6 B7 : TT} (hy : plainName y.cls = true) (hown : md.1 = y.cls) (hin : md.2.2.2.2.2.2 = false) (hb : ∀ lc lz, Snd md lc lz 0 body) (h1 : ∀ lc lz, Snd md lc lz p1 B1) (h2 : ∀ lc lz, Snd md lc lz p2 B2) (h3 : ∀ lc lz, Snd md lc lz p3 B3) (h4 : ∀ lc lz, Snd md lc lz p4 B4) (h5 : ∀ lc lz, Snd md lc lz p5 B5) (h6 : ∀ lc lz, Snd md lc lz p6 B6) (h7 : ∀ lc lz, Snd md lc lz p7 B7) (hd : [p1, p2, p3, p4, p5, p6, p7].Nodup)
    (vc : ∀ (av : List PV) (h : PH) (post : TR), Ct av h post → okH h → (∀ v ∈ av, okV (hN h) v) → (entA av).length ≤ md.2.2.1 ∧ ∃ (J1 J2 J3 J4 J5 J6 J7 : LSt → PH → Prop) (μ : Nat → LSt → PH → Nat), (∀ ls h', J1 ls h' → B1 (fun pc' ls' h'' => (pc' = p1 ∧ J1 ls' h'' ∧ μ p1 ls' h'' < μ p1 ls h') ∨ (pc' = p2 ∧ J2 ls' h'' ∧ μ p2 ls' h'' < μ p1 ls h') ∨ (pc' = p3 ∧ J3 ls' h'' ∧ μ p3 ls' h'' < μ p1 ls h') ∨ (pc' = p4 ∧ J4 ls' h'' ∧ μ p4 ls' h'' < μ p1 ls h') ∨ (pc' = p5 ∧ J5 ls' h'' ∧ μ p5 ls' h'' < μ p1 ls h') ∨ (pc' = p6 ∧ J6 ls' h'' ∧ μ p6 ls' h'' < μ p1 ls h') ∨ (pc' = p7 ∧ J7 ls' h'' ∧ μ p7 ls' h'' < μ p1 ls h')) (fun r h'' => post r h'' ∧ hC h'' = hC h ∧ hZ h'' = hZ h) ls [] h') ∧ (∀ ls h', J2 ls h' → B2 (fun pc' ls' h'' => (pc' = p1 ∧ J1 ls' h'' ∧ μ p1 ls' h'' < μ p2 ls h') ∨ (pc' = p2 ∧ J2 ls' h'' ∧ μ p2 ls' h'' < μ p2 ls h') ∨ (pc' = p3 ∧ J3 ls' h'' ∧ μ p3 ls' h'' < μ p2 ls h') ∨ (pc' = p4 ∧ J4 ls' h'' ∧ μ p4 ls' h'' < μ p2 ls h') ∨ (pc' = p5 ∧ J5 ls' h'' ∧ μ p5 ls' h'' < μ p2 ls h') ∨ (pc' = p6 ∧ J6 ls' h'' ∧ μ p6 ls' h'' < μ p2 ls h') ∨ (pc' = p7 ∧ J7 ls' h'' ∧ μ p7 ls' h'' < μ p2 ls h')) (fun r h'' => post r h'' ∧ hC h'' = hC h ∧ hZ h'' = hZ h) ls [] h') ∧ (∀ ls h', J3 ls h' → B3 (fun pc' ls' h'' => (pc' = p1 ∧ J1 ls' h'' ∧ μ p1 ls' h'' < μ p3 ls h') ∨ (pc' = p2 ∧ J2 ls' h'' ∧ μ p2 ls' h'' < μ p3 ls h') ∨ (pc' = p3 ∧ J3 ls' h'' ∧ μ p3 ls' h'' < μ p3 ls h') ∨ (pc' = p4 ∧ J4 ls' h'' ∧ μ p4 ls' h'' < μ p3 ls h') ∨ (pc' = p5 ∧ J5 ls' h'' ∧ μ p5 ls' h'' < μ p3 ls h') ∨ (pc' = p6 ∧ J6 ls' h'' ∧ μ p6 ls' h'' < μ p3 ls h') ∨ (pc' = p7 ∧ J7 ls' h'' ∧ μ p7 ls' h'' < μ p3 ls h')) (fun r h'' => post r h'' ∧ hC h'' = hC h ∧ hZ h'' = hZ h) ls [] h') ∧ (∀ ls h', J4 ls h' → B4 (fun pc' ls' h'' => (pc' = p1 ∧ J1 ls' h'' ∧ μ p1 ls' h'' < μ p4 ls h') ∨ (pc' = p2 ∧ J2 ls' h'' ∧ μ p2 ls' h'' < μ p4 ls h') ∨ (pc' = p3 ∧ J3 ls' h'' ∧ μ p3 ls' h'' < μ p4 ls h') ∨ (pc' = p4 ∧ J4 ls' h'' ∧ μ p4 ls' h'' < μ p4 ls h') ∨ (pc' = p5 ∧ J5 ls' h'' ∧ μ p5 ls' h'' < μ p4 ls h') ∨ (pc' = p6 ∧ J6 ls' h'' ∧ μ p6 ls' h'' < μ p4 ls h') ∨ (pc' = p7 ∧ J7 ls' h'' ∧ μ p7 ls' h'' < μ p4 ls h')) (fun r h'' => post r h'' ∧ hC h'' = hC h ∧ hZ h'' = hZ h) ls [] h') ∧ (∀ ls h', J5 ls h' → B5 (fun pc' ls' h'' => (pc' = p1 ∧ J1 ls' h'' ∧ μ p1 ls' h'' < μ p5 ls h') ∨ (pc' = p2 ∧ J2 ls' h'' ∧ μ p2 ls' h'' < μ p5 ls h') ∨ (pc' = p3 ∧ J3 ls' h'' ∧ μ p3 ls' h'' < μ p5 ls h') ∨ (pc' = p4 ∧ J4 ls' h'' ∧ μ p4 ls' h'' < μ p5 ls h') ∨ (pc' = p5 ∧ J5 ls' h'' ∧ μ p5 ls' h'' < μ p5 ls h') ∨ (pc' = p6 ∧ J6 ls' h'' ∧ μ p6 ls' h'' < μ p5 ls h') ∨ (pc' = p7 ∧ J7 ls' h'' ∧ μ p7 ls' h'' < μ p5 ls h')) (fun r h'' => post r h'' ∧ hC h'' = hC h ∧ hZ h'' = hZ h) ls [] h') ∧ (∀ ls h', J6 ls h' → B6 (fun pc' ls' h'' => (pc' = p1 ∧ J1 ls' h'' ∧ μ p1 ls' h'' < μ p6 ls h') ∨ (pc' = p2 ∧ J2 ls' h'' ∧ μ p2 ls' h'' < μ p6 ls h') ∨ (pc' = p3 ∧ J3 ls' h'' ∧ μ p3 ls' h'' < μ p6 ls h') ∨ (pc' = p4 ∧ J4 ls' h'' ∧ μ p4 ls' h'' < μ p6 ls h') ∨ (pc' = p5 ∧ J5 ls' h'' ∧ μ p5 ls' h'' < μ p6 ls h') ∨ (pc' = p6 ∧ J6 ls' h'' ∧ μ p6 ls' h'' < μ p6 ls h') ∨ (pc' = p7 ∧ J7 ls' h'' ∧ μ p7 ls' h'' < μ p6 ls h')) (fun r h'' => post r h'' ∧ hC h'' = hC h ∧ hZ h'' = hZ h) ls [] h') ∧ (∀ ls h', J7 ls h' → B7 (fun pc' ls' h'' => (pc' = p1 ∧ J1 ls' h'' ∧ μ p1 ls' h'' < μ p7 ls h') ∨ (pc' = p2 ∧ J2 ls' h'' ∧ μ p2 ls' h'' < μ p7 ls h') ∨ (pc' = p3 ∧ J3 ls' h'' ∧ μ p3 ls' h'' < μ p7 ls h') ∨ (pc' = p4 ∧ J4 ls' h'' ∧ μ p4 ls' h'' < μ p7 ls h') ∨ (pc' = p5 ∧ J5 ls' h'' ∧ μ p5 ls' h'' < μ p7 ls h') ∨ (pc' = p6 ∧ J6 ls' h'' ∧ μ p6 ls' h'' < μ p7 ls h') ∨ (pc' = p7 ∧ J7 ls' h'' ∧ μ p7 ls' h'' < μ p7 ls h')) (fun r h'' => post r h'' ∧ hC h'' = hC h ∧ hZ h'' = hZ h) ls [] h') ∧
      body (fun pc' ls' h'' => (pc' = p1 ∧ J1 ls' h'') ∨ (pc' = p2 ∧ J2 ls' h'') ∨ (pc' = p3 ∧ J3 ls' h'') ∨ (pc' = p4 ∧ J4 ls' h'') ∨ (pc' = p5 ∧ J5 ls' h'') ∨ (pc' = p6 ∧ J6 ls' h'') ∨ (pc' = p7 ∧ J7 ls' h'')) (fun r h'' => post r h'' ∧ hC h'' = hC h ∧ hZ h'' = hZ h) (fitL md.2.2.1 (entA av)) [] h) : MetP y md (fun _ => 0) (fun _ => 0) Ct := by
  refine metL (body := body) (cs := [(p1, B1), (p2, B2), (p3, B3), (p4, B4), (p5, B5), (p6, B6), (p7, B7)]) hy hown hin hb (fun lc lz q hq => ?_) (fun av h post a b c => ?_)
  · simp only [List.mem_cons, List.not_mem_nil, or_false] at hq
    rcases hq with rfl | rfl | rfl | rfl | rfl | rfl | rfl
    · exact h1 lc lz
    · exact h2 lc lz
    · exact h3 lc lz
    · exact h4 lc lz
    · exact h5 lc lz
    · exact h6 lc lz
    · exact h7 lc lz
  · obtain ⟨hl, J1, J2, J3, J4, J5, J6, J7, μ, v1, v2, v3, v4, v5, v6, v7, hz⟩ := vc av h post a b c
    refine ⟨hl, fun pc' ls' h'' => (pc' = p1 ∧ J1 ls' h'') ∨ (pc' = p2 ∧ J2 ls' h'') ∨ (pc' = p3 ∧ J3 ls' h'') ∨ (pc' = p4 ∧ J4 ls' h'') ∨ (pc' = p5 ∧ J5 ls' h'') ∨ (pc' = p6 ∧ J6 ls' h'') ∨ (pc' = p7 ∧ J7 ls' h''), μ, ?_, ?_, hz⟩
    · intro pc ls h' hi
      rcases hi with ⟨e, -⟩ | ⟨e, -⟩ | ⟨e, -⟩ | ⟨e, -⟩ | ⟨e, -⟩ | ⟨e, -⟩ | ⟨e, -⟩
      · exact ⟨(p1, B1), by simp, e.symm⟩
      · exact ⟨(p2, B2), by simp, e.symm⟩
      · exact ⟨(p3, B3), by simp, e.symm⟩
      · exact ⟨(p4, B4), by simp, e.symm⟩
      · exact ⟨(p5, B5), by simp, e.symm⟩
      · exact ⟨(p6, B6), by simp, e.symm⟩
      · exact ⟨(p7, B7), by simp, e.symm⟩
    · intro q hq ls h' hi
      simp only [List.mem_cons, List.not_mem_nil, or_false] at hq
      simp only [List.nodup_cons, List.mem_cons, List.not_mem_nil, or_false, not_or, List.nodup_nil, and_true, not_false_eq_true] at hd
      rcases hq with rfl | rfl | rfl | rfl | rfl | rfl | rfl
      · have hj : J1 ls h' := by
          rcases hi with ⟨e, hj⟩ | ⟨e, hj⟩ | ⟨e, hj⟩ | ⟨e, hj⟩ | ⟨e, hj⟩ | ⟨e, hj⟩ | ⟨e, hj⟩
          · exact hj
          · exfalso; omega
          · exfalso; omega
          · exfalso; omega
          · exfalso; omega
          · exfalso; omega
          · exfalso; omega
        have g := v1 ls h' hj
        have e : (fun pc' ls' h'' => ((pc' = p1 ∧ J1 ls' h'') ∨ (pc' = p2 ∧ J2 ls' h'') ∨ (pc' = p3 ∧ J3 ls' h'') ∨ (pc' = p4 ∧ J4 ls' h'') ∨ (pc' = p5 ∧ J5 ls' h'') ∨ (pc' = p6 ∧ J6 ls' h'') ∨ (pc' = p7 ∧ J7 ls' h'')) ∧ μ pc' ls' h'' < μ p1 ls h') = (fun pc' ls' h'' => (pc' = p1 ∧ J1 ls' h'' ∧ μ p1 ls' h'' < μ p1 ls h') ∨ (pc' = p2 ∧ J2 ls' h'' ∧ μ p2 ls' h'' < μ p1 ls h') ∨ (pc' = p3 ∧ J3 ls' h'' ∧ μ p3 ls' h'' < μ p1 ls h') ∨ (pc' = p4 ∧ J4 ls' h'' ∧ μ p4 ls' h'' < μ p1 ls h') ∨ (pc' = p5 ∧ J5 ls' h'' ∧ μ p5 ls' h'' < μ p1 ls h') ∨ (pc' = p6 ∧ J6 ls' h'' ∧ μ p6 ls' h'' < μ p1 ls h') ∨ (pc' = p7 ∧ J7 ls' h'' ∧ μ p7 ls' h'' < μ p1 ls h')) := by
          funext pc' ls' h''
          apply propext
          constructor
          · rintro ⟨⟨rfl, z⟩ | ⟨rfl, z⟩ | ⟨rfl, z⟩ | ⟨rfl, z⟩ | ⟨rfl, z⟩ | ⟨rfl, z⟩ | ⟨rfl, z⟩, z2⟩
            · exact Or.inl ⟨rfl, z, z2⟩
            · exact Or.inr (Or.inl ⟨rfl, z, z2⟩)
            · exact Or.inr (Or.inr (Or.inl ⟨rfl, z, z2⟩))
            · exact Or.inr (Or.inr (Or.inr (Or.inl ⟨rfl, z, z2⟩)))
            · exact Or.inr (Or.inr (Or.inr (Or.inr (Or.inl ⟨rfl, z, z2⟩))))
            · exact Or.inr (Or.inr (Or.inr (Or.inr (Or.inr (Or.inl ⟨rfl, z, z2⟩)))))
            · exact Or.inr (Or.inr (Or.inr (Or.inr (Or.inr (Or.inr (⟨rfl, z, z2⟩))))))
          · rintro (⟨rfl, z, z2⟩ | ⟨rfl, z, z2⟩ | ⟨rfl, z, z2⟩ | ⟨rfl, z, z2⟩ | ⟨rfl, z, z2⟩ | ⟨rfl, z, z2⟩ | ⟨rfl, z, z2⟩)
            · exact ⟨Or.inl ⟨rfl, z⟩, z2⟩
            · exact ⟨Or.inr (Or.inl ⟨rfl, z⟩), z2⟩
            · exact ⟨Or.inr (Or.inr (Or.inl ⟨rfl, z⟩)), z2⟩
            · exact ⟨Or.inr (Or.inr (Or.inr (Or.inl ⟨rfl, z⟩))), z2⟩
            · exact ⟨Or.inr (Or.inr (Or.inr (Or.inr (Or.inl ⟨rfl, z⟩)))), z2⟩
            · exact ⟨Or.inr (Or.inr (Or.inr (Or.inr (Or.inr (Or.inl ⟨rfl, z⟩))))), z2⟩
            · exact ⟨Or.inr (Or.inr (Or.inr (Or.inr (Or.inr (Or.inr (⟨rfl, z⟩)))))), z2⟩
        show B1 (fun pc' ls' h'' => ((pc' = p1 ∧ J1 ls' h'') ∨ (pc' = p2 ∧ J2 ls' h'') ∨ (pc' = p3 ∧ J3 ls' h'') ∨ (pc' = p4 ∧ J4 ls' h'') ∨ (pc' = p5 ∧ J5 ls' h'') ∨ (pc' = p6 ∧ J6 ls' h'') ∨ (pc' = p7 ∧ J7 ls' h'')) ∧ μ pc' ls' h'' < μ p1 ls h') _ ls [] h'
        rw [e]
        exact g
      · have hj : J2 ls h' := by
          rcases hi with ⟨e, hj⟩ | ⟨e, hj⟩ | ⟨e, hj⟩ | ⟨e, hj⟩ | ⟨e, hj⟩ | ⟨e, hj⟩ | ⟨e, hj⟩
          · exfalso; omega
          · exact hj
          · exfalso; omega
          · exfalso; omega
          · exfalso; omega
          · exfalso; omega
          · exfalso; omega
        have g := v2 ls h' hj
        have e : (fun pc' ls' h'' => ((pc' = p1 ∧ J1 ls' h'') ∨ (pc' = p2 ∧ J2 ls' h'') ∨ (pc' = p3 ∧ J3 ls' h'') ∨ (pc' = p4 ∧ J4 ls' h'') ∨ (pc' = p5 ∧ J5 ls' h'') ∨ (pc' = p6 ∧ J6 ls' h'') ∨ (pc' = p7 ∧ J7 ls' h'')) ∧ μ pc' ls' h'' < μ p2 ls h') = (fun pc' ls' h'' => (pc' = p1 ∧ J1 ls' h'' ∧ μ p1 ls' h'' < μ p2 ls h') ∨ (pc' = p2 ∧ J2 ls' h'' ∧ μ p2 ls' h'' < μ p2 ls h') ∨ (pc' = p3 ∧ J3 ls' h'' ∧ μ p3 ls' h'' < μ p2 ls h') ∨ (pc' = p4 ∧ J4 ls' h'' ∧ μ p4 ls' h'' < μ p2 ls h') ∨ (pc' = p5 ∧ J5 ls' h'' ∧ μ p5 ls' h'' < μ p2 ls h') ∨ (pc' = p6 ∧ J6 ls' h'' ∧ μ p6 ls' h'' < μ p2 ls h') ∨ (pc' = p7 ∧ J7 ls' h'' ∧ μ p7 ls' h'' < μ p2 ls h')) := by
          funext pc' ls' h''
          apply propext
          constructor
          · rintro ⟨⟨rfl, z⟩ | ⟨rfl, z⟩ | ⟨rfl, z⟩ | ⟨rfl, z⟩ | ⟨rfl, z⟩ | ⟨rfl, z⟩ | ⟨rfl, z⟩, z2⟩
            · exact Or.inl ⟨rfl, z, z2⟩
            · exact Or.inr (Or.inl ⟨rfl, z, z2⟩)
            · exact Or.inr (Or.inr (Or.inl ⟨rfl, z, z2⟩))
            · exact Or.inr (Or.inr (Or.inr (Or.inl ⟨rfl, z, z2⟩)))
            · exact Or.inr (Or.inr (Or.inr (Or.inr (Or.inl ⟨rfl, z, z2⟩))))
            · exact Or.inr (Or.inr (Or.inr (Or.inr (Or.inr (Or.inl ⟨rfl, z, z2⟩)))))
            · exact Or.inr (Or.inr (Or.inr (Or.inr (Or.inr (Or.inr (⟨rfl, z, z2⟩))))))
          · rintro (⟨rfl, z, z2⟩ | ⟨rfl, z, z2⟩ | ⟨rfl, z, z2⟩ | ⟨rfl, z, z2⟩ | ⟨rfl, z, z2⟩ | ⟨rfl, z, z2⟩ | ⟨rfl, z, z2⟩)
            · exact ⟨Or.inl ⟨rfl, z⟩, z2⟩
            · exact ⟨Or.inr (Or.inl ⟨rfl, z⟩), z2⟩
            · exact ⟨Or.inr (Or.inr (Or.inl ⟨rfl, z⟩)), z2⟩
            · exact ⟨Or.inr (Or.inr (Or.inr (Or.inl ⟨rfl, z⟩))), z2⟩
            · exact ⟨Or.inr (Or.inr (Or.inr (Or.inr (Or.inl ⟨rfl, z⟩)))), z2⟩
            · exact ⟨Or.inr (Or.inr (Or.inr (Or.inr (Or.inr (Or.inl ⟨rfl, z⟩))))), z2⟩
            · exact ⟨Or.inr (Or.inr (Or.inr (Or.inr (Or.inr (Or.inr (⟨rfl, z⟩)))))), z2⟩
        show B2 (fun pc' ls' h'' => ((pc' = p1 ∧ J1 ls' h'') ∨ (pc' = p2 ∧ J2 ls' h'') ∨ (pc' = p3 ∧ J3 ls' h'') ∨ (pc' = p4 ∧ J4 ls' h'') ∨ (pc' = p5 ∧ J5 ls' h'') ∨ (pc' = p6 ∧ J6 ls' h'') ∨ (pc' = p7 ∧ J7 ls' h'')) ∧ μ pc' ls' h'' < μ p2 ls h') _ ls [] h'
        rw [e]
        exact g
      · have hj : J3 ls h' := by
          rcases hi with ⟨e, hj⟩ | ⟨e, hj⟩ | ⟨e, hj⟩ | ⟨e, hj⟩ | ⟨e, hj⟩ | ⟨e, hj⟩ | ⟨e, hj⟩
          · exfalso; omega
          · exfalso; omega
          · exact hj
          · exfalso; omega
          · exfalso; omega
          · exfalso; omega
          · exfalso; omega
        have g := v3 ls h' hj
        have e : (fun pc' ls' h'' => ((pc' = p1 ∧ J1 ls' h'') ∨ (pc' = p2 ∧ J2 ls' h'') ∨ (pc' = p3 ∧ J3 ls' h'') ∨ (pc' = p4 ∧ J4 ls' h'') ∨ (pc' = p5 ∧ J5 ls' h'') ∨ (pc' = p6 ∧ J6 ls' h'') ∨ (pc' = p7 ∧ J7 ls' h'')) ∧ μ pc' ls' h'' < μ p3 ls h') = (fun pc' ls' h'' => (pc' = p1 ∧ J1 ls' h'' ∧ μ p1 ls' h'' < μ p3 ls h') ∨ (pc' = p2 ∧ J2 ls' h'' ∧ μ p2 ls' h'' < μ p3 ls h') ∨ (pc' = p3 ∧ J3 ls' h'' ∧ μ p3 ls' h'' < μ p3 ls h') ∨ (pc' = p4 ∧ J4 ls' h'' ∧ μ p4 ls' h'' < μ p3 ls h') ∨ (pc' = p5 ∧ J5 ls' h'' ∧ μ p5 ls' h'' < μ p3 ls h') ∨ (pc' = p6 ∧ J6 ls' h'' ∧ μ p6 ls' h'' < μ p3 ls h') ∨ (pc' = p7 ∧ J7 ls' h'' ∧ μ p7 ls' h'' < μ p3 ls h')) := by
          funext pc' ls' h''
          apply propext
          constructor
          · rintro ⟨⟨rfl, z⟩ | ⟨rfl, z⟩ | ⟨rfl, z⟩ | ⟨rfl, z⟩ | ⟨rfl, z⟩ | ⟨rfl, z⟩ | ⟨rfl, z⟩, z2⟩
            · exact Or.inl ⟨rfl, z, z2⟩
            · exact Or.inr (Or.inl ⟨rfl, z, z2⟩)
            · exact Or.inr (Or.inr (Or.inl ⟨rfl, z, z2⟩))
            · exact Or.inr (Or.inr (Or.inr (Or.inl ⟨rfl, z, z2⟩)))
            · exact Or.inr (Or.inr (Or.inr (Or.inr (Or.inl ⟨rfl, z, z2⟩))))
            · exact Or.inr (Or.inr (Or.inr (Or.inr (Or.inr (Or.inl ⟨rfl, z, z2⟩)))))
            · exact Or.inr (Or.inr (Or.inr (Or.inr (Or.inr (Or.inr (⟨rfl, z, z2⟩))))))
          · rintro (⟨rfl, z, z2⟩ | ⟨rfl, z, z2⟩ | ⟨rfl, z, z2⟩ | ⟨rfl, z, z2⟩ | ⟨rfl, z, z2⟩ | ⟨rfl, z, z2⟩ | ⟨rfl, z, z2⟩)
            · exact ⟨Or.inl ⟨rfl, z⟩, z2⟩
            · exact ⟨Or.inr (Or.inl ⟨rfl, z⟩), z2⟩
            · exact ⟨Or.inr (Or.inr (Or.inl ⟨rfl, z⟩)), z2⟩
            · exact ⟨Or.inr (Or.inr (Or.inr (Or.inl ⟨rfl, z⟩))), z2⟩
            · exact ⟨Or.inr (Or.inr (Or.inr (Or.inr (Or.inl ⟨rfl, z⟩)))), z2⟩
            · exact ⟨Or.inr (Or.inr (Or.inr (Or.inr (Or.inr (Or.inl ⟨rfl, z⟩))))), z2⟩
            · exact ⟨Or.inr (Or.inr (Or.inr (Or.inr (Or.inr (Or.inr (⟨rfl, z⟩)))))), z2⟩
        show B3 (fun pc' ls' h'' => ((pc' = p1 ∧ J1 ls' h'') ∨ (pc' = p2 ∧ J2 ls' h'') ∨ (pc' = p3 ∧ J3 ls' h'') ∨ (pc' = p4 ∧ J4 ls' h'') ∨ (pc' = p5 ∧ J5 ls' h'') ∨ (pc' = p6 ∧ J6 ls' h'') ∨ (pc' = p7 ∧ J7 ls' h'')) ∧ μ pc' ls' h'' < μ p3 ls h') _ ls [] h'
        rw [e]
        exact g
      · have hj : J4 ls h' := by
          rcases hi with ⟨e, hj⟩ | ⟨e, hj⟩ | ⟨e, hj⟩ | ⟨e, hj⟩ | ⟨e, hj⟩ | ⟨e, hj⟩ | ⟨e, hj⟩
          · exfalso; omega
          · exfalso; omega
          · exfalso; omega
          · exact hj
          · exfalso; omega
          · exfalso; omega
          · exfalso; omega
        have g := v4 ls h' hj
        have e : (fun pc' ls' h'' => ((pc' = p1 ∧ J1 ls' h'') ∨ (pc' = p2 ∧ J2 ls' h'') ∨ (pc' = p3 ∧ J3 ls' h'') ∨ (pc' = p4 ∧ J4 ls' h'') ∨ (pc' = p5 ∧ J5 ls' h'') ∨ (pc' = p6 ∧ J6 ls' h'') ∨ (pc' = p7 ∧ J7 ls' h'')) ∧ μ pc' ls' h'' < μ p4 ls h') = (fun pc' ls' h'' => (pc' = p1 ∧ J1 ls' h'' ∧ μ p1 ls' h'' < μ p4 ls h') ∨ (pc' = p2 ∧ J2 ls' h'' ∧ μ p2 ls' h'' < μ p4 ls h') ∨ (pc' = p3 ∧ J3 ls' h'' ∧ μ p3 ls' h'' < μ p4 ls h') ∨ (pc' = p4 ∧ J4 ls' h'' ∧ μ p4 ls' h'' < μ p4 ls h') ∨ (pc' = p5 ∧ J5 ls' h'' ∧ μ p5 ls' h'' < μ p4 ls h') ∨ (pc' = p6 ∧ J6 ls' h'' ∧ μ p6 ls' h'' < μ p4 ls h') ∨ (pc' = p7 ∧ J7 ls' h'' ∧ μ p7 ls' h'' < μ p4 ls h')) := by
          funext pc' ls' h''
          apply propext
          constructor
          · rintro ⟨⟨rfl, z⟩ | ⟨rfl, z⟩ | ⟨rfl, z⟩ | ⟨rfl, z⟩ | ⟨rfl, z⟩ | ⟨rfl, z⟩ | ⟨rfl, z⟩, z2⟩
            · exact Or.inl ⟨rfl, z, z2⟩
            · exact Or.inr (Or.inl ⟨rfl, z, z2⟩)
            · exact Or.inr (Or.inr (Or.inl ⟨rfl, z, z2⟩))
            · exact Or.inr (Or.inr (Or.inr (Or.inl ⟨rfl, z, z2⟩)))
            · exact Or.inr (Or.inr (Or.inr (Or.inr (Or.inl ⟨rfl, z, z2⟩))))
            · exact Or.inr (Or.inr (Or.inr (Or.inr (Or.inr (Or.inl ⟨rfl, z, z2⟩)))))
            · exact Or.inr (Or.inr (Or.inr (Or.inr (Or.inr (Or.inr (⟨rfl, z, z2⟩))))))
          · rintro (⟨rfl, z, z2⟩ | ⟨rfl, z, z2⟩ | ⟨rfl, z, z2⟩ | ⟨rfl, z, z2⟩ | ⟨rfl, z, z2⟩ | ⟨rfl, z, z2⟩ | ⟨rfl, z, z2⟩)
            · exact ⟨Or.inl ⟨rfl, z⟩, z2⟩
            · exact ⟨Or.inr (Or.inl ⟨rfl, z⟩), z2⟩
            · exact ⟨Or.inr (Or.inr (Or.inl ⟨rfl, z⟩)), z2⟩
            · exact ⟨Or.inr (Or.inr (Or.inr (Or.inl ⟨rfl, z⟩))), z2⟩
            · exact ⟨Or.inr (Or.inr (Or.inr (Or.inr (Or.inl ⟨rfl, z⟩)))), z2⟩
            · exact ⟨Or.inr (Or.inr (Or.inr (Or.inr (Or.inr (Or.inl ⟨rfl, z⟩))))), z2⟩
            · exact ⟨Or.inr (Or.inr (Or.inr (Or.inr (Or.inr (Or.inr (⟨rfl, z⟩)))))), z2⟩
        show B4 (fun pc' ls' h'' => ((pc' = p1 ∧ J1 ls' h'') ∨ (pc' = p2 ∧ J2 ls' h'') ∨ (pc' = p3 ∧ J3 ls' h'') ∨ (pc' = p4 ∧ J4 ls' h'') ∨ (pc' = p5 ∧ J5 ls' h'') ∨ (pc' = p6 ∧ J6 ls' h'') ∨ (pc' = p7 ∧ J7 ls' h'')) ∧ μ pc' ls' h'' < μ p4 ls h') _ ls [] h'
        rw [e]
        exact g
      · have hj : J5 ls h' := by
          rcases hi with ⟨e, hj⟩ | ⟨e, hj⟩ | ⟨e, hj⟩ | ⟨e, hj⟩ | ⟨e, hj⟩ | ⟨e, hj⟩ | ⟨e, hj⟩
          · exfalso; omega
          · exfalso; omega
          · exfalso; omega
          · exfalso; omega
          · exact hj
          · exfalso; omega
          · exfalso; omega
        have g := v5 ls h' hj
        have e : (fun pc' ls' h'' => ((pc' = p1 ∧ J1 ls' h'') ∨ (pc' = p2 ∧ J2 ls' h'') ∨ (pc' = p3 ∧ J3 ls' h'') ∨ (pc' = p4 ∧ J4 ls' h'') ∨ (pc' = p5 ∧ J5 ls' h'') ∨ (pc' = p6 ∧ J6 ls' h'') ∨ (pc' = p7 ∧ J7 ls' h'')) ∧ μ pc' ls' h'' < μ p5 ls h') = (fun pc' ls' h'' => (pc' = p1 ∧ J1 ls' h'' ∧ μ p1 ls' h'' < μ p5 ls h') ∨ (pc' = p2 ∧ J2 ls' h'' ∧ μ p2 ls' h'' < μ p5 ls h') ∨ (pc' = p3 ∧ J3 ls' h'' ∧ μ p3 ls' h'' < μ p5 ls h') ∨ (pc' = p4 ∧ J4 ls' h'' ∧ μ p4 ls' h'' < μ p5 ls h') ∨ (pc' = p5 ∧ J5 ls' h'' ∧ μ p5 ls' h'' < μ p5 ls h') ∨ (pc' = p6 ∧ J6 ls' h'' ∧ μ p6 ls' h'' < μ p5 ls h') ∨ (pc' = p7 ∧ J7 ls' h'' ∧ μ p7 ls' h'' < μ p5 ls h')) := by
          funext pc' ls' h''
          apply propext
          constructor
          · rintro ⟨⟨rfl, z⟩ | ⟨rfl, z⟩ | ⟨rfl, z⟩ | ⟨rfl, z⟩ | ⟨rfl, z⟩ | ⟨rfl, z⟩ | ⟨rfl, z⟩, z2⟩
            · exact Or.inl ⟨rfl, z, z2⟩
            · exact Or.inr (Or.inl ⟨rfl, z, z2⟩)
            · exact Or.inr (Or.inr (Or.inl ⟨rfl, z, z2⟩))
            · exact Or.inr (Or.inr (Or.inr (Or.inl ⟨rfl, z, z2⟩)))
            · exact Or.inr (Or.inr (Or.inr (Or.inr (Or.inl ⟨rfl, z, z2⟩))))
            · exact Or.inr (Or.inr (Or.inr (Or.inr (Or.inr (Or.inl ⟨rfl, z, z2⟩)))))
            · exact Or.inr (Or.inr (Or.inr (Or.inr (Or.inr (Or.inr (⟨rfl, z, z2⟩))))))
          · rintro (⟨rfl, z, z2⟩ | ⟨rfl, z, z2⟩ | ⟨rfl, z, z2⟩ | ⟨rfl, z, z2⟩ | ⟨rfl, z, z2⟩ | ⟨rfl, z, z2⟩ | ⟨rfl, z, z2⟩)
            · exact ⟨Or.inl ⟨rfl, z⟩, z2⟩
            · exact ⟨Or.inr (Or.inl ⟨rfl, z⟩), z2⟩
            · exact ⟨Or.inr (Or.inr (Or.inl ⟨rfl, z⟩)), z2⟩
            · exact ⟨Or.inr (Or.inr (Or.inr (Or.inl ⟨rfl, z⟩))), z2⟩
            · exact ⟨Or.inr (Or.inr (Or.inr (Or.inr (Or.inl ⟨rfl, z⟩)))), z2⟩
            · exact ⟨Or.inr (Or.inr (Or.inr (Or.inr (Or.inr (Or.inl ⟨rfl, z⟩))))), z2⟩
            · exact ⟨Or.inr (Or.inr (Or.inr (Or.inr (Or.inr (Or.inr (⟨rfl, z⟩)))))), z2⟩
        show B5 (fun pc' ls' h'' => ((pc' = p1 ∧ J1 ls' h'') ∨ (pc' = p2 ∧ J2 ls' h'') ∨ (pc' = p3 ∧ J3 ls' h'') ∨ (pc' = p4 ∧ J4 ls' h'') ∨ (pc' = p5 ∧ J5 ls' h'') ∨ (pc' = p6 ∧ J6 ls' h'') ∨ (pc' = p7 ∧ J7 ls' h'')) ∧ μ pc' ls' h'' < μ p5 ls h') _ ls [] h'
        rw [e]
        exact g
      · have hj : J6 ls h' := by
          rcases hi with ⟨e, hj⟩ | ⟨e, hj⟩ | ⟨e, hj⟩ | ⟨e, hj⟩ | ⟨e, hj⟩ | ⟨e, hj⟩ | ⟨e, hj⟩
          · exfalso; omega
          · exfalso; omega
          · exfalso; omega
          · exfalso; omega
          · exfalso; omega
          · exact hj
          · exfalso; omega
        have g := v6 ls h' hj
        have e : (fun pc' ls' h'' => ((pc' = p1 ∧ J1 ls' h'') ∨ (pc' = p2 ∧ J2 ls' h'') ∨ (pc' = p3 ∧ J3 ls' h'') ∨ (pc' = p4 ∧ J4 ls' h'') ∨ (pc' = p5 ∧ J5 ls' h'') ∨ (pc' = p6 ∧ J6 ls' h'') ∨ (pc' = p7 ∧ J7 ls' h'')) ∧ μ pc' ls' h'' < μ p6 ls h') = (fun pc' ls' h'' => (pc' = p1 ∧ J1 ls' h'' ∧ μ p1 ls' h'' < μ p6 ls h') ∨ (pc' = p2 ∧ J2 ls' h'' ∧ μ p2 ls' h'' < μ p6 ls h') ∨ (pc' = p3 ∧ J3 ls' h'' ∧ μ p3 ls' h'' < μ p6 ls h') ∨ (pc' = p4 ∧ J4 ls' h'' ∧ μ p4 ls' h'' < μ p6 ls h') ∨ (pc' = p5 ∧ J5 ls' h'' ∧ μ p5 ls' h'' < μ p6 ls h') ∨ (pc' = p6 ∧ J6 ls' h'' ∧ μ p6 ls' h'' < μ p6 ls h') ∨ (pc' = p7 ∧ J7 ls' h'' ∧ μ p7 ls' h'' < μ p6 ls h')) := by
          funext pc' ls' h''
          apply propext
          constructor
          · rintro ⟨⟨rfl, z⟩ | ⟨rfl, z⟩ | ⟨rfl, z⟩ | ⟨rfl, z⟩ | ⟨rfl, z⟩ | ⟨rfl, z⟩ | ⟨rfl, z⟩, z2⟩
            · exact Or.inl ⟨rfl, z, z2⟩
            · exact Or.inr (Or.inl ⟨rfl, z, z2⟩)
            · exact Or.inr (Or.inr (Or.inl ⟨rfl, z, z2⟩))
            · exact Or.inr (Or.inr (Or.inr (Or.inl ⟨rfl, z, z2⟩)))
            · exact Or.inr (Or.inr (Or.inr (Or.inr (Or.inl ⟨rfl, z, z2⟩))))
            · exact Or.inr (Or.inr (Or.inr (Or.inr (Or.inr (Or.inl ⟨rfl, z, z2⟩)))))
            · exact Or.inr (Or.inr (Or.inr (Or.inr (Or.inr (Or.inr (⟨rfl, z, z2⟩))))))
          · rintro (⟨rfl, z, z2⟩ | ⟨rfl, z, z2⟩ | ⟨rfl, z, z2⟩ | ⟨rfl, z, z2⟩ | ⟨rfl, z, z2⟩ | ⟨rfl, z, z2⟩ | ⟨rfl, z, z2⟩)
            · exact ⟨Or.inl ⟨rfl, z⟩, z2⟩
            · exact ⟨Or.inr (Or.inl ⟨rfl, z⟩), z2⟩
            · exact ⟨Or.inr (Or.inr (Or.inl ⟨rfl, z⟩)), z2⟩
            · exact ⟨Or.inr (Or.inr (Or.inr (Or.inl ⟨rfl, z⟩))), z2⟩
            · exact ⟨Or.inr (Or.inr (Or.inr (Or.inr (Or.inl ⟨rfl, z⟩)))), z2⟩
            · exact ⟨Or.inr (Or.inr (Or.inr (Or.inr (Or.inr (Or.inl ⟨rfl, z⟩))))), z2⟩
            · exact ⟨Or.inr (Or.inr (Or.inr (Or.inr (Or.inr (Or.inr (⟨rfl, z⟩)))))), z2⟩
        show B6 (fun pc' ls' h'' => ((pc' = p1 ∧ J1 ls' h'') ∨ (pc' = p2 ∧ J2 ls' h'') ∨ (pc' = p3 ∧ J3 ls' h'') ∨ (pc' = p4 ∧ J4 ls' h'') ∨ (pc' = p5 ∧ J5 ls' h'') ∨ (pc' = p6 ∧ J6 ls' h'') ∨ (pc' = p7 ∧ J7 ls' h'')) ∧ μ pc' ls' h'' < μ p6 ls h') _ ls [] h'
        rw [e]
        exact g
      · have hj : J7 ls h' := by
          rcases hi with ⟨e, hj⟩ | ⟨e, hj⟩ | ⟨e, hj⟩ | ⟨e, hj⟩ | ⟨e, hj⟩ | ⟨e, hj⟩ | ⟨e, hj⟩
          · exfalso; omega
          · exfalso; omega
          · exfalso; omega
          · exfalso; omega
          · exfalso; omega
          · exfalso; omega
          · exact hj
        have g := v7 ls h' hj
        have e : (fun pc' ls' h'' => ((pc' = p1 ∧ J1 ls' h'') ∨ (pc' = p2 ∧ J2 ls' h'') ∨ (pc' = p3 ∧ J3 ls' h'') ∨ (pc' = p4 ∧ J4 ls' h'') ∨ (pc' = p5 ∧ J5 ls' h'') ∨ (pc' = p6 ∧ J6 ls' h'') ∨ (pc' = p7 ∧ J7 ls' h'')) ∧ μ pc' ls' h'' < μ p7 ls h') = (fun pc' ls' h'' => (pc' = p1 ∧ J1 ls' h'' ∧ μ p1 ls' h'' < μ p7 ls h') ∨ (pc' = p2 ∧ J2 ls' h'' ∧ μ p2 ls' h'' < μ p7 ls h') ∨ (pc' = p3 ∧ J3 ls' h'' ∧ μ p3 ls' h'' < μ p7 ls h') ∨ (pc' = p4 ∧ J4 ls' h'' ∧ μ p4 ls' h'' < μ p7 ls h') ∨ (pc' = p5 ∧ J5 ls' h'' ∧ μ p5 ls' h'' < μ p7 ls h') ∨ (pc' = p6 ∧ J6 ls' h'' ∧ μ p6 ls' h'' < μ p7 ls h') ∨ (pc' = p7 ∧ J7 ls' h'' ∧ μ p7 ls' h'' < μ p7 ls h')) := by
          funext pc' ls' h''
          apply propext
          constructor
          · rintro ⟨⟨rfl, z⟩ | ⟨rfl, z⟩ | ⟨rfl, z⟩ | ⟨rfl, z⟩ | ⟨rfl, z⟩ | ⟨rfl, z⟩ | ⟨rfl, z⟩, z2⟩
            · exact Or.inl ⟨rfl, z, z2⟩
            · exact Or.inr (Or.inl ⟨rfl, z, z2⟩)
            · exact Or.inr (Or.inr (Or.inl ⟨rfl, z, z2⟩))
            · exact Or.inr (Or.inr (Or.inr (Or.inl ⟨rfl, z, z2⟩)))
            · exact Or.inr (Or.inr (Or.inr (Or.inr (Or.inl ⟨rfl, z, z2⟩))))
            · exact Or.inr (Or.inr (Or.inr (Or.inr (Or.inr (Or.inl ⟨rfl, z, z2⟩)))))
            · exact Or.inr (Or.inr (Or.inr (Or.inr (Or.inr (Or.inr (⟨rfl, z, z2⟩))))))
          · rintro (⟨rfl, z, z2⟩ | ⟨rfl, z, z2⟩ | ⟨rfl, z, z2⟩ | ⟨rfl, z, z2⟩ | ⟨rfl, z, z2⟩ | ⟨rfl, z, z2⟩ | ⟨rfl, z, z2⟩)
            · exact ⟨Or.inl ⟨rfl, z⟩, z2⟩
            · exact ⟨Or.inr (Or.inl ⟨rfl, z⟩), z2⟩
            · exact ⟨Or.inr (Or.inr (Or.inl ⟨rfl, z⟩)), z2⟩
            · exact ⟨Or.inr (Or.inr (Or.inr (Or.inl ⟨rfl, z⟩))), z2⟩
            · exact ⟨Or.inr (Or.inr (Or.inr (Or.inr (Or.inl ⟨rfl, z⟩)))), z2⟩
            · exact ⟨Or.inr (Or.inr (Or.inr (Or.inr (Or.inr (Or.inl ⟨rfl, z⟩))))), z2⟩
            · exact ⟨Or.inr (Or.inr (Or.inr (Or.inr (Or.inr (Or.inr (⟨rfl, z⟩)))))), z2⟩
        show B7 (fun pc' ls' h'' => ((pc' = p1 ∧ J1 ls' h'') ∨ (pc' = p2 ∧ J2 ls' h'') ∨ (pc' = p3 ∧ J3 ls' h'') ∨ (pc' = p4 ∧ J4 ls' h'') ∨ (pc' = p5 ∧ J5 ls' h'') ∨ (pc' = p6 ∧ J6 ls' h'') ∨ (pc' = p7 ∧ J7 ls' h'')) ∧ μ pc' ls' h'' < μ p7 ls h') _ ls [] h'
        rw [e]
        exact g
theorem metL8 {y : MethodName} {md : MD} {Ct : CtT} {body : TT} {p1 p2 p3 p4 p5 p6 p7 p8 : Nat} {B1 B2 B3 B4 B5 B6 B7 B8 : TT} (hy : plainName y.cls = true) (hown : md.1 = y.cls) (hin : md.2.2.2.2.2.2 = false) (hb : ∀ lc lz, Snd md lc lz 0 body) (h1 : ∀ lc lz, Snd md lc lz p1 B1) (h2 : ∀ lc lz, Snd md lc lz p2 B2) (h3 : ∀ lc lz, Snd md lc lz p3 B3) (h4 : ∀ lc lz, Snd md lc lz p4 B4) (h5 : ∀ lc lz, Snd md lc lz p5 B5) (h6 : ∀ lc lz, Snd md lc lz p6 B6) (h7 : ∀ lc lz, Snd md lc lz p7 B7) (h8 : ∀ lc lz, Snd md lc lz p8 B8) (hd : [p1, p2, p3, p4, p5, p6, p7, p8].Nodup)
    (vc : ∀ (av : List PV) (h : PH) (post : TR), Ct av h post → okH h → (∀ v ∈ av, okV (hN h) v) → (entA av).length ≤ md.2.2.1 ∧ ∃ (J1 J2 J3 J4 J5 J6 J7 J8 : LSt → PH → Prop) (μ : Nat → LSt → PH → Nat), (∀ ls h', J1 ls h' → B1 (fun pc' ls' h'' => (pc' = p1 ∧ J1 ls' h'' ∧ μ p1 ls' h'' < μ p1 ls h') ∨ (pc' = p2 ∧ J2 ls' h'' ∧ μ p2 ls' h'' < μ p1 ls h') ∨ (pc' = p3 ∧ J3 ls' h'' ∧ μ p3 ls' h'' < μ p1 ls h') ∨ (pc' = p4 ∧ J4 ls' h'' ∧ μ p4 ls' h'' < μ p1 ls h') ∨ (pc' = p5 ∧ J5 ls' h'' ∧ μ p5 ls' h'' < μ p1 ls h') ∨ (pc' = p6 ∧ J6 ls' h'' ∧ μ p6 ls' h'' < μ p1 ls h') ∨ (pc' = p7 ∧ J7 ls' h'' ∧ μ p7 ls' h'' < μ p1 ls h') ∨ (pc' = p8 ∧ J8 ls' h'' ∧ μ p8 ls' h'' < μ p1 ls h')) (fun r h'' => post r h'' ∧ hC h'' = hC h ∧ hZ h'' = hZ h) ls [] h') ∧ (∀ ls h', J2 ls h' → B2 (fun pc' ls' h'' => (pc' = p1 ∧ J1 ls' h'' ∧ μ p1 ls' h'' < μ p2 ls h') ∨ (pc' = p2 ∧ J2 ls' h'' ∧ μ p2 ls' h'' < μ p2 ls h') ∨ (pc' = p3 ∧ J3 ls' h'' ∧ μ p3 ls' h'' < μ p2 ls h') ∨ (pc' = p4 ∧ J4 ls' h'' ∧ μ p4 ls' h'' < μ p2 ls h') ∨ (pc' = p5 ∧ J5 ls' h'' ∧ μ p5 ls' h'' < μ p2 ls h') ∨ (pc' = p6 ∧ J6 ls' h'' ∧ μ p6 ls' h'' < μ p2 ls h') ∨ (pc' = p7 ∧ J7 ls' h'' ∧ μ p7 ls' h'' < μ p2 ls h') ∨ (pc' = p8 ∧ J8 ls' h'' ∧ μ p8 ls' h'' < μ p2 ls h')) (fun r h'' => post r h'' ∧ hC h'' = hC h ∧ hZ h'' = hZ h) ls [] h') ∧ (∀ ls h', J3 ls h' → B3 (fun pc' ls' h'' => (pc' = p1 ∧ J1 ls' h'' ∧ μ p1 ls' h'' < μ p3 ls h') ∨ (pc' = p2 ∧ J2 ls' h'' ∧ μ p2 ls' h'' < μ p3 ls h') ∨ (pc' = p3 ∧ J3 ls' h'' ∧ μ p3 ls' h'' < μ p3 ls h') ∨ (pc' = p4 ∧ J4 ls' h'' ∧ μ p4 ls' h'' < μ p3 ls h') ∨ (pc' = p5 ∧ J5 ls' h'' ∧ μ p5 ls' h'' < μ p3 ls h') ∨ (pc' = p6 ∧ J6 ls' h'' ∧ μ p6 ls' h'' < μ p3 ls h') ∨ (pc' = p7 ∧ J7 ls' h'' ∧ μ p7 ls' h'' < μ p3 ls h') ∨ (pc' = p8 ∧ J8 ls' h'' ∧ μ p8 ls' h'' < μ p3 ls h')) (fun r h'' => post r h'' ∧ hC h'' = hC h ∧ hZ h'' = hZ h) ls [] h') ∧ (∀ ls h', J4 ls h' → B4 (fun pc' ls' h'' => (pc' = p1 ∧ J1 ls' h'' ∧ μ p1 ls' h'' < μ p4 ls h') ∨ (pc' = p2 ∧ J2 ls' h'' ∧ μ p2 ls' h'' < μ p4 ls h') ∨ (pc' = p3 ∧ J3 ls' h'' ∧ μ p3 ls' h'' < μ p4 ls h') ∨ (pc' = p4 ∧ J4 ls' h'' ∧ μ p4 ls' h'' < μ p4 ls h') ∨ (pc' = p5 ∧ J5 ls' h'' ∧ μ p5 ls' h'' < μ p4 ls h') ∨ (pc' = p6 ∧ J6 ls' h'' ∧ μ p6 ls' h'' < μ p4 ls h') ∨ (pc' = p7 ∧ J7 ls' h'' ∧ μ p7 ls' h'' < μ p4 ls h') ∨ (pc' = p8 ∧ J8 ls' h'' ∧ μ p8 ls' h'' < μ p4 ls h')) (fun r h'' => post r h'' ∧ hC h'' = hC h ∧ hZ h'' = hZ h) ls [] h') ∧ (∀ ls h', J5 ls h' → B5 (fun pc' ls' h'' => (pc' = p1 ∧ J1 ls' h'' ∧ μ p1 ls' h'' < μ p5 ls h') ∨ (pc' = p2 ∧ J2 ls' h'' ∧ μ p2 ls' h'' < μ p5 ls h') ∨ (pc' = p3 ∧ J3 ls' h'' ∧ μ p3 ls' h'' < μ p5 ls h') ∨ (pc' = p4 ∧ J4 ls' h'' ∧ μ p4 ls' h'' < μ p5 ls h') ∨ (pc' = p5 ∧ J5 ls' h'' ∧ μ p5 ls' h'' < μ p5 ls h') ∨ (pc' = p6 ∧ J6 ls' h'' ∧ μ p6 ls' h'' < μ p5 ls h') ∨ (pc' = p7 ∧ J7 ls' h'' ∧ μ p7 ls' h'' < μ p5 ls h') ∨ (pc' = p8 ∧ J8 ls' h'' ∧ μ p8 ls' h'' < μ p5 ls h')) (fun r h'' => post r h'' ∧ hC h'' = hC h ∧ hZ h'' = hZ h) ls [] h') ∧ (∀ ls h', J6 ls h' → B6 (fun pc' ls' h'' => (pc' = p1 ∧ J1 ls' h'' ∧ μ p1 ls' h'' < μ p6 ls h') ∨ (pc' = p2 ∧ J2 ls' h'' ∧ μ p2 ls' h'' < μ p6 ls h') ∨ (pc' = p3 ∧ J3 ls' h'' ∧ μ p3 ls' h'' < μ p6 ls h') ∨ (pc' = p4 ∧ J4 ls' h'' ∧ μ p4 ls' h'' < μ p6 ls h') ∨ (pc' = p5 ∧ J5 ls' h'' ∧ μ p5 ls' h'' < μ p6 ls h') ∨ (pc' = p6 ∧ J6 ls' h'' ∧ μ p6 ls' h'' < μ p6 ls h') ∨ (pc' = p7 ∧ J7 ls' h'' ∧ μ p7 ls' h'' < μ p6 ls h') ∨ (pc' = p8 ∧ J8 ls' h'' ∧ μ p8 ls' h'' < μ p6 ls h')) (fun r h'' => post r h'' ∧ hC h'' = hC h ∧ hZ h'' = hZ h) ls [] h') ∧ (∀ ls h', J7 ls h' → B7 (fun pc' ls' h'' => (pc' = p1 ∧ J1 ls' h'' ∧ μ p1 ls' h'' < μ p7 ls h') ∨ (pc' = p2 ∧ J2 ls' h'' ∧ μ p2 ls' h'' < μ p7 ls h') ∨ (pc' = p3 ∧ J3 ls' h'' ∧ μ p3 ls' h'' < μ p7 ls h') ∨ (pc' = p4 ∧ J4 ls' h'' ∧ μ p4 ls' h'' < μ p7 ls h') ∨ (pc' = p5 ∧ J5 ls' h'' ∧ μ p5 ls' h'' < μ p7 ls h') ∨ (pc' = p6 ∧ J6 ls' h'' ∧ μ p6 ls' h'' < μ p7 ls h') ∨ (pc' = p7 ∧ J7 ls' h'' ∧ μ p7 ls' h'' < μ p7 ls h') ∨ (pc' = p8 ∧ J8 ls' h'' ∧ μ p8 ls' h'' < μ p7 ls h')) (fun r h'' => post r h'' ∧ hC h'' = hC h ∧ hZ h'' = hZ h) ls [] h') ∧ (∀ ls h', J8 ls h' → B8 (fun pc' ls' h'' => (pc' = p1 ∧ J1 ls' h'' ∧ μ p1 ls' h'' < μ p8 ls h') ∨ (pc' = p2 ∧ J2 ls' h'' ∧ μ p2 ls' h'' < μ p8 ls h') ∨ (pc' = p3 ∧ J3 ls' h'' ∧ μ p3 ls' h'' < μ p8 ls h') ∨ (pc' = p4 ∧ J4 ls' h'' ∧ μ p4 ls' h'' < μ p8 ls h') ∨ (pc' = p5 ∧ J5 ls' h'' ∧ μ p5 ls' h'' < μ p8 ls h') ∨ (pc' = p6 ∧ J6 ls' h'' ∧ μ p6 ls' h'' < μ p8 ls h') ∨ (pc' = p7 ∧ J7 ls' h'' ∧ μ p7 ls' h'' < μ p8 ls h') ∨ (pc' = p8 ∧ J8 ls' h'' ∧ μ p8 ls' h'' < μ p8 ls h')) (fun r h'' => post r h'' ∧ hC h'' = hC h ∧ hZ h'' = hZ h) ls [] h') ∧
      body (fun pc' ls' h'' => (pc' = p1 ∧ J1 ls' h'') ∨ (pc' = p2 ∧ J2 ls' h'') ∨ (pc' = p3 ∧ J3 ls' h'') ∨ (pc' = p4 ∧ J4 ls' h'') ∨ (pc' = p5 ∧ J5 ls' h'') ∨ (pc' = p6 ∧ J6 ls' h'') ∨ (pc' = p7 ∧ J7 ls' h'') ∨ (pc' = p8 ∧ J8 ls' h'')) (fun r h'' => post r h'' ∧ hC h'' = hC h ∧ hZ h'' = hZ h) (fitL md.2.2.1 (entA av)) [] h) : MetP y md (fun _ => 0) (fun _ => 0) Ct := by
  refine metL (body := body) (cs := [(p1, B1), (p2, B2), (p3, B3), (p4, B4), (p5, B5), (p6, B6), (p7, B7), (p8, B8)]) hy hown hin hb (fun lc lz q hq => ?_) (fun av h post a b c => ?_)
  · simp only [List.mem_cons, List.not_mem_nil, or_false] at hq
    rcases hq with rfl | rfl | rfl | rfl | rfl | rfl | rfl | rfl
    · exact h1 lc lz
    · exact h2 lc lz
    · exact h3 lc lz
    · exact h4 lc lz
    · exact h5 lc lz
    · exact h6 lc lz
    · exact h7 lc lz
    · exact h8 lc lz
  · obtain ⟨hl, J1, J2, J3, J4, J5, J6, J7, J8, μ, v1, v2, v3, v4, v5, v6, v7, v8, hz⟩ := vc av h post a b c
    refine ⟨hl, fun pc' ls' h'' => (pc' = p1 ∧ J1 ls' h'') ∨ (pc' = p2 ∧ J2 ls' h'') ∨ (pc' = p3 ∧ J3 ls' h'') ∨ (pc' = p4 ∧ J4 ls' h'') ∨ (pc' = p5 ∧ J5 ls' h'') ∨ (pc' = p6 ∧ J6 ls' h'') ∨ (pc' = p7 ∧ J7 ls' h'') ∨ (pc' = p8 ∧ J8 ls' h''), μ, ?_, ?_, hz⟩
    · intro pc ls h' hi
      rcases hi with ⟨e, -⟩ | ⟨e, -⟩ | ⟨e, -⟩ | ⟨e, -⟩ | ⟨e, -⟩ | ⟨e, -⟩ | ⟨e, -⟩ | ⟨e, -⟩
      · exact ⟨(p1, B1), by simp, e.symm⟩
      · exact ⟨(p2, B2), by simp, e.symm⟩
      · exact ⟨(p3, B3), by simp, e.symm⟩
      · exact ⟨(p4, B4), by simp, e.symm⟩
      · exact ⟨(p5, B5), by simp, e.symm⟩
      · exact ⟨(p6, B6), by simp, e.symm⟩
      · exact ⟨(p7, B7), by simp, e.symm⟩
      · exact ⟨(p8, B8), by simp, e.symm⟩
    · intro q hq ls h' hi
      simp only [List.mem_cons, List.not_mem_nil, or_false] at hq
      simp only [List.nodup_cons, List.mem_cons, List.not_mem_nil, or_false, not_or, List.nodup_nil, and_true, not_false_eq_true] at hd
      rcases hq with rfl | rfl | rfl | rfl | rfl | rfl | rfl | rfl
      · have hj : J1 ls h' := by
          rcases hi with ⟨e, hj⟩ | ⟨e, hj⟩ | ⟨e, hj⟩ | ⟨e, hj⟩ | ⟨e, hj⟩ | ⟨e, hj⟩ | ⟨e, hj⟩ | ⟨e, hj⟩
          · exact hj
          · exfalso; omega
          · exfalso; omega
          · exfalso; omega
          · exfalso; omega
          · exfalso; omega
          · exfalso; omega
          · exfalso; omega
        have g := v1 ls h' hj
        have e : (fun pc' ls' h'' => ((pc' = p1 ∧ J1 ls' h'') ∨ (pc' = p2 ∧ J2 ls' h'') ∨ (pc' = p3 ∧ J3 ls' h'') ∨ (pc' = p4 ∧ J4 ls' h'') ∨ (pc' = p5 ∧ J5 ls' h'') ∨ (pc' = p6 ∧ J6 ls' h'') ∨ (pc' = p7 ∧ J7 ls' h'') ∨ (pc' = p8 ∧ J8 ls' h'')) ∧ μ pc' ls' h'' < μ p1 ls h') = (fun pc' ls' h'' => (pc' = p1 ∧ J1 ls' h'' ∧ μ p1 ls' h'' < μ p1 ls h') ∨ (pc' = p2 ∧ J2 ls' h'' ∧ μ p2 ls' h'' < μ p1 ls h') ∨ (pc' = p3 ∧ J3 ls' h'' ∧ μ p3 ls' h'' < μ p1 ls h') ∨ (pc' = p4 ∧ J4 ls' h'' ∧ μ p4 ls' h'' < μ p1 ls h') ∨ (pc' = p5 ∧ J5 ls' h'' ∧ μ p5 ls' h'' < μ p1 ls h') ∨ (pc' = p6 ∧ J6 ls' h'' ∧ μ p6 ls' h'' < μ p1 ls h') ∨ (pc' = p7 ∧ J7 ls' h'' ∧ μ p7 ls' h'' < μ p1 ls h') ∨ (pc' = p8 ∧ J8 ls' h'' ∧ μ p8 ls' h'' < μ p1 ls h')) := by
          funext pc' ls' h''
          apply propext
          constructor
          · rintro ⟨⟨rfl, z⟩ | ⟨rfl, z⟩ | ⟨rfl, z⟩ | ⟨rfl, z⟩ | ⟨rfl, z⟩ | ⟨rfl, z⟩ | ⟨rfl, z⟩ | ⟨rfl, z⟩, z2⟩
            · exact Or.inl ⟨rfl, z, z2⟩
            · exact Or.inr (Or.inl ⟨rfl, z, z2⟩)
            · exact Or.inr (Or.inr (Or.inl ⟨rfl, z, z2⟩))
            · exact Or.inr (Or.inr (Or.inr (Or.inl ⟨rfl, z, z2⟩)))
            · exact Or.inr (Or.inr (Or.inr (Or.inr (Or.inl ⟨rfl, z, z2⟩))))
            · exact Or.inr (Or.inr (Or.inr (Or.inr (Or.inr (Or.inl ⟨rfl, z, z2⟩)))))
            · exact Or.inr (Or.inr (Or.inr (Or.inr (Or.inr (Or.inr (Or.inl ⟨rfl, z, z2⟩))))))
            · exact Or.inr (Or.inr (Or.inr (Or.inr (Or.inr (Or.inr (Or.inr (⟨rfl, z, z2⟩)))))))
          · rintro (⟨rfl, z, z2⟩ | ⟨rfl, z, z2⟩ | ⟨rfl, z, z2⟩ | ⟨rfl, z, z2⟩ | ⟨rfl, z, z2⟩ | ⟨rfl, z, z2⟩ | ⟨rfl, z, z2⟩ | ⟨rfl, z, z2⟩)
            · exact ⟨Or.inl ⟨rfl, z⟩, z2⟩
            · exact ⟨Or.inr (Or.inl ⟨rfl, z⟩), z2⟩
            · exact ⟨Or.inr (Or.inr (Or.inl ⟨rfl, z⟩)), z2⟩
            · exact ⟨Or.inr (Or.inr (Or.inr (Or.inl ⟨rfl, z⟩))), z2⟩
            · exact ⟨Or.inr (Or.inr (Or.inr (Or.inr (Or.inl ⟨rfl, z⟩)))), z2⟩
            · exact ⟨Or.inr (Or.inr (Or.inr (Or.inr (Or.inr (Or.inl ⟨rfl, z⟩))))), z2⟩
            · exact ⟨Or.inr (Or.inr (Or.inr (Or.inr (Or.inr (Or.inr (Or.inl ⟨rfl, z⟩)))))), z2⟩
            · exact ⟨Or.inr (Or.inr (Or.inr (Or.inr (Or.inr (Or.inr (Or.inr (⟨rfl, z⟩))))))), z2⟩
        show B1 (fun pc' ls' h'' => ((pc' = p1 ∧ J1 ls' h'') ∨ (pc' = p2 ∧ J2 ls' h'') ∨ (pc' = p3 ∧ J3 ls' h'') ∨ (pc' = p4 ∧ J4 ls' h'') ∨ (pc' = p5 ∧ J5 ls' h'') ∨ (pc' = p6 ∧ J6 ls' h'') ∨ (pc' = p7 ∧ J7 ls' h'') ∨ (pc' = p8 ∧ J8 ls' h'')) ∧ μ pc' ls' h'' < μ p1 ls h') _ ls [] h'
        rw [e]
        exact g
      · have hj : J2 ls h' := by
          rcases hi with ⟨e, hj⟩ | ⟨e, hj⟩ | ⟨e, hj⟩ | ⟨e, hj⟩ | ⟨e, hj⟩ | ⟨e, hj⟩ | ⟨e, hj⟩ | ⟨e, hj⟩
          · exfalso; omega
          · exact hj
          · exfalso; omega
          · exfalso; omega
          · exfalso; omega
          · exfalso; omega
          · exfalso; omega
          · exfalso; omega
        have g := v2 ls h' hj
        have e : (fun pc' ls' h'' => ((pc' = p1 ∧ J1 ls' h'') ∨ (pc' = p2 ∧ J2 ls' h'') ∨ (pc' = p3 ∧ J3 ls' h'') ∨ (pc' = p4 ∧ J4 ls' h'') ∨ (pc' = p5 ∧ J5 ls' h'') ∨ (pc' = p6 ∧ J6 ls' h'') ∨ (pc' = p7 ∧ J7 ls' h'') ∨ (pc' = p8 ∧ J8 ls' h'')) ∧ μ pc' ls' h'' < μ p2 ls h') = (fun pc' ls' h'' => (pc' = p1 ∧ J1 ls' h'' ∧ μ p1 ls' h'' < μ p2 ls h') ∨ (pc' = p2 ∧ J2 ls' h'' ∧ μ p2 ls' h'' < μ p2 ls h') ∨ (pc' = p3 ∧ J3 ls' h'' ∧ μ p3 ls' h'' < μ p2 ls h') ∨ (pc' = p4 ∧ J4 ls' h'' ∧ μ p4 ls' h'' < μ p2 ls h') ∨ (pc' = p5 ∧ J5 ls' h'' ∧ μ p5 ls' h'' < μ p2 ls h') ∨ (pc' = p6 ∧ J6 ls' h'' ∧ μ p6 ls' h'' < μ p2 ls h') ∨ (pc' = p7 ∧ J7 ls' h'' ∧ μ p7 ls' h'' < μ p2 ls h') ∨ (pc' = p8 ∧ J8 ls' h'' ∧ μ p8 ls' h'' < μ p2 ls h')) := by
          funext pc' ls' h''
          apply propext
          constructor
          · rintro ⟨⟨rfl, z⟩ | ⟨rfl, z⟩ | ⟨rfl, z⟩ | ⟨rfl, z⟩ | ⟨rfl, z⟩ | ⟨rfl, z⟩ | ⟨rfl, z⟩ | ⟨rfl, z⟩, z2⟩
            · exact Or.inl ⟨rfl, z, z2⟩
            · exact Or.inr (Or.inl ⟨rfl, z, z2⟩)
            · exact Or.inr (Or.inr (Or.inl ⟨rfl, z, z2⟩))
            · exact Or.inr (Or.inr (Or.inr (Or.inl ⟨rfl, z, z2⟩)))
            · exact Or.inr (Or.inr (Or.inr (Or.inr (Or.inl ⟨rfl, z, z2⟩))))
            · exact Or.inr (Or.inr (Or.inr (Or.inr (Or.inr (Or.inl ⟨rfl, z, z2⟩)))))
            · exact Or.inr (Or.inr (Or.inr (Or.inr (Or.inr (Or.inr (Or.inl ⟨rfl, z, z2⟩))))))
            · exact Or.inr (Or.inr (Or.inr (Or.inr (Or.inr (Or.inr (Or.inr (⟨rfl, z, z2⟩)))))))
          · rintro (⟨rfl, z, z2⟩ | ⟨rfl, z, z2⟩ | ⟨rfl, z, z2⟩ | ⟨rfl, z, z2⟩ | ⟨rfl, z, z2⟩ | ⟨rfl, z, z2⟩ | ⟨rfl, z, z2⟩ | ⟨rfl, z, z2⟩)
            · exact ⟨Or.inl ⟨rfl, z⟩, z2⟩
            · exact ⟨Or.inr (Or.inl ⟨rfl, z⟩), z2⟩
            · exact ⟨Or.inr (Or.inr (Or.inl ⟨rfl, z⟩)), z2⟩
            · exact ⟨Or.inr (Or.inr (Or.inr (Or.inl ⟨rfl, z⟩))), z2⟩
            · exact ⟨Or.inr (Or.inr (Or.inr (Or.inr (Or.inl ⟨rfl, z⟩)))), z2⟩
            · exact ⟨Or.inr (Or.inr (Or.inr (Or.inr (Or.inr (Or.inl ⟨rfl, z⟩))))), z2⟩
            · exact ⟨Or.inr (Or.inr (Or.inr (Or.inr (Or.inr (Or.inr (Or.inl ⟨rfl, z⟩)))))), z2⟩
            · exact ⟨Or.inr (Or.inr (Or.inr (Or.inr (Or.inr (Or.inr (Or.inr (⟨rfl, z⟩))))))), z2⟩
        show B2 (fun pc' ls' h'' => ((pc' = p1 ∧ J1 ls' h'') ∨ (pc' = p2 ∧ J2 ls' h'') ∨ (pc' = p3 ∧ J3 ls' h'') ∨ (pc' = p4 ∧ J4 ls' h'') ∨ (pc' = p5 ∧ J5 ls' h'') ∨ (pc' = p6 ∧ J6 ls' h'') ∨ (pc' = p7 ∧ J7 ls' h'') ∨ (pc' = p8 ∧ J8 ls' h'')) ∧ μ pc' ls' h'' < μ p2 ls h') _ ls [] h'
        rw [e]
        exact g
      · have hj : J3 ls h' := by
          rcases hi with ⟨e, hj⟩ | ⟨e, hj⟩ | ⟨e, hj⟩ | ⟨e, hj⟩ | ⟨e, hj⟩ | ⟨e, hj⟩ | ⟨e, hj⟩ | ⟨e, hj⟩
          · exfalso; omega
          · exfalso; omega
          · exact hj
          · exfalso; omega
          · exfalso; omega
          · exfalso; omega
          · exfalso; omega
          · exfalso; omega
        have g := v3 ls h' hj
        have e : (fun pc' ls' h'' => ((pc' = p1 ∧ J1 ls' h'') ∨ (pc' = p2 ∧ J2 ls' h'') ∨ (pc' = p3 ∧ J3 ls' h'') ∨ (pc' = p4 ∧ J4 ls' h'') ∨ (pc' = p5 ∧ J5 ls' h'') ∨ (pc' = p6 ∧ J6 ls' h'') ∨ (pc' = p7 ∧ J7 ls' h'') ∨ (pc' = p8 ∧ J8 ls' h'')) ∧ μ pc' ls' h'' < μ p3 ls h') = (fun pc' ls' h'' => (pc' = p1 ∧ J1 ls' h'' ∧ μ p1 ls' h'' < μ p3 ls h') ∨ (pc' = p2 ∧ J2 ls' h'' ∧ μ p2 ls' h'' < μ p3 ls h') ∨ (pc' = p3 ∧ J3 ls' h'' ∧ μ p3 ls' h'' < μ p3 ls h') ∨ (pc' = p4 ∧ J4 ls' h'' ∧ μ p4 ls' h'' < μ p3 ls h') ∨ (pc' = p5 ∧ J5 ls' h'' ∧ μ p5 ls' h'' < μ p3 ls h') ∨ (pc' = p6 ∧ J6 ls' h'' ∧ μ p6 ls' h'' < μ p3 ls h') ∨ (pc' = p7 ∧ J7 ls' h'' ∧ μ p7 ls' h'' < μ p3 ls h') ∨ (pc' = p8 ∧ J8 ls' h'' ∧ μ p8 ls' h'' < μ p3 ls h')) := by
          funext pc' ls' h''
          apply propext
          constructor
          · rintro ⟨⟨rfl, z⟩ | ⟨rfl, z⟩ | ⟨rfl, z⟩ | ⟨rfl, z⟩ | ⟨rfl, z⟩ | ⟨rfl, z⟩ | ⟨rfl, z⟩ | ⟨rfl, z⟩, z2⟩
            · exact Or.inl ⟨rfl, z, z2⟩
            · exact Or.inr (Or.inl ⟨rfl, z, z2⟩)
            · exact Or.inr (Or.inr (Or.inl ⟨rfl, z, z2⟩))
            · exact Or.inr (Or.inr (Or.inr (Or.inl ⟨rfl, z, z2⟩)))
            · exact Or.inr (Or.inr (Or.inr (Or.inr (Or.inl ⟨rfl, z, z2⟩))))
            · exact Or.inr (Or.inr (Or.inr (Or.inr (Or.inr (Or.inl ⟨rfl, z, z2⟩)))))
            · exact Or.inr (Or.inr (Or.inr (Or.inr (Or.inr (Or.inr (Or.inl ⟨rfl, z, z2⟩))))))
            · exact Or.inr (Or.inr (Or.inr (Or.inr (Or.inr (Or.inr (Or.inr (⟨rfl, z, z2⟩)))))))
          · rintro (⟨rfl, z, z2⟩ | ⟨rfl, z, z2⟩ | ⟨rfl, z, z2⟩ | ⟨rfl, z, z2⟩ | ⟨rfl, z, z2⟩ | ⟨rfl, z, z2⟩ | ⟨rfl, z, z2⟩ | ⟨rfl, z, z2⟩)
            · exact ⟨Or.inl ⟨rfl, z⟩, z2⟩
            · exact ⟨Or.inr (Or.inl ⟨rfl, z⟩), z2⟩
            · exact ⟨Or.inr (Or.inr (Or.inl ⟨rfl, z⟩)), z2⟩
            · exact ⟨Or.inr (Or.inr (Or.inr (Or.inl ⟨rfl, z⟩))), z2⟩
            · exact ⟨Or.inr (Or.inr (Or.inr (Or.inr (Or.inl ⟨rfl, z⟩)))), z2⟩
            · exact ⟨Or.inr (Or.inr (Or.inr (Or.inr (Or.inr (Or.inl ⟨rfl, z⟩))))), z2⟩
            · exact ⟨Or.inr (Or.inr (Or.inr (Or.inr (Or.inr (Or.inr (Or.inl ⟨rfl, z⟩)))))), z2⟩
            · exact ⟨Or.inr (Or.inr (Or.inr (Or.inr (Or.inr (Or.inr (Or.inr (⟨rfl, z⟩))))))), z2⟩
        show B3 (fun pc' ls' h'' => ((pc' = p1 ∧ J1 ls' h'') ∨ (pc' = p2 ∧ J2 ls' h'') ∨ (pc' = p3 ∧ J3 ls' h'') ∨ (pc' = p4 ∧ J4 ls' h'') ∨ (pc' = p5 ∧ J5 ls' h'') ∨ (pc' = p6 ∧ J6 ls' h'') ∨ (pc' = p7 ∧ J7 ls' h'') ∨ (pc' = p8 ∧ J8 ls' h'')) ∧ μ pc' ls' h'' < μ p3 ls h') _ ls [] h'
        rw [e]
        exact g
      · have hj : J4 ls h' := by
          rcases hi with ⟨e, hj⟩ | ⟨e, hj⟩ | ⟨e, hj⟩ | ⟨e, hj⟩ | ⟨e, hj⟩ | ⟨e, hj⟩ | ⟨e, hj⟩ | ⟨e, hj⟩
          · exfalso; omega
          · exfalso; omega
          · exfalso; omega
          · exact hj
          · exfalso; omega
          · exfalso; omega
          · exfalso; omega
          · exfalso; omega
        have g := v4 ls h' hj
        have e : (fun pc' ls' h'' => ((pc' = p1 ∧ J1 ls' h'') ∨ (pc' = p2 ∧ J2 ls' h'') ∨ (pc' = p3 ∧ J3 ls' h'') ∨ (pc' = p4 ∧ J4 ls' h'') ∨ (pc' = p5 ∧ J5 ls' h'') ∨ (pc' = p6 ∧ J6 ls' h'') ∨ (pc' = p7 ∧ J7 ls' h'') ∨ (pc' = p8 ∧ J8 ls' h'')) ∧ μ pc' ls' h'' < μ p4 ls h') = (fun pc' ls' h'' => (pc' = p1 ∧ J1 ls' h'' ∧ μ p1 ls' h'' < μ p4 ls h') ∨ (pc' = p2 ∧ J2 ls' h'' ∧ μ p2 ls' h'' < μ p4 ls h') ∨ (pc' = p3 ∧ J3 ls' h'' ∧ μ p3 ls' h'' < μ p4 ls h') ∨ (pc' = p4 ∧ J4 ls' h'' ∧ μ p4 ls' h'' < μ p4 ls h') ∨ (pc' = p5 ∧ J5 ls' h'' ∧ μ p5 ls' h'' < μ p4 ls h') ∨ (pc' = p6 ∧ J6 ls' h'' ∧ μ p6 ls' h'' < μ p4 ls h') ∨ (pc' = p7 ∧ J7 ls' h'' ∧ μ p7 ls' h'' < μ p4 ls h') ∨ (pc' = p8 ∧ J8 ls' h'' ∧ μ p8 ls' h'' < μ p4 ls h')) := by
          funext pc' ls' h''
          apply propext
          constructor
          · rintro ⟨⟨rfl, z⟩ | ⟨rfl, z⟩ | ⟨rfl, z⟩ | ⟨rfl, z⟩ | ⟨rfl, z⟩ | ⟨rfl, z⟩ | ⟨rfl, z⟩ | ⟨rfl, z⟩, z2⟩
            · exact Or.inl ⟨rfl, z, z2⟩
            · exact Or.inr (Or.inl ⟨rfl, z, z2⟩)
            · exact Or.inr (Or.inr (Or.inl ⟨rfl, z, z2⟩))
            · exact Or.inr (Or.inr (Or.inr (Or.inl ⟨rfl, z, z2⟩)))
            · exact Or.inr (Or.inr (Or.inr (Or.inr (Or.inl ⟨rfl, z, z2⟩))))
            · exact Or.inr (Or.inr (Or.inr (Or.inr (Or.inr (Or.inl ⟨rfl, z, z2⟩)))))
            · exact Or.inr (Or.inr (Or.inr (Or.inr (Or.inr (Or.inr (Or.inl ⟨rfl, z, z2⟩))))))
            · exact Or.inr (Or.inr (Or.inr (Or.inr (Or.inr (Or.inr (Or.inr (⟨rfl, z, z2⟩)))))))
          · rintro (⟨rfl, z, z2⟩ | ⟨rfl, z, z2⟩ | ⟨rfl, z, z2⟩ | ⟨rfl, z, z2⟩ | ⟨rfl, z, z2⟩ | ⟨rfl, z, z2⟩ | ⟨rfl, z, z2⟩ | ⟨rfl, z, z2⟩)
            · exact ⟨Or.inl ⟨rfl, z⟩, z2⟩
            · exact ⟨Or.inr (Or.inl ⟨rfl, z⟩), z2⟩
            · exact ⟨Or.inr (Or.inr (Or.inl ⟨rfl, z⟩)), z2⟩
            · exact ⟨Or.inr (Or.inr (Or.inr (Or.inl ⟨rfl, z⟩))), z2⟩
            · exact ⟨Or.inr (Or.inr (Or.inr (Or.inr (Or.inl ⟨rfl, z⟩)))), z2⟩
            · exact ⟨Or.inr (Or.inr (Or.inr (Or.inr (Or.inr (Or.inl ⟨rfl, z⟩))))), z2⟩
            · exact ⟨Or.inr (Or.inr (Or.inr (Or.inr (Or.inr (Or.inr (Or.inl ⟨rfl, z⟩)))))), z2⟩
            · exact ⟨Or.inr (Or.inr (Or.inr (Or.inr (Or.inr (Or.inr (Or.inr (⟨rfl, z⟩))))))), z2⟩
        show B4 (fun pc' ls' h'' => ((pc' = p1 ∧ J1 ls' h'') ∨ (pc' = p2 ∧ J2 ls' h'') ∨ (pc' = p3 ∧ J3 ls' h'') ∨ (pc' = p4 ∧ J4 ls' h'') ∨ (pc' = p5 ∧ J5 ls' h'') ∨ (pc' = p6 ∧ J6 ls' h'') ∨ (pc' = p7 ∧ J7 ls' h'') ∨ (pc' = p8 ∧ J8 ls' h'')) ∧ μ pc' ls' h'' < μ p4 ls h') _ ls [] h'
        rw [e]
        exact g
      · have hj : J5 ls h' := by
          rcases hi with ⟨e, hj⟩ | ⟨e, hj⟩ | ⟨e, hj⟩ | ⟨e, hj⟩ | ⟨e, hj⟩ | ⟨e, hj⟩ | ⟨e, hj⟩ | ⟨e, hj⟩
          · exfalso; omega
          · exfalso; omega
          · exfalso; omega
          · exfalso; omega
          · exact hj
          · exfalso; omega
          · exfalso; omega
          · exfalso; omega
        have g := v5 ls h' hj
        have e : (fun pc' ls' h'' => ((pc' = p1 ∧ J1 ls' h'') ∨ (pc' = p2 ∧ J2 ls' h'') ∨ (pc' = p3 ∧ J3 ls' h'') ∨ (pc' = p4 ∧ J4 ls' h'') ∨ (pc' = p5 ∧ J5 ls' h'') ∨ (pc' = p6 ∧ J6 ls' h'') ∨ (pc' = p7 ∧ J7 ls' h'') ∨ (pc' = p8 ∧ J8 ls' h'')) ∧ μ pc' ls' h'' < μ p5 ls h') = (fun pc' ls' h'' => (pc' = p1 ∧ J1 ls' h'' ∧ μ p1 ls' h'' < μ p5 ls h') ∨ (pc' = p2 ∧ J2 ls' h'' ∧ μ p2 ls' h'' < μ p5 ls h') ∨ (pc' = p3 ∧ J3 ls' h'' ∧ μ p3 ls' h'' < μ p5 ls h') ∨ (pc' = p4 ∧ J4 ls' h'' ∧ μ p4 ls' h'' < μ p5 ls h') ∨ (pc' = p5 ∧ J5 ls' h'' ∧ μ p5 ls' h'' < μ p5 ls h') ∨ (pc' = p6 ∧ J6 ls' h'' ∧ μ p6 ls' h'' < μ p5 ls h') ∨ (pc' = p7 ∧ J7 ls' h'' ∧ μ p7 ls' h'' < μ p5 ls h') ∨ (pc' = p8 ∧ J8 ls' h'' ∧ μ p8 ls' h'' < μ p5 ls h')) := by
          funext pc' ls' h''
          apply propext
          constructor
          · rintro ⟨⟨rfl, z⟩ | ⟨rfl, z⟩ | ⟨rfl, z⟩ | ⟨rfl, z⟩ | ⟨rfl, z⟩ | ⟨rfl, z⟩ | ⟨rfl, z⟩ | ⟨rfl, z⟩, z2⟩
            · exact Or.inl ⟨rfl, z, z2⟩
            · exact Or.inr (Or.inl ⟨rfl, z, z2⟩)
            · exact Or.inr (Or.inr (Or.inl ⟨rfl, z, z2⟩))
            · exact Or.inr (Or.inr (Or.inr (Or.inl ⟨rfl, z, z2⟩)))
            · exact Or.inr (Or.inr (Or.inr (Or.inr (Or.inl ⟨rfl, z, z2⟩))))
            · exact Or.inr (Or.inr (Or.inr (Or.inr (Or.inr (Or.inl ⟨rfl, z, z2⟩)))))
            · exact Or.inr (Or.inr (Or.inr (Or.inr (Or.inr (Or.inr (Or.inl ⟨rfl, z, z2⟩))))))
            · exact Or.inr (Or.inr (Or.inr (Or.inr (Or.inr (Or.inr (Or.inr (⟨rfl, z, z2⟩)))))))
          · rintro (⟨rfl, z, z2⟩ | ⟨rfl, z, z2⟩ | ⟨rfl, z, z2⟩ | ⟨rfl, z, z2⟩ | ⟨rfl, z, z2⟩ | ⟨rfl, z, z2⟩ | ⟨rfl, z, z2⟩ | ⟨rfl, z, z2⟩)
            · exact ⟨Or.inl ⟨rfl, z⟩, z2⟩
            · exact ⟨Or.inr (Or.inl ⟨rfl, z⟩), z2⟩
            · exact ⟨Or.inr (Or.inr (Or.inl ⟨rfl, z⟩)), z2⟩
            · exact ⟨Or.inr (Or.inr (Or.inr (Or.inl ⟨rfl, z⟩))), z2⟩
            · exact ⟨Or.inr (Or.inr (Or.inr (Or.inr (Or.inl ⟨rfl, z⟩)))), z2⟩
            · exact ⟨Or.inr (Or.inr (Or.inr (Or.inr (Or.inr (Or.inl ⟨rfl, z⟩))))), z2⟩
            · exact ⟨Or.inr (Or.inr (Or.inr (Or.inr (Or.inr (Or.inr (Or.inl ⟨rfl, z⟩)))))), z2⟩
            · exact ⟨Or.inr (Or.inr (Or.inr (Or.inr (Or.inr (Or.inr (Or.inr (⟨rfl, z⟩))))))), z2⟩
        show B5 (fun pc' ls' h'' => ((pc' = p1 ∧ J1 ls' h'') ∨ (pc' = p2 ∧ J2 ls' h'') ∨ (pc' = p3 ∧ J3 ls' h'') ∨ (pc' = p4 ∧ J4 ls' h'') ∨ (pc' = p5 ∧ J5 ls' h'') ∨ (pc' = p6 ∧ J6 ls' h'') ∨ (pc' = p7 ∧ J7 ls' h'') ∨ (pc' = p8 ∧ J8 ls' h'')) ∧ μ pc' ls' h'' < μ p5 ls h') _ ls [] h'
        rw [e]
        exact g
      · have hj : J6 ls h' := by
          rcases hi with ⟨e, hj⟩ | ⟨e, hj⟩ | ⟨e, hj⟩ | ⟨e, hj⟩ | ⟨e, hj⟩ | ⟨e, hj⟩ | ⟨e, hj⟩ | ⟨e, hj⟩
          · exfalso; omega
          · exfalso; omega
          · exfalso; omega
          · exfalso; omega
          · exfalso; omega
          · exact hj
          · exfalso; omega
          · exfalso; omega
        have g := v6 ls h' hj
        have e : (fun pc' ls' h'' => ((pc' = p1 ∧ J1 ls' h'') ∨ (pc' = p2 ∧ J2 ls' h'') ∨ (pc' = p3 ∧ J3 ls' h'') ∨ (pc' = p4 ∧ J4 ls' h'') ∨ (pc' = p5 ∧ J5 ls' h'') ∨ (pc' = p6 ∧ J6 ls' h'') ∨ (pc' = p7 ∧ J7 ls' h'') ∨ (pc' = p8 ∧ J8 ls' h'')) ∧ μ pc' ls' h'' < μ p6 ls h') = (fun pc' ls' h'' => (pc' = p1 ∧ J1 ls' h'' ∧ μ p1 ls' h'' < μ p6 ls h') ∨ (pc' = p2 ∧ J2 ls' h'' ∧ μ p2 ls' h'' < μ p6 ls h') ∨ (pc' = p3 ∧ J3 ls' h'' ∧ μ p3 ls' h'' < μ p6 ls h') ∨ (pc' = p4 ∧ J4 ls' h'' ∧ μ p4 ls' h'' < μ p6 ls h') ∨ (pc' = p5 ∧ J5 ls' h'' ∧ μ p5 ls' h'' < μ p6 ls h') ∨ (pc' = p6 ∧ J6 ls' h'' ∧ μ p6 ls' h'' < μ p6 ls h') ∨ (pc' = p7 ∧ J7 ls' h'' ∧ μ p7 ls' h'' < μ p6 ls h') ∨ (pc' = p8 ∧ J8 ls' h'' ∧ μ p8 ls' h'' < μ p6 ls h')) := by
          funext pc' ls' h''
          apply propext
          constructor
          · rintro ⟨⟨rfl, z⟩ | ⟨rfl, z⟩ | ⟨rfl, z⟩ | ⟨rfl, z⟩ | ⟨rfl, z⟩ | ⟨rfl, z⟩ | ⟨rfl, z⟩ | ⟨rfl, z⟩, z2⟩
            · exact Or.inl ⟨rfl, z, z2⟩
            · exact Or.inr (Or.inl ⟨rfl, z, z2⟩)
            · exact Or.inr (Or.inr (Or.inl ⟨rfl, z, z2⟩))
            · exact Or.inr (Or.inr (Or.inr (Or.inl ⟨rfl, z, z2⟩)))
            · exact Or.inr (Or.inr (Or.inr (Or.inr (Or.inl ⟨rfl, z, z2⟩))))
            · exact Or.inr (Or.inr (Or.inr (Or.inr (Or.inr (Or.inl ⟨rfl, z, z2⟩)))))
            · exact Or.inr (Or.inr (Or.inr (Or.inr (Or.inr (Or.inr (Or.inl ⟨rfl, z, z2⟩))))))
            · exact Or.inr (Or.inr (Or.inr (Or.inr (Or.inr (Or.inr (Or.inr (⟨rfl, z, z2⟩)))))))
          · rintro (⟨rfl, z, z2⟩ | ⟨rfl, z, z2⟩ | ⟨rfl, z, z2⟩ | ⟨rfl, z, z2⟩ | ⟨rfl, z, z2⟩ | ⟨rfl, z, z2⟩ | ⟨rfl, z, z2⟩ | ⟨rfl, z, z2⟩)
            · exact ⟨Or.inl ⟨rfl, z⟩, z2⟩
            · exact ⟨Or.inr (Or.inl ⟨rfl, z⟩), z2⟩
            · exact ⟨Or.inr (Or.inr (Or.inl ⟨rfl, z⟩)), z2⟩
            · exact ⟨Or.inr (Or.inr (Or.inr (Or.inl ⟨rfl, z⟩))), z2⟩
            · exact ⟨Or.inr (Or.inr (Or.inr (Or.inr (Or.inl ⟨rfl, z⟩)))), z2⟩
            · exact ⟨Or.inr (Or.inr (Or.inr (Or.inr (Or.inr (Or.inl ⟨rfl, z⟩))))), z2⟩
            · exact ⟨Or.inr (Or.inr (Or.inr (Or.inr (Or.inr (Or.inr (Or.inl ⟨rfl, z⟩)))))), z2⟩
            · exact ⟨Or.inr (Or.inr (Or.inr (Or.inr (Or.inr (Or.inr (Or.inr (⟨rfl, z⟩))))))), z2⟩
        show B6 (fun pc' ls' h'' => ((pc' = p1 ∧ J1 ls' h'') ∨ (pc' = p2 ∧ J2 ls' h'') ∨ (pc' = p3 ∧ J3 ls' h'') ∨ (pc' = p4 ∧ J4 ls' h'') ∨ (pc' = p5 ∧ J5 ls' h'') ∨ (pc' = p6 ∧ J6 ls' h'') ∨ (pc' = p7 ∧ J7 ls' h'') ∨ (pc' = p8 ∧ J8 ls' h'')) ∧ μ pc' ls' h'' < μ p6 ls h') _ ls [] h'
        rw [e]
        exact g
      · have hj : J7 ls h' := by
          rcases hi with ⟨e, hj⟩ | ⟨e, hj⟩ | ⟨e, hj⟩ | ⟨e, hj⟩ | ⟨e, hj⟩ | ⟨e, hj⟩ | ⟨e, hj⟩ | ⟨e, hj⟩
          · exfalso; omega
          · exfalso; omega
          · exfalso; omega
          · exfalso; omega
          · exfalso; omega
          · exfalso; omega
          · exact hj
          · exfalso; omega
        have g := v7 ls h' hj
        have e : (fun pc' ls' h'' => ((pc' = p1 ∧ J1 ls' h'') ∨ (pc' = p2 ∧ J2 ls' h'') ∨ (pc' = p3 ∧ J3 ls' h'') ∨ (pc' = p4 ∧ J4 ls' h'') ∨ (pc' = p5 ∧ J5 ls' h'') ∨ (pc' = p6 ∧ J6 ls' h'') ∨ (pc' = p7 ∧ J7 ls' h'') ∨ (pc' = p8 ∧ J8 ls' h'')) ∧ μ pc' ls' h'' < μ p7 ls h') = (fun pc' ls' h'' => (pc' = p1 ∧ J1 ls' h'' ∧ μ p1 ls' h'' < μ p7 ls h') ∨ (pc' = p2 ∧ J2 ls' h'' ∧ μ p2 ls' h'' < μ p7 ls h') ∨ (pc' = p3 ∧ J3 ls' h'' ∧ μ p3 ls' h'' < μ p7 ls h') ∨ (pc' = p4 ∧ J4 ls' h'' ∧ μ p4 ls' h'' < μ p7 ls h') ∨ (pc' = p5 ∧ J5 ls' h'' ∧ μ p5 ls' h'' < μ p7 ls h') ∨ (pc' = p6 ∧ J6 ls' h'' ∧ μ p6 ls' h'' < μ p7 ls h') ∨ (pc' = p7 ∧ J7 ls' h'' ∧ μ p7 ls' h'' < μ p7 ls h') ∨ (pc' = p8 ∧ J8 ls' h'' ∧ μ p8 ls' h'' < μ p7 ls h')) := by
          funext pc' ls' h''
          apply propext
          constructor
          · rintro ⟨⟨rfl, z⟩ | ⟨rfl, z⟩ | ⟨rfl, z⟩ | ⟨rfl, z⟩ | ⟨rfl, z⟩ | ⟨rfl, z⟩ | ⟨rfl, z⟩ | ⟨rfl, z⟩, z2⟩
            · exact Or.inl ⟨rfl, z, z2⟩
            · exact Or.inr (Or.inl ⟨rfl, z, z2⟩)
            · exact Or.inr (Or.inr (Or.inl ⟨rfl, z, z2⟩))
            · exact Or.inr (Or.inr (Or.inr (Or.inl ⟨rfl, z, z2⟩)))
            · exact Or.inr (Or.inr (Or.inr (Or.inr (Or.inl ⟨rfl, z, z2⟩))))
            · exact Or.inr (Or.inr (Or.inr (Or.inr (Or.inr (Or.inl ⟨rfl, z, z2⟩)))))
            · exact Or.inr (Or.inr (Or.inr (Or.inr (Or.inr (Or.inr (Or.inl ⟨rfl, z, z2⟩))))))
            · exact Or.inr (Or.inr (Or.inr (Or.inr (Or.inr (Or.inr (Or.inr (⟨rfl, z, z2⟩)))))))
          · rintro (⟨rfl, z, z2⟩ | ⟨rfl, z, z2⟩ | ⟨rfl, z, z2⟩ | ⟨rfl, z, z2⟩ | ⟨rfl, z, z2⟩ | ⟨rfl, z, z2⟩ | ⟨rfl, z, z2⟩ | ⟨rfl, z, z2⟩)
            · exact ⟨Or.inl ⟨rfl, z⟩, z2⟩
            · exact ⟨Or.inr (Or.inl ⟨rfl, z⟩), z2⟩
            · exact ⟨Or.inr (Or.inr (Or.inl ⟨rfl, z⟩)), z2⟩
            · exact ⟨Or.inr (Or.inr (Or.inr (Or.inl ⟨rfl, z⟩))), z2⟩
            · exact ⟨Or.inr (Or.inr (Or.inr (Or.inr (Or.inl ⟨rfl, z⟩)))), z2⟩
            · exact ⟨Or.inr (Or.inr (Or.inr (Or.inr (Or.inr (Or.inl ⟨rfl, z⟩))))), z2⟩
            · exact ⟨Or.inr (Or.inr (Or.inr (Or.inr (Or.inr (Or.inr (Or.inl ⟨rfl, z⟩)))))), z2⟩
            · exact ⟨Or.inr (Or.inr (Or.inr (Or.inr (Or.inr (Or.inr (Or.inr (⟨rfl, z⟩))))))), z2⟩
        show B7 (fun pc' ls' h'' => ((pc' = p1 ∧ J1 ls' h'') ∨ (pc' = p2 ∧ J2 ls' h'') ∨ (pc' = p3 ∧ J3 ls' h'') ∨ (pc' = p4 ∧ J4 ls' h'') ∨ (pc' = p5 ∧ J5 ls' h'') ∨ (pc' = p6 ∧ J6 ls' h'') ∨ (pc' = p7 ∧ J7 ls' h'') ∨ (pc' = p8 ∧ J8 ls' h'')) ∧ μ pc' ls' h'' < μ p7 ls h') _ ls [] h'
        rw [e]
        exact g
      · have hj : J8 ls h' := by
          rcases hi with ⟨e, hj⟩ | ⟨e, hj⟩ | ⟨e, hj⟩ | ⟨e, hj⟩ | ⟨e, hj⟩ | ⟨e, hj⟩ | ⟨e, hj⟩ | ⟨e, hj⟩
          · exfalso; omega
          · exfalso; omega
          · exfalso; omega
          · exfalso; omega
          · exfalso; omega
          · exfalso; omega
          · exfalso; omega
          · exact hj
        have g := v8 ls h' hj
        have e : (fun pc' ls' h'' => ((pc' = p1 ∧ J1 ls' h'') ∨ (pc' = p2 ∧ J2 ls' h'') ∨ (pc' = p3 ∧ J3 ls' h'') ∨ (pc' = p4 ∧ J4 ls' h'') ∨ (pc' = p5 ∧ J5 ls' h'') ∨ (pc' = p6 ∧ J6 ls' h'') ∨ (pc' = p7 ∧ J7 ls' h'') ∨ (pc' = p8 ∧ J8 ls' h'')) ∧ μ pc' ls' h'' < μ p8 ls h') = (fun pc' ls' h'' => (pc' = p1 ∧ J1 ls' h'' ∧ μ p1 ls' h'' < μ p8 ls h') ∨ (pc' = p2 ∧ J2 ls' h'' ∧ μ p2 ls' h'' < μ p8 ls h') ∨ (pc' = p3 ∧ J3 ls' h'' ∧ μ p3 ls' h'' < μ p8 ls h') ∨ (pc' = p4 ∧ J4 ls' h'' ∧ μ p4 ls' h'' < μ p8 ls h') ∨ (pc' = p5 ∧ J5 ls' h'' ∧ μ p5 ls' h'' < μ p8 ls h') ∨ (pc' = p6 ∧ J6 ls' h'' ∧ μ p6 ls' h'' < μ p8 ls h') ∨ (pc' = p7 ∧ J7 ls' h'' ∧ μ p7 ls' h'' < μ p8 ls h') ∨ (pc' = p8 ∧ J8 ls' h'' ∧ μ p8 ls' h'' < μ p8 ls h')) := by
          funext pc' ls' h''
          apply propext
          constructor
          · rintro ⟨⟨rfl, z⟩ | ⟨rfl, z⟩ | ⟨rfl, z⟩ | ⟨rfl, z⟩ | ⟨rfl, z⟩ | ⟨rfl, z⟩ | ⟨rfl, z⟩ | ⟨rfl, z⟩, z2⟩
            · exact Or.inl ⟨rfl, z, z2⟩
            · exact Or.inr (Or.inl ⟨rfl, z, z2⟩)
            · exact Or.inr (Or.inr (Or.inl ⟨rfl, z, z2⟩))
            · exact Or.inr (Or.inr (Or.inr (Or.inl ⟨rfl, z, z2⟩)))
            · exact Or.inr (Or.inr (Or.inr (Or.inr (Or.inl ⟨rfl, z, z2⟩))))
            · exact Or.inr (Or.inr (Or.inr (Or.inr (Or.inr (Or.inl ⟨rfl, z, z2⟩)))))
            · exact Or.inr (Or.inr (Or.inr (Or.inr (Or.inr (Or.inr (Or.inl ⟨rfl, z, z2⟩))))))
            · exact Or.inr (Or.inr (Or.inr (Or.inr (Or.inr (Or.inr (Or.inr (⟨rfl, z, z2⟩)))))))
          · rintro (⟨rfl, z, z2⟩ | ⟨rfl, z, z2⟩ | ⟨rfl, z, z2⟩ | ⟨rfl, z, z2⟩ | ⟨rfl, z, z2⟩ | ⟨rfl, z, z2⟩ | ⟨rfl, z, z2⟩ | ⟨rfl, z, z2⟩)
            · exact ⟨Or.inl ⟨rfl, z⟩, z2⟩
            · exact ⟨Or.inr (Or.inl ⟨rfl, z⟩), z2⟩
            · exact ⟨Or.inr (Or.inr (Or.inl ⟨rfl, z⟩)), z2⟩
            · exact ⟨Or.inr (Or.inr (Or.inr (Or.inl ⟨rfl, z⟩))), z2⟩
            · exact ⟨Or.inr (Or.inr (Or.inr (Or.inr (Or.inl ⟨rfl, z⟩)))), z2⟩
            · exact ⟨Or.inr (Or.inr (Or.inr (Or.inr (Or.inr (Or.inl ⟨rfl, z⟩))))), z2⟩
            · exact ⟨Or.inr (Or.inr (Or.inr (Or.inr (Or.inr (Or.inr (Or.inl ⟨rfl, z⟩)))))), z2⟩
            · exact ⟨Or.inr (Or.inr (Or.inr (Or.inr (Or.inr (Or.inr (Or.inr (⟨rfl, z⟩))))))), z2⟩
        show B8 (fun pc' ls' h'' => ((pc' = p1 ∧ J1 ls' h'') ∨ (pc' = p2 ∧ J2 ls' h'') ∨ (pc' = p3 ∧ J3 ls' h'') ∨ (pc' = p4 ∧ J4 ls' h'') ∨ (pc' = p5 ∧ J5 ls' h'') ∨ (pc' = p6 ∧ J6 ls' h'') ∨ (pc' = p7 ∧ J7 ls' h'') ∨ (pc' = p8 ∧ J8 ls' h'')) ∧ μ pc' ls' h'' < μ p8 ls h') _ ls [] h'
        rw [e]
        exact g
