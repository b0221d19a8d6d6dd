/-! RENAME -/
def FU (L : Int) (a : AT) : Prop := aS a 6 = 1 → ∀ r c, VV a r → 0 ≤ c → c < L → aE a r c ≠ -2
noncomputable def msA (L : Int) (a : AT) : List Int := (bfA (aE a) L.toNat 0).1
theorem len_ge : ∀ {n : Nat} {l : List Int} {f : Int → Int}, (∀ x, 0 ≤ x → x < (n : Int) → f x ≠ 0 → x ∈ l) → cnN f n ≤ l.length
  | 0, l, f, _ => Nat.zero_le _
  | n + 1, l, f, h => by
    by_cases q : f n ≠ 0
    · have hm := h n (by omega) (by omega) q
      have h1 := len_ge (n := n) (l := l.erase n) (f := f) (fun x x0 x1 hx => (List.mem_erase_of_ne (by omega)).mpr (h x x0 (by omega) hx))
      rw [List.length_erase_of_mem hm] at h1
      rw [cnN_succ q]
      have := List.length_pos_of_mem hm
      omega
    · rw [cnN_skip (Classical.byContradiction q)]
      exact len_ge (fun x x0 x1 hx => h x x0 (by omega) hx)
theorem full_P {L Q : Int} {a : AT} (h : WT L Q a) (hf : ∀ r c, VV a r → 0 ≤ c → c < L → aE a r c ≠ -2) : ∀ r, VV a r → ∀ c : Nat, c < L.toNat → VV a (aE a r c) := fun r hr c hc => ((h.1.2.2 r c hr (by omega) (by omega)).resolve_left (hf r c hr (by omega) (by omega))).1
theorem all_len {L Q : Int} {a : AT} (h : WT L Q a) (hf : ∀ r c, VV a r → 0 ≤ c → c < L → aE a r c ≠ -2) (k : Nat) {f : Int} (hv : VV a f) : (allB (aE a) L.toNat f k).1.length ≤ 300 := by
  have h1 := nodup_len (n := aN a) (l := (allB (aE a) L.toNat f k).1) (f := aV a) allB_nodup (fun x hx => by
    have hx' := allB_in (P := VV a) hv (full_P h hf) x hx
    have e := aN_eq h
    exact ⟨h.1.2.1 x hx', by have := (h.2.1 x hx').2; omega, hx'⟩)
  have h6 := h.2.2.2.2.2.1
  omega
theorem ms_all {L Q : Int} {a : AT} (h : WT L Q a) (hf : ∀ r c, VV a r → 0 ≤ c → c < L → aE a r c ≠ -2) : (∀ x, x ∈ msA L a ↔ VV a x) ∧ (msA L a).Nodup ∧ ((msA L a).length : Int) = aS a 1 ∧ wf (msA L a) 0 = 0 := by
  have hin : ∀ x, x ∈ msA L a → VV a x := allB_in (P := VV a) h.1.1 (full_P h hf)
  obtain ⟨s1, s2⟩ := bfA_stop (E := aE a) (L := L.toNat) (f := 0) (n := 300) (by omega) (fun k => all_len h hf k h.1.1)
  have h0 : ∃ m, msA L a = [0] ++ m := by
    have : ∀ k, ∃ m, (allB (aE a) L.toNat 0 k).1 = [0] ++ m := by
      intro k
      induction k with
      | zero => exact ⟨[], rfl⟩
      | succ k ih =>
        obtain ⟨m, hm⟩ := ih
        obtain ⟨p, hp⟩ := allB_pre (E := aE a) (L := L.toNat) (f := 0) (k := k)
        exact ⟨m ++ p, by rw [hp, hm, List.append_assoc]⟩
    exact this bB
  have hall : ∀ x, VV a x → x ∈ msA L a := by
    obtain ⟨-, -, -, -, -, -, -, -, -, -, -, -, -, hcon⟩ := h
    refine hcon (fun x => x ∈ msA L a) ?_ (fun x c hx hv c0 c1 hn => ?_)
    · obtain ⟨m, hm⟩ := h0
      show (0 : Int) ∈ msA L a
      rw [hm]
      simp
    · have := s2 x hx c.toNat (by omega)
      rw [show ((c.toNat : Nat) : Int) = c by omega] at this
      exact this
  have hnd : (msA L a).Nodup := allB_nodup
  have e := aN_eq h
  have l1 := nodup_len (n := aN a) (l := msA L a) (f := aV a) hnd (fun x hx => ⟨h.1.2.1 x (hin x hx), by have := (h.2.1 x (hin x hx)).2; omega, hin x hx⟩)
  have l2 := len_ge (n := aN a) (l := msA L a) (f := aV a) (fun x _ _ hx => hall x hx)
  have h6 := h.2.2.2.2.2.1.1
  refine ⟨fun x => ⟨hin x, hall x⟩, hnd, by omega, ?_⟩
  obtain ⟨m, hm⟩ := h0
  rw [hm]
  rfl
noncomputable def rnA (L : Int) (a : AT) : AT :=
  (fun x => if 0 ≤ x ∧ x < ((msA L a).length : Int) then 1 else 0,
   fun x c => if (0 ≤ x ∧ x < ((msA L a).length : Int)) ∧ 0 ≤ c ∧ c < L then (ixF (msA L a) (aE a (wf (msA L a) x) c) : Int) else -2,
   fun x => if (0 ≤ x ∧ x < ((msA L a).length : Int)) ∧ aD a (wf (msA L a) x) ≠ 0 then 1 else 0,
   fun j => if j = 0 then ((msA L a).length : Int) else if j = 10 then 0 else aS a j, aM a)
theorem VV_rn {L : Int} {a : AT} {x : Int} : VV (rnA L a) x ↔ 0 ≤ x ∧ x < ((msA L a).length : Int) := by
  show (if 0 ≤ x ∧ x < ((msA L a).length : Int) then (1 : Int) else 0) ≠ 0 ↔ _
  split
  · rename_i q; exact ⟨fun _ => q, fun _ => by decide⟩
  · rename_i q; exact ⟨fun z => absurd rfl z, fun z => absurd z q⟩
theorem aE_rn {L : Int} {a : AT} {x c : Int} (h : 0 ≤ x ∧ x < ((msA L a).length : Int)) (h0 : 0 ≤ c) (h1 : c < L) : aE (rnA L a) x c = (ixF (msA L a) (aE a (wf (msA L a) x) c) : Int) := if_pos ⟨h, h0, h1⟩
theorem wf_in {L : Int} {a : AT} {x : Int} (h : 0 ≤ x ∧ x < ((msA L a).length : Int)) : wf (msA L a) x ∈ msA L a := by
  have := wf_mem (u := msA L a) (i := x.toNat) (by omega)
  rw [show ((x.toNat : Nat) : Int) = x by omega] at this
  exact this
theorem ix_wf {L : Int} {a : AT} {x : Int} (hn : (msA L a).Nodup) (h : 0 ≤ x ∧ x < ((msA L a).length : Int)) : (ixF (msA L a) (wf (msA L a) x) : Int) = x := by
  have := ixF_wf (l := msA L a) (i := x.toNat) hn (by omega)
  rw [show ((x.toNat : Nat) : Int) = x by omega] at this
  omega
theorem WT_rn {L Q : Int} {a : AT} (hL : L % 2 = 0) (h : WT L Q a) (hf : ∀ r c, VV a r → 0 ≤ c → c < L → aE a r c ≠ -2) (hM : aM a ≤ 0) : WT L Q (rnA L a) := by
  obtain ⟨m1, m2, m3, m4⟩ := ms_all h hf
  have hl := WT_left h
  obtain ⟨g1, g2, g3, g4, g5, g6, g7, g8, g9, g10, g11, g12, g13, g14⟩ := id h
  have cell : ∀ r c, VV a r → 0 ≤ c → c < L → VV a (aE a r c) ∧ aE a (aE a r c) (oc c) = r := fun r c hr c0 c1 => (g1.2.2 r c hr c0 c1).resolve_left (hf r c hr c0 c1)
  have row : ∀ x, 0 ≤ x ∧ x < ((msA L a).length : Int) → VV a (wf (msA L a) x) := fun x hx => (m1 _).mp (wf_in hx)
  have ixb : ∀ r, VV a r → 0 ≤ (ixF (msA L a) r : Int) ∧ (ixF (msA L a) r : Int) < ((msA L a).length : Int) := fun r hr => by
    have := ixF_lt ((m1 r).mpr hr)
    omega
  refine ⟨⟨VV_rn.mpr ⟨by omega, by omega⟩, fun r hr => (VV_rn.mp hr).1, fun x c hx c0 c1 => ?_⟩, fun x hx => ?_, fun x c hn => ?_, fun x hx => ?_, ?_, ?_, ?_, g8, g9, g10, g11, ?_, fun k hk => ?_, ?_⟩
  · have hx' := VV_rn.mp hx
    obtain ⟨d1, d2⟩ := cell _ c (row x hx') c0 c1
    have o := oc_in hL c0 c1
    rw [aE_rn hx' c0 c1]
    refine Or.inr ⟨VV_rn.mpr (ixb _ d1), ?_⟩
    rw [aE_rn (ixb _ d1) o.1 o.2, ixF_at ((m1 _).mpr d1), d2]
    exact ix_wf m2 hx'
  · have := VV_rn.mp hx
    exact ⟨if_pos this, this.2⟩
  · exact if_neg (fun z => hn ⟨VV_rn.mpr z.1, z.2⟩)
  · have q : (0 ≤ x ∧ x < ((msA L a).length : Int)) ∧ aD a (wf (msA L a) x) ≠ 0 := by
      apply Classical.byContradiction
      intro z
      exact hx (if_neg z)
    exact ⟨if_pos q, VV_rn.mpr q.1⟩
  · show 1 ≤ ((msA L a).length : Int) ∧ ((msA L a).length : Int) ≤ aS a 2 ∧ aS a 2 ≤ 2000
    omega
  · show aS a 1 = cnN (aV (rnA L a)) (((msA L a).length : Int)).toNat ∧ aS a 1 ≤ aS a 9 ∧ aS a 9 ≤ 300
    rw [cnN_full (fun j j0 j1 => VV_rn.mpr ⟨j0, by omega⟩)]
    omega
  · show aS a 3 = aS a 2 - aS a 1 ∧ (0 : Int) ≤ 0 ∧ 0 ≤ aS a 7 ∧ aS a 7 + 0 ≤ aS a 3 + Q
    omega
  · show -1 ≤ aM a ∧ aM a < ((msA L a).length : Int)
    omega
  · show (if k = 0 then ((msA L a).length : Int) else if k = 10 then 0 else aS a k) = 0
    rw [if_neg (by omega), if_neg (by omega)]
    exact g13 k hk
  · intro P hP0 hP x hx
    have hx' := VV_rn.mp hx
    have key := g14 (fun r => P (ixF (msA L a) r)) (by
      show P (ixF (msA L a) 0)
      have := ix_wf m2 (x := 0) ⟨by omega, by omega⟩
      rw [m4] at this
      rw [this]
      exact hP0) (fun r c hr hv c0 c1 hn => by
      have e : aE (rnA L a) (ixF (msA L a) r) c = (ixF (msA L a) (aE a r c) : Int) := by rw [aE_rn (ixb r hv) c0 c1, ixF_at ((m1 r).mpr hv)]
      have := hP _ c hr (VV_rn.mpr (ixb r hv)) c0 c1 (by rw [e]; omega)
      rw [e] at this
      exact this) _ (row x hx')
    have key' : P (ixF (msA L a) (wf (msA L a) x)) := key
    rw [ix_wf m2 hx'] at key'
    exact key'
theorem FU_rn {L : Int} {a : AT} : FU L (rnA L a) := by
  intro _ r c hr c0 c1
  rw [aE_rn (VV_rn.mp hr) c0 c1]
  omega
theorem FU_pk {L Q : Int} {a : AT} (h : WT L Q a) (hf : FU L a) : FU L (pkA a) := by
  intro h6 r c hr c0 c1
  have h6' : aS a 6 = 1 := by
    rw [aS_pkA (by decide) (by decide) (by decide)] at h6
    exact h6
  have hr' := VV_pk.mp hr
  have u := un_rk h hr'.1 hr'.2
  have hne := hf h6' _ c u.1 c0 c1
  rw [aE_pk hr', if_neg hne]
  have := (rk_un h ((h.1.2.2 _ c u.1 c0 c1).resolve_left hne).1).1
  omega
theorem FU_st {L : Int} {W U : List (List Int)} {a : AT} (hf : FU L a) : FU L (stA L W U a) := by
  unfold stA
  split
  · exact hf
  · intro h6 r c hr c0 c1
    have h6' : stE L W U (setM (setS a 5 (aS a 5 + 1)) (-1)) = 1 := h6
    unfold stE at h6'
    split at h6'
    · omega
    · have : clsd L W U (stG L W U (setM (setS a 5 (aS a 5 + 1)) (-1))) := by
        apply Classical.byContradiction
        intro z
        rw [clI_0 z] at h6'
        omega
      exact this.1 r c hr c0 c1
