/-! QUARREL in slots: what it comes to -/
noncomputable def sgF (Nu : Int → Int) (r : Int) : Int := @dite _ (∃ s, lfS Nu s ∧ Nu s = r) (Classical.propDecidable _) (fun h => Classical.choose h) (fun _ => 0)
theorem sgF_eq {Nu Od Sp : Int → Int} {n s : Int} (ho : TgO n Nu Od Sp) (hs : lfS Nu s) : sgF Nu (Nu s) = s := by
  have hx : ∃ t, lfS Nu t ∧ Nu t = Nu s := ⟨s, hs, rfl⟩
  have h := Classical.choose_spec hx
  unfold sgF
  rw [dif_pos hx]
  exact TgO_inj ho h.1 hs h.2
noncomputable def vQ (Nu Me : Int → Int) (m : Int) : Int → Int := fun r => if pB (∃ s, lfS Nu s ∧ ¬ mlt Me m s ∧ Nu s = r) then 1 else 0
noncomputable def eQ (Nu C : Int → Int) : Int → Int → Int := fun r c => if C (10 * sgF Nu r + c) = -2 then -2 else Nu (C (10 * sgF Nu r + c))
theorem vQ_ne {Nu Me : Int → Int} {m r : Int} : vQ Nu Me m r ≠ 0 ↔ ∃ s, lfS Nu s ∧ ¬ mlt Me m s ∧ Nu s = r := by
  unfold vQ
  by_cases z : ∃ s, lfS Nu s ∧ ¬ mlt Me m s ∧ Nu s = r
  · rw [pB_t z]; exact ⟨fun _ => z, fun _ => by decide⟩
  · rw [pB_f z]; exact ⟨fun y => absurd rfl y, fun y => absurd y z⟩
/-- when all that melted is empty -/
theorem fin_root {Nu P Me R C C0 : Int → Int} {L m x0 y0 : Int} (L2 : L % 2 = 0) (L10 : L ≤ 10) (hM : MIp Nu P Me R m) (hC : MIc Nu C0 C R L x0 y0) (hE : ∀ i, 0 ≤ i → i < m → emR C L (Me i) 10) {s c : Int} (hs : lfS Nu s) (c0 : 0 ≤ c) (c1 : c < L) (hn : C (10 * s + c) ≠ -2) : ¬ mlt Me m s ∧ R s = s ∧ lfS Nu (C (10 * s + c)) ∧ ¬ mlt Me m (C (10 * s + c)) ∧ R (C (10 * s + c)) = C (10 * s + c) := by
  obtain ⟨m1, m2, m3, m4, m5, m6, m7, m8⟩ := hM
  have o := oc_in L2 c0 c1
  have nm : ∀ t d, 0 ≤ d → d < L → C (10 * t + d) ≠ -2 → ¬ mlt Me m t := by
    rintro t d d0 d1 z ⟨i, i0, i1, rfl⟩
    exact z (hE i i0 i1 d d0 (by omega) d1)
  have rt : ∀ t, lfS Nu t → ¬ mlt Me m t → R t = t := by
    intro t ht z
    refine (m7 t ht).2.2.2.2 ?_
    apply Classical.byContradiction
    intro y
    exact z (m4 t ht y)
  obtain ⟨q1, q2⟩ := (hC.1 s c hs c0 c1).resolve_left hn
  have a := nm s c c0 c1 hn
  have b := nm (C (10 * s + c)) (oc c) o.1 o.2 (by rw [q2]; have := hs.1; omega)
  exact ⟨a, rt s hs a, q1, b, rt _ q1 b⟩
theorem quar_QR {F C0 Nu Dn Od Sp Pa P Me R C : Int → Int} {L Q m x0 y0 : Int} {a : AT} (L2 : L % 2 = 0) (L10 : L ≤ 10) (hT : TaG F C0 Nu Dn Od Sp Pa L a) (hW : WT L Q a) (hx : lfS Nu x0) (hy : lfS Nu y0) (hM : MIp Nu P Me R m) (hC : MIc Nu C0 C R L x0 y0) (hR : R x0 = R y0) (hE : ∀ i, 0 ≤ i → i < m → emR C L (Me i) 10) : QR L (VV a) (aE a) (Nu x0) (Nu y0) (fun r => vQ Nu Me m r ≠ 0) (eQ Nu C) := by
  obtain ⟨hS, ho, hE0, hP⟩ := hT
  obtain ⟨m1, m2, m3, m4, m5, m6, m7, m8⟩ := id hM
  obtain ⟨k1, k2, k3, k4, k5⟩ := id hC
  have root : ∀ s, lfS Nu s → ¬ mlt Me m (R s) := by
    rintro s hs ⟨i, i0, i1, e⟩
    have := (m2 i i0 i1).2
    rw [e] at this
    exact this (m7 s hs).2.1
  have rt : ∀ t, lfS Nu t → ¬ mlt Me m t → R t = t := by
    intro t ht z
    refine (m7 t ht).2.2.2.2 ?_
    apply Classical.byContradiction
    intro y
    exact z (m4 t ht y)
  refine ⟨fun r => Nu (R (sgF Nu r)), fun r hr => ?_, fun r hr => ?_, ?_, fun r c hr c0 c1 hn => ?_, fun r c hr c0 c1 hn => ?_, fun X φ F hD hH he r hr => ?_⟩
  · obtain ⟨s, hs, rfl⟩ := (hE0.1 r).mp hr
    show vQ Nu Me m (Nu (R (sgF Nu (Nu s)))) ≠ 0 ∧ Nu (R (sgF Nu (Nu s))) ≤ Nu s
    rw [sgF_eq ho hs]
    exact ⟨vQ_ne.mpr ⟨R s, (m7 s hs).1, root s hs, rfl⟩, (m7 s hs).2.2.2.1⟩
  · obtain ⟨s, hs, nm, rfl⟩ := vQ_ne.mp hr
    refine ⟨(hE0.1 _).mpr ⟨s, hs, rfl⟩, ?_⟩
    show Nu (R (sgF Nu (Nu s))) = Nu s
    rw [sgF_eq ho hs, rt s hs nm]
  · show Nu (R (sgF Nu (Nu x0))) = Nu (R (sgF Nu (Nu y0)))
    rw [sgF_eq ho hx, sgF_eq ho hy, hR]
  · obtain ⟨s, hs, rfl⟩ := (hE0.1 r).mp hr
    rcases hE0.2.1 s c hs c0 c1 with ⟨-, z⟩ | ⟨z1, z2⟩
    · exact absurd z hn
    · obtain ⟨t, t1, t2, t3, t4⟩ := k2 s c hs c0 c1 (by have := z1.1; omega)
      obtain ⟨f1, f2, f3, f4, f5⟩ := fin_root L2 L10 hM hC hE t1 c0 c1 t3
      have e1 : R s = t := by rw [← t2, f2]
      have e2 : C (10 * t + c) = R (C0 (10 * s + c)) := by rw [← t4, f5]
      show eQ Nu C (Nu (R (sgF Nu (Nu s)))) c = Nu (R (sgF Nu (aE a (Nu s) c)))
      rw [sgF_eq ho hs, e1, z2, sgF_eq ho z1]
      unfold eQ
      rw [sgF_eq ho t1, if_neg t3, e2]
  · obtain ⟨s, hs, nm, rfl⟩ := vQ_ne.mp hr
    have hn' : C (10 * s + c) ≠ -2 := by
      intro z
      apply hn
      unfold eQ
      rw [sgF_eq ho hs, if_pos z]
    obtain ⟨f1, f2, f3, f4, f5⟩ := fin_root L2 L10 hM hC hE hs c0 c1 hn'
    obtain ⟨t, t1, t2, t3, t4⟩ := k3 s c hs c0 c1 hn'
    have ht : lfS Nu (C0 (10 * t + c)) ∧ aE a (Nu t) c = Nu (C0 (10 * t + c)) := by
      rcases hE0.2.1 t c t1 c0 c1 with z | z
      · exact absurd z.1 t3
      · exact z
    refine ⟨Nu t, (hE0.1 _).mpr ⟨t, t1, rfl⟩, ?_, ?_, ?_⟩
    · show Nu (R (sgF Nu (Nu t))) = Nu s
      rw [sgF_eq ho t1, t2, f2]
    · rw [ht.2]; have := TgO_num ho ht.1; omega
    · show Nu (R (sgF Nu (aE a (Nu t) c))) = eQ Nu C (Nu s) c
      unfold eQ
      rw [ht.2, sgF_eq ho ht.1, t4, f5, sgF_eq ho hs, if_neg hn']
  · obtain ⟨s, hs, rfl⟩ := (hE0.1 r).mp hr
    have := k4 s hs X (fun t => φ (Nu t)) F hD (fun t c ht c0 c1 hn => by
      rcases hE0.2.1 t c ht c0 c1 with ⟨z, -⟩ | ⟨z1, z2⟩
      · exact absurd z hn
      · have := hH (Nu t) c ((hE0.1 _).mpr ⟨t, ht, rfl⟩) c0 c1 (by rw [z2]; have := TgO_num ho z1; omega)
        rw [z2] at this
        exact this) he
    show φ (Nu (R (sgF Nu (Nu s)))) = φ (Nu s)
    rw [sgF_eq ho hs]
    exact this
theorem quar_TaG {F C0 Nu Dn Od Sp Pa P Me R C F' Nu' Od' Sp' Pa' : Int → Int} {L Q m x0 y0 : Int} {a : AT} (L2 : L % 2 = 0) (L10 : L ≤ 10) (hT : TaG F C0 Nu Dn Od Sp Pa L a) (hW : WT L Q a) (hM : MIp Nu P Me R m) (hC : MIc Nu C0 C R L x0 y0) (hE : ∀ i, 0 ≤ i → i < m → emR C L (Me i) 10) (m1 : 1 ≤ m)
    (hN : ∀ s, 0 ≤ s → s < 300 → (mlt Me m s → Nu' s = -1) ∧ (¬ mlt Me m s → Nu' s = Nu s)) (hO' : TgO (F' 12) Nu' Od' Sp') (hP' : ∀ s, 0 ≤ s → s < 300 → Pa' s = s) (f8 : F' 8 = 1) (fj : ∀ j, 9 ≤ j → j ≠ 12 → F' j = F j) : TaG F' C Nu' Dn Od' Sp' Pa' L (mel L a (vQ Nu Me m) (eQ Nu C)) := by
  obtain ⟨⟨s1, s2, s3, s4, s5, s6, s7, s8, s9, s10, s11, s12⟩, ho, hE0, hP⟩ := hT
  have lf : ∀ s, lfS Nu' s ↔ (lfS Nu s ∧ ¬ mlt Me m s) := by
    intro s
    constructor
    · rintro ⟨x0, x1, x2⟩
      have nm : ¬ mlt Me m s := fun y => x2 ((hN s x0 x1).1 y)
      exact ⟨⟨x0, x1, by rw [← (hN s x0 x1).2 nm]; exact x2⟩, nm⟩
    · rintro ⟨⟨x0, x1, x2⟩, nm⟩
      exact ⟨x0, x1, by rw [(hN s x0 x1).2 nm]; exact x2⟩
  have nu : ∀ s, lfS Nu' s → Nu' s = Nu s := fun s hs => (hN s hs.1 hs.2.1).2 ((lf s).mp hs).2
  have hvv : ∀ r, vQ Nu Me m r ≠ 0 ↔ ∃ s, lfS Nu' s ∧ Nu' s = r := by
    intro r
    rw [vQ_ne]
    constructor
    · rintro ⟨s, a1, a2, a3⟩
      have h' := (lf s).mpr ⟨a1, a2⟩
      exact ⟨s, h', by rw [nu s h']; exact a3⟩
    · rintro ⟨s, a1, a2⟩
      exact ⟨s, ((lf s).mp a1).1, ((lf s).mp a1).2, by rw [← nu s a1]; exact a2⟩
  have hva : ∀ r, vQ Nu Me m r ≠ 0 → VV a r := fun r hr => by
    obtain ⟨s, a1, a2, rfl⟩ := vQ_ne.mp hr
    exact (hE0.1 _).mpr ⟨s, a1, rfl⟩
  have aN0 := aN_eq hW
  have z12 : 0 < F' 12 := by
    obtain ⟨k, k0, k1, -⟩ := hO'.2.2.1 0 ⟨by omega, by omega, by rw [hO'.2.2.2.2.2]; decide⟩
    omega
  have cn : (cnN (vQ Nu Me m) (aN a) : Int) = F' 12 := by
    refine enum_all (g := fun k => Nu' (Od' k)) (by omega) (fun k k0 k1 => ⟨(hO'.1 k k0 k1).2.2, (hvv _).mpr ⟨_, TgO_lf hO' k0 k1, rfl⟩⟩) hO'.2.1 (fun r r0 hr => ?_) (fun k k0 k1 => ?_)
    · obtain ⟨s, a1, rfl⟩ := (hvv r).mp hr
      obtain ⟨k, k0, k1, rfl⟩ := hO'.2.2.1 s a1
      exact ⟨k, k0, k1, rfl⟩
    · have := hva _ ((hvv _).mpr ⟨_, TgO_lf hO' k0 k1, rfl⟩)
      have := (hW.2.1 _ this).2
      omega
  have lt : cnN (vQ Nu Me m) (aN a) < cnN (aV a) (aN a) := by
    have h0 := (hM.2.1 0 (by omega) (by omega)).1
    have hv : VV a (Nu (Me 0)) := (hE0.1 _).mpr ⟨_, h0, rfl⟩
    refine cnN_strict (k := Nu (Me 0)) (hW.1.2.1 _ hv) (by have := (hW.2.1 _ hv).2; omega) ?_ hv (fun j _ _ z => hva j z)
    apply Classical.byContradiction
    intro z
    obtain ⟨s, b1, b2, b3⟩ := vQ_ne.mp z
    rw [TgO_inj ho b1 h0 b3] at b2
    exact b2 ⟨0, by omega, by omega, rfl⟩
  have w6 := hW.2.2.2.2.2.1.1
  have w7 := hW.2.2.2.2.2.2.1
  refine ⟨⟨?_, ?_, ?_, ?_, ?_, ?_, ?_, ?_, ?_, Or.inr f8, fun _ => ?_, ?_⟩, hO', ⟨fun r => ?_, fun s c hs c0 c1 => ?_, fun s hs => ?_⟩, hP', hP.2⟩
  · rw [fj 15 (by omega) (by omega), s1]; rfl
  · rw [← cn]
    show _ = aS a 1 - ((cnN (aV a) (aN a) : Int) - cnN (vQ Nu Me m) (aN a))
    omega
  · rw [fj 13 (by omega) (by omega), s3]; rfl
  · rw [fj 14 (by omega) (by omega), s4]; rfl
  · rw [fj 17 (by omega) (by omega), s5]; rfl
  · rw [fj 18 (by omega) (by omega), s6]; rfl
  · rw [fj 16 (by omega) (by omega), s7]; rfl
  · rw [fj 10 (by omega) (by omega), s8]; rfl
  · rw [fj 9 (by omega) (by omega), s9]; rfl
  · rw [f8]
    show _ ↔ 0 < aS a 10 + ((cnN (aV a) (aN a) : Int) - cnN (vQ Nu Me m) (aN a))
    omega
  · rw [fj 11 (by omega) (by omega)]; exact s12
  · rw [VV_mel]; exact hvv r
  · have hs' := (lf s).mp hs
    have e : aE (mel L a (vQ Nu Me m) (eQ Nu C)) (Nu' s) c = if C (10 * s + c) = -2 then -2 else Nu (C (10 * s + c)) := by
      rw [aE_mel ((hvv _).mpr ⟨s, hs, rfl⟩) c0 c1, nu s hs]
      unfold eQ
      rw [sgF_eq ho hs'.1]
    rw [e]
    by_cases z : C (10 * s + c) = -2
    · exact Or.inl ⟨z, if_pos z⟩
    · obtain ⟨f1, f2, f3, f4, f5⟩ := fin_root L2 L10 hM hC hE hs'.1 c0 c1 z
      have h' := (lf _).mpr ⟨f3, f4⟩
      exact Or.inr ⟨h', by rw [if_neg z, nu _ h']⟩
  · have hs' := (lf s).mp hs
    show Dn s = if vQ Nu Me m (Nu' s) ≠ 0 ∧ aD a (Nu' s) ≠ 0 then 1 else 0
    rw [hE0.2.2 s hs'.1, nu s hs]
    have hv : vQ Nu Me m (Nu s) ≠ 0 := vQ_ne.mpr ⟨s, hs'.1, hs'.2, rfl⟩
    by_cases z : aD a (Nu s) ≠ 0
    · rw [if_pos ⟨hv, z⟩]; exact (hW.2.2.2.1 _ z).1
    · rw [if_neg (fun y => z y.2)]; exact Classical.byContradiction z
