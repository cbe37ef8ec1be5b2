/-! ===== merge: a heap doesn't hang on the order of its dots ===== -/
section ORD
variable {t z : Nat → Int32} {e v : Int32} {r s : Nat → Nat}
theorem lo1_iff {x : Int32} : ∀ {l : Nat}, lo1 t z e v r l ≤ x ↔ (-2000 ≤ x ∧ ∀ i, i < l → z (r i) - v * t (r i) - e ≤ x)
  | 0 => ⟨fun h => ⟨h, fun i hi => by omega⟩, fun h => h.1⟩
  | l + 1 => by
    rw [lo1]
    have ih := lo1_iff (x := x) (l := l)
    constructor
    · intro h
      split at h
      · rename_i hlt
        have h2 : lo1 t z e v r l ≤ x := by rw [i_le] at h ⊢; rw [i_lt] at hlt; omega
        refine ⟨(ih.mp h2).1, fun i hi => ?_⟩
        by_cases hil : i = l
        · subst hil; exact h
        · exact (ih.mp h2).2 i (by omega)
      · rename_i hlt
        refine ⟨(ih.mp h).1, fun i hi => ?_⟩
        by_cases hil : i = l
        · subst hil
          rw [i_le] at h ⊢; rw [i_lt] at hlt; omega
        · exact (ih.mp h).2 i (by omega)
    · intro h
      split
      · exact h.2 l (by omega)
      · exact ih.mpr ⟨h.1, fun i hi => h.2 i (by omega)⟩
theorem hi1_iff {x : Int32} : ∀ {l : Nat}, x ≤ hi1 t z e v r l ↔ (x ≤ 2000 ∧ ∀ i, i < l → x ≤ z (r i) - v * t (r i) + e)
  | 0 => ⟨fun h => ⟨h, fun i hi => by omega⟩, fun h => h.1⟩
  | l + 1 => by
    rw [hi1]
    have ih := hi1_iff (x := x) (l := l)
    constructor
    · intro h
      split at h
      · rename_i hlt
        have h2 : x ≤ hi1 t z e v r l := by rw [i_le] at h ⊢; rw [i_lt] at hlt; omega
        refine ⟨(ih.mp h2).1, fun i hi => ?_⟩
        by_cases hil : i = l
        · subst hil; exact h
        · exact (ih.mp h2).2 i (by omega)
      · rename_i hlt
        refine ⟨(ih.mp h).1, fun i hi => ?_⟩
        by_cases hil : i = l
        · subst hil
          rw [i_le] at h ⊢; rw [i_lt] at hlt; omega
        · exact (ih.mp h).2 i (by omega)
    · intro h
      split
      · exact h.2 l (by omega)
      · exact ih.mpr ⟨h.1, fun i hi => h.2 i (by omega)⟩
theorem lo1_set {l m : Nat} (h1 : ∀ i, i < l → ∃ j, j < m ∧ s j = r i) (h2 : ∀ j, j < m → ∃ i, i < l ∧ r i = s j) : lo1 t z e v r l = lo1 t z e v s m := by
  have a1 : lo1 t z e v r l ≤ lo1 t z e v s m := by
    rw [lo1_iff]
    have hs := (lo1_iff (t := t) (z := z) (e := e) (v := v) (r := s) (l := m) (x := lo1 t z e v s m)).mp (by rw [i_le]; omega)
    refine ⟨hs.1, fun i hi => ?_⟩
    obtain ⟨j, hj, he⟩ := h1 i hi
    rw [← he]
    exact hs.2 j hj
  have a2 : lo1 t z e v s m ≤ lo1 t z e v r l := by
    rw [lo1_iff]
    have hs := (lo1_iff (t := t) (z := z) (e := e) (v := v) (r := r) (l := l) (x := lo1 t z e v r l)).mp (by rw [i_le]; omega)
    refine ⟨hs.1, fun j hj => ?_⟩
    obtain ⟨i, hi, he⟩ := h2 j hj
    rw [← he]
    exact hs.2 i hi
  rw [i_le] at a1 a2
  exact (i_eq _ _).mpr (by omega)
theorem hi1_set {l m : Nat} (h1 : ∀ i, i < l → ∃ j, j < m ∧ s j = r i) (h2 : ∀ j, j < m → ∃ i, i < l ∧ r i = s j) : hi1 t z e v r l = hi1 t z e v s m := by
  have a1 : hi1 t z e v s m ≤ hi1 t z e v r l := by
    rw [hi1_iff]
    have hs := (hi1_iff (t := t) (z := z) (e := e) (v := v) (r := s) (l := m) (x := hi1 t z e v s m)).mp (by rw [i_le]; omega)
    refine ⟨hs.1, fun i hi => ?_⟩
    obtain ⟨j, hj, he⟩ := h1 i hi
    rw [← he]
    exact hs.2 j hj
  have a2 : hi1 t z e v r l ≤ hi1 t z e v s m := by
    rw [hi1_iff]
    have hs := (hi1_iff (t := t) (z := z) (e := e) (v := v) (r := r) (l := l) (x := hi1 t z e v r l)).mp (by rw [i_le]; omega)
    refine ⟨hs.1, fun j hj => ?_⟩
    obtain ⟨i, hi, he⟩ := h2 j hj
    rw [← he]
    exact hs.2 i hi
  rw [i_le] at a1 a2
  exact (i_eq _ _).mpr (by omega)
end ORD
theorem anyS_set {M : g_M} {ax : Int32} {r s : Nat → Nat} {l m : Nat} (h1 : ∀ i, i < l → ∃ j, j < m ∧ s j = r i) (h2 : ∀ j, j < m → ∃ i, i < l ∧ r i = s j) : ∀ k, anyS (cLp M ax r l) k = anyS (cLp M ax s m) k
  | 0 => rfl
  | k + 1 => by
    rw [anyS, anyS, anyS_set h1 h2 k]
    have eK : spK (cLp M ax r l) (vs k) = spK (cLp M ax s m) (vs k) := by
      unfold spK spL spG cLp
      dsimp only
      rw [lo1_set h1 h2, hi1_set h1 h2]
    rw [eK]
theorem snd_set {M : g_M} {r s : Nat → Nat} {l m : Nat} (h1 : ∀ i, i < l → ∃ j, j < m ∧ s j = r i) (h2 : ∀ j, j < m → ∃ i, i < l ∧ r i = s j) : snd M r l = snd M s m := by
  unfold snd
  rw [anyS_set h1 h2, anyS_set h1 h2]
theorem rbo_mem {ln : Nat → Nat} {rf : Nat → Nat → Nat} {p q : Nat} : ∀ i, i < ln p + ln q → ∃ j, j < ln q + ln p ∧ rbo ln rf q p j = rbo ln rf p q i := fun i hi => by
  unfold rbo
  by_cases h : i < ln p
  · refine ⟨ln q + i, by omega, ?_⟩
    rw [if_neg (by omega), if_pos h, Nat.add_sub_cancel_left]
  · refine ⟨i - ln p, by omega, ?_⟩
    rw [if_pos (by omega), if_neg h]
theorem snd_rbo {M : g_M} {ln : Nat → Nat} {rf : Nat → Nat → Nat} (p q : Nat) : snd M (rbo ln rf p q) (ln p + ln q) = snd M (rbo ln rf q p) (ln q + ln p) := snd_set rbo_mem rbo_mem
theorem und_mg {c : pS} {s g l2 : Nat} {r2 : Nat → Nat} (hlg : c.1 g = true) (hls : c.1 s = true) : c = und (upP c (some g) s l2 r2) (s, c.2.1 s, c.2.2 s, false, some g) := by
  obtain ⟨lv, ln, rf⟩ := c
  have hlg : lv g = true := hlg
  unfold und upP
  refine Prod.ext ?_ (Prod.ext ?_ ?_)
  · funext q
    by_cases hq : q = g
    · subst hq; simp [hlg]
    · have : ¬ g = q := fun z => hq z.symm
      simp [this]
  · funext q
    by_cases hq : q = s
    · subst hq; simp
    · simp [hq]
  · funext q
    by_cases hq : q = s
    · subst hq; simp
    · simp [hq]
set_option maxHeartbeats 2000000 in
theorem tie_mg {M N M1 N2 M2 : g_M} {n e nx kp fa s g : Nat} {c : pS} {A : Nat → aR} {cs : Nat → pS} {Es : Nat → Nat} (h : Iv M n e nx kp fa c A cs Es) (hse : s < e) (hge : g < e) (hsg : s < g) (hls : c.1 s = true) (hlg : c.1 g = true) (hN : gC M N n) (h2 : rok N 147 (c.2.1 s + c.2.1 g) (rbo c.2.1 c.2.2 s g)) (h8 : c.2.1 s + c.2.1 g ≤ 8) (hM1 : M1 = g_st (g_st (chg N s nx kp (c.2.1 s) (c.2.1 s + c.2.1 g) (c.2.2 s) (rbo c.2.1 c.2.2 s g)) (56 + 3 * nx) 2 (nI g)) (18 + 3 * g) 1 1) (hN2 : frM M1 N2) (hM2 : M2 = mgM N2 fa kp s g (szF c s) (c.2.2 g) (szF c g)) : IvX M2 := by
  have h12 := h.e12
  have hs12 : s < 12 := by omega
  have hg12 : g < 12 := by omega
  have hx := h.1.a.2.1
  have hpk := h.2.2.1
  have hok := h.2.2.2.1
  have hCN := cI_gC h.1 hN
  have hrs := hCN.r hs12
  obtain ⟨har, hcf, e6⟩ := hN.1.a1
  have ess := szF_live hls
  have esg := szF_live hlg
  rw [ess, esg] at hM2
  have r1 : ∀ i, i < c.2.1 s → rbo c.2.1 c.2.2 s g i = c.2.2 s i := fun i hi => if_pos hi
  have r2 : ∀ i, i < c.2.1 g → rbo c.2.1 c.2.2 s g (c.2.1 s + i) = c.2.2 g i := fun i hi => by
    unfold rbo
    rw [if_neg (by omega), Nat.add_sub_cancel_left]
  have hmem : ∀ d, (∃ q, q < c.2.1 s + c.2.1 g ∧ rbo c.2.1 c.2.2 s g q = d) ↔ (∃ q, q < c.2.1 s ∧ c.2.2 s q = d) ∨ ∃ q, q < c.2.1 g ∧ c.2.2 g q = d := fun d => by
    constructor
    · rintro ⟨q, hq, he⟩
      by_cases hq1 : q < c.2.1 s
      · exact Or.inl ⟨q, hq1, by rw [← r1 q hq1]; exact he⟩
      · refine Or.inr ⟨q - c.2.1 s, by omega, ?_⟩
        rw [← r2 (q - c.2.1 s) (by omega), show c.2.1 s + (q - c.2.1 s) = q by omega]
        exact he
    · rintro (⟨q, hq, he⟩ | ⟨q, hq, he⟩)
      · exact ⟨q, by omega, by rw [r1 q hq]; exact he⟩
      · exact ⟨c.2.1 s + q, by omega, by rw [r2 q hq]; exact he⟩
  have hnew : ∀ i, i < c.2.1 s + c.2.1 g → rbo c.2.1 c.2.2 s g i < n ∧ ((∃ j, j < c.2.1 s ∧ c.2.2 s j = rbo c.2.1 c.2.2 s g i) ∨ M 6 (rbo c.2.1 c.2.2 s g i) = -1 ∨ ∃ g' j, some g = some g' ∧ c.1 g' = true ∧ j < c.2.1 g' ∧ c.2.2 g' j = rbo c.2.1 c.2.2 s g i) := fun i hi => by
    rcases (hmem _).mp ⟨i, hi, rfl⟩ with ⟨q, hq, he⟩ | ⟨q, hq, he⟩
    · exact ⟨by rw [← he]; exact (hpk.2.1 s hs12).2 q hq, Or.inl ⟨q, hq, he⟩⟩
    · exact ⟨by rw [← he]; exact (hpk.2.1 g hg12).2 q hq, Or.inr (Or.inr ⟨g, q, rfl, hlg, hq, he⟩)⟩
  have hsw : ∀ g', some g = some g' → g' ≠ s ∧ ∀ j, j < c.2.1 g' → ∃ i, i < c.2.1 s + c.2.1 g ∧ rbo c.2.1 c.2.2 s g i = c.2.2 g' j := fun g' z => by
    cases z
    exact ⟨by omega, fun j hj => ⟨c.2.1 s + j, by omega, r2 j hj⟩⟩
  obtain ⟨o1, o2, o3⟩ := chg_own N (p := s) (nx := nx) (kp := kp) (l := c.2.1 s) (l2 := c.2.1 s + c.2.1 g) (r := c.2.2 s) (r2 := rbo c.2.1 c.2.2 s g) hs12 hx
  rw [e6] at o3
  have hcI := chg_cI (p := s) (l2 := c.2.1 s + c.2.1 g) (r2 := rbo c.2.1 c.2.2 s g) hCN.j h2 hse h8
  have hca := chg_act (N := N) (nx := nx) (kp := kp) (p := s) (l := c.2.1 s) (l2 := c.2.1 s + c.2.1 g) (r := c.2.2 s) (r2 := rbo c.2.1 c.2.2 s g) hs12 hx hrs.1
  have cho : ∀ a, a ≠ 9 → a ≠ 6 → a ≠ 19 + 3 * s → a ≠ 20 + 3 * s → a ≠ 54 → a ≠ 56 + 3 * nx → a ≠ 57 + 3 * nx → a ≠ 58 + 3 * nx → chg N s nx kp (c.2.1 s) (c.2.1 s + c.2.1 g) (c.2.2 s) (rbo c.2.1 c.2.2 s g) a = N a := fun a z1 z2 z3 z4 z5 z6 z7 z8 => chg_o N z1 z2 z3 z4 z5 z6 z7 z8
  have ch9 : chg N s nx kp (c.2.1 s) (c.2.1 s + c.2.1 g) (c.2.2 s) (rbo c.2.1 c.2.2 s g) 9 10 = 0 := by rw [chg_ap N _ (by decide), if_pos ⟨rfl, rfl⟩]
  generalize chg N s nx kp (c.2.1 s) (c.2.1 s + c.2.1 g) (c.2.2 s) (rbo c.2.1 c.2.2 s g) = CH at hM1 o1 o2 o3 hcI hca cho ch9
  have m1 : ∀ a b, ¬ (a = 18 + 3 * g ∧ b = 1) → ¬ (a = 56 + 3 * nx ∧ b = 2) → M1 a b = CH a b := fun a b z1 z2 => by rw [hM1, g_st_ap, if_neg z1, g_st_ap, if_neg z2]
  have m1o : ∀ a, a ≠ 18 + 3 * g → a ≠ 56 + 3 * nx → M1 a = CH a := fun a z1 z2 => by
    funext b
    exact m1 a b (by omega) (by omega)
  have hh : hiE M M1 := fun a ha => by
    rw [m1o a (by omega) (by omega), cho a (by omega) (by omega) (by omega) (by omega) (by omega) (by omega) (by omega) (by omega)]
    exact hN.1.hi a ha
  have e66 : M1 6 = CH 6 := m1o 6 (by omega) (by omega)
  rw [← e66] at o1 o2 o3
  have hown := own_upd (F := M 6) (H := M1 6) (sw := some g) (p := s) h12 hpk hok hls h8 hsw hnew o1 o2 o3
  have k15 : ∀ a b, 150 ≤ a → a ≤ 158 → mKP N2 fa kp a b = M a b := fun a b z1 z2 => by
    rw [mKP_o _ _ _ _ (by omega) (by omega), hN2 a b (by omega) (by omega), hh a (by omega)]
  have m2 : ∀ a b, ¬ (a = 156 ∧ b = g) → ¬ (a = 158 ∧ b = g) → M2 a b = cms (mKP N2 fa kp) s (c.2.1 s) (c.2.2 g) (c.2.1 g) a b := fun a b z1 z2 => by
    rw [hM2]
    unfold mgM
    rw [g_st_ap, if_neg z2, g_st_ap, if_neg z1]
  have o1' : ∀ d, (∃ q, q < c.2.1 s + c.2.1 g ∧ rbo c.2.1 c.2.2 s g q = d) → M2 154 d = nI s := fun d hd => by
    rw [m2 154 d (by omega) (by omega)]
    by_cases hf2 : ∃ q, q < c.2.1 g ∧ c.2.2 g q = d
    · exact cms_in _ _ hf2
    · rw [cms_no _ _ (fun q hq hz => hf2 ⟨q, hq, hz⟩), k15 154 d (by omega) (by omega), h.2.1.2.2.1.2.2.2.2]
      rcases (hmem d).mp hd with ⟨q, hq, he⟩ | hz
      · have hdn : d < n := by rw [← he]; exact (hpk.2.1 s hs12).2 q hq
        exact (hok d hdn).1 s q hls hq he
      · exact absurd hz hf2
  have o3' : ∀ d, (∀ q, q < c.2.1 s + c.2.1 g → rbo c.2.1 c.2.2 s g q ≠ d) → M2 154 d = M 6 d := fun d hd => by
    rw [m2 154 d (by omega) (by omega), cms_no _ _ (fun q hq hz => by
      obtain ⟨k, hk, he⟩ := (hmem d).mpr (Or.inr ⟨q, hq, hz⟩)
      exact hd k hk he), k15 154 d (by omega) (by omega), h.2.1.2.2.1.2.2.2.2]
  have hown2 := own_upd (F := M 6) (H := M2 154) (sw := some g) (p := s) h12 hpk hok hls h8 hsw hnew o1' (fun d hd ho => by
    obtain ⟨k, hk, he⟩ := (hmem d).mpr (Or.inl ho)
    exact absurd he (hd k hk)) (fun d hd _ => o3' d hd)
  refine act_fin (c2 := upP c (some g) s (c.2.1 s + c.2.1 g) (rbo c.2.1 c.2.2 s g)) (a := (s, c.2.1 s, c.2.2 s, false, some g)) (N := N2) (M1 := M1) h hh hN2 ?_ (und_mg hlg hls) ⟨hs12, (h.1.r hs12).2, ?_, (fun z => by cases z), fun g' z => ?_⟩ (Nat.le_refl e) hown.1 hown.2 ?_ (fun j hj hne => ?_) ?_ ?_ (fun a b z1 z2 => ?_) ?_ ?_ (fun q hq => ?_) (fun q hq => ?_)
  · refine cI_cg2 hcI ?_ (fun a ha => m1o a ?_ ?_)
    · rw [m1 9 10 (by omega) (by omega)]; exact ch9
    · rcases ha with rfl | rfl | rfl | rfl | ⟨p, hp, rfl | rfl⟩ <;> omega
    · rcases ha with rfl | rfl | rfl | rfl | ⟨p, hp, rfl | rfl⟩ <;> omega
  · show (if some g = some s then false else c.1 s) = true
    rw [if_neg (by intro z; cases z; omega)]; exact hls
  · cases z
    exact ⟨hg12, by show g ≠ s; omega⟩
  · obtain ⟨y1, y2, y3, y4⟩ := hca
    refine ⟨?_, ?_, y3.cg (m1o _ (by omega) (by omega)) (m1o _ (by omega) (by omega)), Or.inr ⟨g, rfl, ?_⟩⟩
    · rw [m1 _ _ (by omega) (by omega)]; exact y1
    · rw [m1 _ _ (by omega) (by omega)]; exact y2
    · rw [hM1, g_st_ap, if_neg (by omega), g_st_ap, if_pos ⟨rfl, rfl⟩]
  · obtain ⟨w1, w2, w3⟩ := hN.1.act hj
    refine ⟨?_, ?_, ?_⟩
    · rw [m1o _ (by omega) (by omega), cho _ (by omega) (by omega) (by omega) (by omega) (by omega) (by omega) (by omega) (by omega)]; exact w1
    · rw [m1o _ (by omega) (by omega), cho _ (by omega) (by omega) (by omega) (by omega) (by omega) (by omega) (by omega) (by omega)]; exact w2
    · rw [m1o _ (by omega) (by omega), cho _ (by omega) (by omega) (by omega) (by omega) (by omega) (by omega) (by omega) (by omega)]; exact w3
  · rw [m1o 8 (by omega) (by omega), m1o 7 (by omega) (by omega), cho 8 (by omega) (by omega) (by omega) (by omega) (by omega) (by omega) (by omega) (by omega), cho 7 (by omega) (by omega) (by omega) (by omega) (by omega) (by omega) (by omega) (by omega)]; exact hcf
  · rw [m1o 2 (by omega) (by omega), m1o 3 (by omega) (by omega), m1o 4 (by omega) (by omega), m1o 5 (by omega) (by omega), cho 2 (by omega) (by omega) (by omega) (by omega) (by omega) (by omega) (by omega) (by omega), cho 3 (by omega) (by omega) (by omega) (by omega) (by omega) (by omega) (by omega) (by omega), cho 4 (by omega) (by omega) (by omega) (by omega) (by omega) (by omega) (by omega) (by omega), cho 5 (by omega) (by omega) (by omega) (by omega) (by omega) (by omega) (by omega) (by omega)]; exact har
  · rw [m2 a b (by omega) (by omega)]; exact cms_o _ _ (by omega) (by omega) (by omega) _
  · rw [m2 149 1 (by omega) (by omega), cms_o _ _ (by decide) (by decide) (by decide), mKP_149, if_neg (by decide), if_neg (by decide), hN2 149 1 (by decide) (by decide), hh 149 (by decide)]
    exact h.2.1.1.2.1
  · refine (oOK_eq hown2.2 hown.2 (fun d hd => ?_))
    have n1 : ∀ q, q < c.2.1 s + c.2.1 g → rbo c.2.1 c.2.2 s g q ≠ d := fun q hq => by have := (hnew q hq).1; omega
    have n2 : ∀ q, q < c.2.1 s → c.2.2 s q ≠ d := fun q hq => by have := (hpk.2.1 s hs12).2 q hq; omega
    rw [o3' d n1, o3 d n1 n2]
  · obtain ⟨w1, w2, w3⟩ := h.2.1.2.2.2.2.1 q hq
    have ew : ∀ b, ¬ (q = g ∧ b = 1) → M1 (18 + 3 * q) b = M (18 + 3 * q) b := fun b z => by
      rw [m1 _ _ (by omega) (by omega), cho _ (by omega) (by omega) (by omega) (by omega) (by omega) (by omega) (by omega) (by omega), hN.1.wan hq]
    refine ⟨?_, ?_⟩
    · rw [ew 0 (by omega), m2 155 q (by omega) (by omega), cms_o _ _ (by decide) (by decide) (by decide), k15 155 q (by omega) (by omega)]; exact w1
    · by_cases hqg : q = g
      · subst hqg
        have eg : goF (upP c (some q) s (c.2.1 s + c.2.1 q) (rbo c.2.1 c.2.2 s q)) e q = true := by
          unfold goF upP
          simp [hge]
        rw [eg, hM1, hM2]
        unfold mgM
        rw [g_st_ap, if_pos ⟨rfl, rfl⟩, g_st_ap, if_pos ⟨rfl, rfl⟩]
        exact ⟨rfl, rfl⟩
      · have eg : goF (upP c (some g) s (c.2.1 s + c.2.1 g) (rbo c.2.1 c.2.2 s g)) e q = goF c e q := by
          have : ¬ g = q := fun z => hqg z.symm
          unfold goF upP
          simp [this]
        rw [eg, ew 1 (by omega), m2 158 q (by omega) (by omega), cms_o _ _ (by decide) (by decide) (by decide), k15 158 q (by omega) (by omega)]
        exact ⟨w2, w3⟩
  · obtain ⟨f1, f2⟩ := h.2.1.2.2.2.2.2 q hq
    have h8q := (szF_le hpk hq).1
    by_cases hqg : q = g
    · subst hqg
      have es : szF (upP c (some q) s (c.2.1 s + c.2.1 q) (rbo c.2.1 c.2.2 s q)) q = 0 := by
        unfold szF upP
        simp
      rw [es]
      refine ⟨?_, fun i hi => by omega⟩
      rw [hM2]
      unfold mgM
      rw [g_st_ap, if_neg (by omega), g_st_ap, if_pos ⟨rfl, rfl⟩]
      rfl
    · by_cases hqs : q = s
      · subst hqs
        have es : szF (upP c (some g) q (c.2.1 q + c.2.1 g) (rbo c.2.1 c.2.2 q g)) q = c.2.1 q + c.2.1 g := by
          have : ¬ g = q := fun z => hqg z.symm
          unfold szF upP
          simp [this, hls]
        have er : (upP c (some g) q (c.2.1 q + c.2.1 g) (rbo c.2.1 c.2.2 q g)).2.2 q = rbo c.2.1 c.2.2 q g := if_pos rfl
        rw [es, er]
        rw [ess] at f1 f2
        refine ⟨?_, fun i hi => ?_⟩
        · rw [m2 156 q (by omega) (by omega)]
          exact cms_156 _ (by rw [k15 156 q (by omega) (by omega)]; exact f1) _
        · rw [m2 157 _ (by omega) (by omega)]
          by_cases hi1 : i < c.2.1 q
          · rw [cms_157o _ _ (by omega), k15 157 _ (by omega) (by omega), f2 i hi1, r1 i hi1]
          · rw [show 8 * q + i = 8 * q + (c.2.1 q + (i - c.2.1 q)) by omega, cms_157 _ _ (by omega), ← r2 (i - c.2.1 q) (by omega), show c.2.1 q + (i - c.2.1 q) = i by omega]
      · have es : szF (upP c (some g) s (c.2.1 s + c.2.1 g) (rbo c.2.1 c.2.2 s g)) q = szF c q := by
          have : ¬ g = q := fun z => hqg z.symm
          unfold szF upP
          simp [this, hqs]
        have er : (upP c (some g) s (c.2.1 s + c.2.1 g) (rbo c.2.1 c.2.2 s g)).2.2 q = c.2.2 q := if_neg hqs
        rw [es, er]
        refine ⟨?_, fun i hi => ?_⟩
        · rw [m2 156 q (by omega) (by omega), cms_156o _ hqs, k15 156 q (by omega) (by omega)]; exact f1
        · rw [m2 157 _ (by omega) (by omega), cms_157o _ _ (by omega), k15 157 _ (by omega) (by omega)]; exact f2 i hi
set_option maxHeartbeats 2000000 in
theorem h_merge {M M1 : g_M} {L L1 : g_L} {v1 : Int32} {x1 x2 : Int32} {n e nx kp fa : Nat} {c : pS} {A : Nat → aR} {cs : Nat → pS} {Es : Nat → Nat} (h : Iv M n e nx kp fa c A cs Es) (P1 : L = L1 ∧ (((cHas M x1 = false ∨ cHas M x2 = false) ∧ v1 = -1 ∧ gC M M1 n) ∨ ∃ p q, p < e ∧ x1 = nI p ∧ M (18 + 3 * p) 1 = 0 ∧ q < e ∧ x2 = nI q ∧ M (18 + 3 * q) 1 = 0 ∧ ((p = q ∧ v1 = -2 ∧ gC M M1 n) ∨ (p ≠ q ∧ ∃ s g, s = min p q ∧ g = max p q ∧ ((snd M (rbo c.2.1 c.2.2 s g) (c.2.1 s + c.2.1 g) = false ∧ v1 = -3 ∧ gC M M1 n) ∨ (snd M (rbo c.2.1 c.2.2 s g) (c.2.1 s + c.2.1 g) = true ∧ ((8 < c.2.1 s + c.2.1 g ∧ v1 = -4 ∧ gC M M1 n) ∨ (c.2.1 s + c.2.1 g ≤ 8 ∧ v1 = nI s ∧ ∃ N, gC M N n ∧ rok N 147 (c.2.1 s + c.2.1 g) (rbo c.2.1 c.2.2 s g) ∧ M1 = g_st (g_st (chg N s nx kp (c.2.1 s) (c.2.1 s + c.2.1 g) (c.2.2 s) (rbo c.2.1 c.2.2 s g)) (56 + 3 * nx) 2 (nI g)) (18 + 3 * g) 1 1)))))))) : hiE M M1 := by
  have h12 := h.e12
  have hx := h.1.a.2.1
  obtain ⟨-, ⟨-, -, hg⟩ | ⟨p, q, hp, rfl, hg0, hq, rfl, hg1, ⟨-, -, hg⟩ | ⟨hne, s, g, rfl, rfl, ⟨-, -, hg⟩ | ⟨-, ⟨-, -, hg⟩ | ⟨-, -, N, hg, -, rfl⟩⟩⟩⟩⟩ := P1
  · exact hg.1.hi
  · exact hg.1.hi
  · exact hg.1.hi
  · exact hg.1.hi
  · exact (((hg.1.hi.trans (chg_hi (by omega) hx)).st (by omega) _ _).st (by omega) _ _)
set_option maxHeartbeats 2000000 in
theorem s_merge {M M1 : g_M} {L L1 : g_L} {v1 : Int32} {x1 x2 : Int32} {n e nx kp fa : Nat} {c : pS} {A : Nat → aR} {cs : Nat → pS} {Es : Nat → Nat} (h : Iv M n e nx kp fa c A cs Es) {M2 : g_M} {L2 : g_L} {v2 : Int32} (P1 : L = L1 ∧ (((cHas M x1 = false ∨ cHas M x2 = false) ∧ v1 = -1 ∧ gC M M1 n) ∨ ∃ p q, p < e ∧ x1 = nI p ∧ M (18 + 3 * p) 1 = 0 ∧ q < e ∧ x2 = nI q ∧ M (18 + 3 * q) 1 = 0 ∧ ((p = q ∧ v1 = -2 ∧ gC M M1 n) ∨ (p ≠ q ∧ ∃ s g, s = min p q ∧ g = max p q ∧ ((snd M (rbo c.2.1 c.2.2 s g) (c.2.1 s + c.2.1 g) = false ∧ v1 = -3 ∧ gC M M1 n) ∨ (snd M (rbo c.2.1 c.2.2 s g) (c.2.1 s + c.2.1 g) = true ∧ ((8 < c.2.1 s + c.2.1 g ∧ v1 = -4 ∧ gC M M1 n) ∨ (c.2.1 s + c.2.1 g ≤ 8 ∧ v1 = nI s ∧ ∃ N, gC M N n ∧ rok N 147 (c.2.1 s + c.2.1 g) (rbo c.2.1 c.2.2 s g) ∧ M1 = g_st (g_st (chg N s nx kp (c.2.1 s) (c.2.1 s + c.2.1 g) (c.2.2 s) (rbo c.2.1 c.2.2 s g)) (56 + 3 * nx) 2 (nI g)) (18 + 3 * g) 1 1)))))))) (P2 : L1 = L2 ∧ (((mHas M1 e x1 = false ∨ mHas M1 e x2 = false) ∧ v2 = -1 ∧ frM M1 M2) ∨ ∃ p q, p < e ∧ x1 = nI p ∧ M1 158 p = 0 ∧ q < e ∧ x2 = nI q ∧ M1 158 q = 0 ∧ ((p = q ∧ v2 = -2 ∧ frM M1 M2) ∨ (p ≠ q ∧ ((msnd M1 (rbo (szF c) c.2.2 p q) ((szF c) p + (szF c) q) = false ∧ v2 = -3 ∧ frM M1 M2) ∨ (msnd M1 (rbo (szF c) c.2.2 p q) ((szF c) p + (szF c) q) = true ∧ ((8 < (szF c) p + (szF c) q ∧ v2 = -4 ∧ frM M1 M2) ∨ ((szF c) p + (szF c) q ≤ 8 ∧ v2 = nI (min p q) ∧ ∃ N, frM M1 N ∧ M2 = mgM N fa kp (min p q) (max p q) ((szF c) (min p q)) (c.2.2 (max p q)) ((szF c) (max p q)))))))))) : v1 = v2 ∧ IvX M2 := by
  have hh := h_merge h P1
  have h12 := h.e12
  obtain ⟨-, P1⟩ := P1
  obtain ⟨-, P2⟩ := P2
  rw [h.has hh, h.has hh] at P2
  rcases P1 with ⟨hc, rfl, hg⟩ | ⟨p, q, hp, rfl, hg0, hq, rfl, hg1, P1⟩
  · rcases P2 with ⟨-, rfl, hf⟩ | ⟨p, q, hp, rfl, hg0, hq, rfl, hg1, -⟩
    · exact ⟨rfl, h.x hg hf⟩
    · rw [h.p0 hh hp] at hg0
      rw [h.p0 hh hq] at hg1
      rw [cHas_p h.1.e.1 h12 hp hg0, cHas_p h.1.e.1 h12 hq hg1] at hc
      simp at hc
  rcases P2 with ⟨hc2, -⟩ | ⟨p2, q2, hp2, he, -, hq2, he2, -, P2⟩
  · rw [cHas_p h.1.e.1 h12 hp hg0, cHas_p h.1.e.1 h12 hq hg1] at hc2
    simp at hc2
  have hpp := nIe hp hp2 (by omega) he
  have hqq := nIe hq hq2 (by omega) he2
  subst hpp
  subst hqq
  rcases P1 with ⟨h1, rfl, hg⟩ | ⟨h1, s, g, hs, hgm, P1⟩
  · rcases P2 with ⟨-, rfl, hf⟩ | ⟨h2, -⟩
    · exact ⟨rfl, h.x hg hf⟩
    · exact absurd h1 h2
  rcases P2 with ⟨h2, -⟩ | ⟨-, P2⟩
  · exact absurd h2 h1
  have hlp := h.live hp hg0
  have hlq := h.live hq hg1
  have ep := szF_live hlp
  have eq := szF_live hlq
  have hb : rbo (szF c) c.2.2 p q = rbo c.2.1 c.2.2 p q := by
    unfold rbo
    rw [ep]
  have hor : (s = p ∧ g = q ∧ p < q) ∨ (s = q ∧ g = p ∧ q < p) := by omega
  have hsn : msnd M1 (rbo (szF c) c.2.2 p q) (szF c p + szF c q) = snd M (rbo c.2.1 c.2.2 s g) (c.2.1 s + c.2.1 g) := by
    rw [h.eS hh, hb, ep, eq]
    rcases hor with ⟨rfl, rfl, -⟩ | ⟨rfl, rfl, -⟩
    · rfl
    · exact snd_rbo _ _
  have hlen : szF c p + szF c q = c.2.1 s + c.2.1 g := by
    rw [ep, eq]
    rcases hor with ⟨rfl, rfl, -⟩ | ⟨rfl, rfl, -⟩
    · rfl
    · exact Nat.add_comm _ _
  rw [hsn, hlen, ← hs, ← hgm] at P2
  rcases P1 with ⟨h3, rfl, hg⟩ | ⟨h3, P1⟩
  · rcases P2 with ⟨-, rfl, hf⟩ | ⟨h2, -⟩
    · exact ⟨rfl, h.x hg hf⟩
    · rw [h3] at h2; cases h2
  rcases P2 with ⟨h2, -⟩ | ⟨-, P2⟩
  · rw [h3] at h2; cases h2
  rcases P1 with ⟨h8, rfl, hg⟩ | ⟨h8, rfl, N, hg, hr, hM1⟩
  · rcases P2 with ⟨-, rfl, hf⟩ | ⟨h9, -⟩
    · exact ⟨rfl, h.x hg hf⟩
    · omega
  rcases P2 with ⟨h9, -⟩ | ⟨-, rfl, N2, hf, hM2⟩
  · omega
  refine ⟨rfl, tie_mg h (s := s) (g := g) (by omega) (by omega) (by omega) ?_ ?_ hg hr h8 hM1 hf hM2⟩
  · rcases hor with ⟨rfl, rfl, -⟩ | ⟨rfl, rfl, -⟩
    · exact hlp
    · exact hlq
  · rcases hor with ⟨rfl, rfl, -⟩ | ⟨rfl, rfl, -⟩
    · exact hlq
    · exact hlp
