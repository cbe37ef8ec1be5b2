/-! ===== join, joinBit, force ===== -/
theorem frC.a1 {M N : g_M} (h : frC M N) : (N 2 = M 2 ∧ N 3 = M 3 ∧ N 4 = M 4 ∧ N 5 = M 5) ∧ (N 8 1 = M 8 1 ∧ N 7 1 = M 7 1 ∧ N 7 2 = M 7 2) ∧ N 6 = M 6 := by
  refine ⟨⟨?_, ?_, ?_, ?_⟩, ⟨?_, ?_, ?_⟩, ?_⟩
  · exact h.o 2 (by decide) (by decide) (by decide) (by decide) (by decide) (by decide)
  · exact h.o 3 (by decide) (by decide) (by decide) (by decide) (by decide) (by decide)
  · exact h.o 4 (by decide) (by decide) (by decide) (by decide) (by decide) (by decide)
  · exact h.o 5 (by decide) (by decide) (by decide) (by decide) (by decide) (by decide)
  · exact h 8 1 (by decide) (by decide) (by decide) (by decide) (by decide) (by decide)
  · exact h 7 1 (by decide) (by decide) (by decide) (by decide) (by decide) (by decide)
  · exact h 7 2 (by decide) (by decide) (by decide) (by decide) (by decide) (by decide)
  · exact h.o 6 (by decide) (by decide) (by decide) (by decide) (by decide) (by decide)
theorem frC.act {M N : g_M} (h : frC M N) {j : Nat} (hj : j < 30) : N (56 + 3 * j) = M (56 + 3 * j) ∧ N (57 + 3 * j) = M (57 + 3 * j) ∧ N (57 + 3 * j + 1) = M (57 + 3 * j + 1) :=
  ⟨h.o _ (by omega) (by omega) (by omega) (by omega) (by omega) (by omega), h.o _ (by omega) (by omega) (by omega) (by omega) (by omega) (by omega), h.o _ (by omega) (by omega) (by omega) (by omega) (by omega) (by omega)⟩
theorem frC.wan {M N : g_M} (h : frC M N) {p : Nat} (hp : p < 12) : N (18 + 3 * p) = M (18 + 3 * p) := h.o _ (by omega) (by omega) (by omega) (by omega) (by omega) (by omega)
theorem und_up {c : pS} {p l2 : Nat} {r2 : Nat → Nat} : c = und (upP c none p l2 r2) (p, c.2.1 p, c.2.2 p, false, none) := by
  obtain ⟨lv, ln, rf⟩ := c
  unfold und upP
  refine Prod.ext ?_ (Prod.ext ?_ ?_)
  · funext q
    simp
  · funext q
    by_cases hq : q = p
    · subst hq; simp
    · simp [hq]
  · funext q
    by_cases hq : q = p
    · subst hq; simp
    · simp [hq]
theorem goF_up {c : pS} {p l2 e q : Nat} {r2 : Nat → Nat} : goF (upP c none p l2 r2) e q = goF c e q := by
  unfold goF upP
  simp
theorem szF_up {c : pS} {p l2 q : Nat} {r2 : Nat → Nat} (hl : c.1 p = true) : szF (upP c none p l2 r2) q = if q = p then l2 else szF c q := by
  unfold szF upP
  by_cases hq : q = p
  · subst hq; simp [hl]
  · simp [hq]
theorem szF_live {c : pS} {p : Nat} (hl : c.1 p = true) : szF c p = c.2.1 p := by
  unfold szF
  rw [if_pos hl]
set_option maxHeartbeats 2000000 in
theorem tie_len {M N M1 N2 M2 : g_M} {n e nx kp fa p m : Nat} {c : pS} {A : Nat → aR} {cs : Nat → pS} {Es : Nat → Nat} {f r2 : Nat → Nat} (h : Iv M n e nx kp fa c A cs Es) (hpe : p < e) (hg0 : M (18 + 3 * p) 1 = 0) (hN : gC M N n) (h2 : rok N 147 (c.2.1 p + m) r2) (h8 : c.2.1 p + m ≤ 8) (hr1 : ∀ i, i < c.2.1 p → r2 i = c.2.2 p i) (hr2 : ∀ i, i < m → r2 (c.2.1 p + i) = f i) (hf : ∀ i, i < m → f i < n ∧ M 6 (f i) = -1) (hM1 : M1 = chg N p nx kp (c.2.1 p) (c.2.1 p + m) (c.2.2 p) r2) (hN2 : frM M1 N2) (hM2 : M2 = cms (mKP N2 fa kp) p (szF c p) f m) : IvX M2 := by
  have h12 := h.e12
  have hp12 : p < 12 := by omega
  have hl := h.live hpe hg0
  have hs := szF_live hl
  have hx := h.1.a.2.1
  have hpk := h.2.2.1
  have hok := h.2.2.2.1
  have hCN := cI_gC h.1 hN
  have hrp := hCN.r hp12
  obtain ⟨har, hcf, e6⟩ := hN.1.a1
  rw [hs] at hM2
  have hmem : ∀ d, (∃ q, q < c.2.1 p + m ∧ r2 q = d) ↔ (∃ q, q < c.2.1 p ∧ c.2.2 p q = d) ∨ ∃ q, q < m ∧ f q = d := fun d => by
    constructor
    · rintro ⟨q, hq, he⟩
      by_cases hq1 : q < c.2.1 p
      · exact Or.inl ⟨q, hq1, by rw [← hr1 q hq1]; exact he⟩
      · refine Or.inr ⟨q - c.2.1 p, by omega, ?_⟩
        rw [← hr2 (q - c.2.1 p) (by omega), show c.2.1 p + (q - c.2.1 p) = q by omega]
        exact he
    · rintro (⟨q, hq, he⟩ | ⟨q, hq, he⟩)
      · exact ⟨q, by omega, by rw [hr1 q hq]; exact he⟩
      · exact ⟨c.2.1 p + q, by omega, by rw [hr2 q hq]; exact he⟩
  have hnew : ∀ i, i < c.2.1 p + m → r2 i < n ∧ ((∃ j, j < c.2.1 p ∧ c.2.2 p j = r2 i) ∨ M 6 (r2 i) = -1 ∨ ∃ g j, (none : Option Nat) = some g ∧ c.1 g = true ∧ j < c.2.1 g ∧ c.2.2 g j = r2 i) := fun i hi => by
    rcases (hmem (r2 i)).mp ⟨i, hi, rfl⟩ with ⟨q, hq, he⟩ | ⟨q, hq, he⟩
    · exact ⟨by rw [← he]; exact (hpk.2.1 p hp12).2 q hq, Or.inl ⟨q, hq, he⟩⟩
    · exact ⟨by rw [← he]; exact (hf q hq).1, Or.inr (Or.inl (by rw [← he]; exact (hf q hq).2))⟩
  obtain ⟨o1, o2, o3⟩ := chg_own N (p := p) (nx := nx) (kp := kp) (l := c.2.1 p) (l2 := c.2.1 p + m) (r := c.2.2 p) (r2 := r2) hp12 hx
  rw [← hM1] at o1 o2 o3
  rw [e6] at o3
  have hown := own_upd (F := M 6) (H := M1 6) (sw := none) h12 hpk hok hl h8 (fun g z => by cases z) hnew o1 o2 o3
  have hN154 : ∀ d, mKP N2 fa kp 154 d = M 6 d := fun d => by
    have hh : hiE M M1 := by rw [hM1]; exact hN.1.hi.trans (chg_hi hp12 hx)
    rw [mKP_o _ _ _ _ (by decide) (by decide), hN2 154 d (by omega) (by omega), hh 154 (by decide), h.2.1.2.2.1.2.2.2.2]
  have o1' : ∀ d, (∃ q, q < c.2.1 p + m ∧ r2 q = d) → M2 154 d = nI p := fun d hd => by
    rw [hM2]
    by_cases hf2 : ∃ q, q < m ∧ f q = d
    · exact cms_in _ _ hf2
    · rw [cms_no _ _ (fun q hq hz => hf2 ⟨q, hq, hz⟩), hN154]
      rcases (hmem d).mp hd with ⟨q, hq, he⟩ | hz
      · have hdn : d < n := by rw [← he]; exact (hpk.2.1 p hp12).2 q hq
        exact (hok d hdn).1 p q hl hq he
      · exact absurd hz hf2
  have o3' : ∀ d, (∀ q, q < c.2.1 p + m → r2 q ≠ d) → M2 154 d = M 6 d := fun d hd => by
    rw [hM2, cms_no _ _ (fun q hq hz => by
      obtain ⟨k, hk, he⟩ := (hmem d).mpr (Or.inr ⟨q, hq, hz⟩)
      exact hd k hk he), hN154]
  have hown2 := own_upd (F := M 6) (H := M2 154) (sw := none) h12 hpk hok hl h8 (fun g z => by cases z) hnew o1' (fun d hd ho => by
    obtain ⟨k, hk, he⟩ := (hmem d).mpr (Or.inl ho)
    exact absurd he (hd k hk)) (fun d hd _ => o3' d hd)
  have hcI := chg_cI (p := p) (l2 := c.2.1 p + m) (r2 := r2) hCN.j h2 hpe h8
  rw [← hM1] at hcI
  refine act_fin (c2 := upP c none p (c.2.1 p + m) r2) (a := (p, c.2.1 p, c.2.2 p, false, none)) (N := N2) (M1 := M1) h ?_ hN2 hcI und_up ⟨hp12, (h.1.r hp12).2, ?_, (fun z => by cases z), fun g z => by cases z⟩ (Nat.le_refl e) hown.1 hown.2 ?_ (fun j hj hne => ?_) ?_ ?_ (fun a b z1 z2 => ?_) ?_ ?_ (fun q hq => ?_) (fun q hq => ?_)
  · rw [hM1]; exact hN.1.hi.trans (chg_hi hp12 hx)
  · show (if (none : Option Nat) = some p then false else c.1 p) = true
    rw [if_neg (by simp)]; exact hl
  · rw [hM1]; exact chg_act hp12 hx hrp.1
  · rw [hM1]
    obtain ⟨y1, y2, y3⟩ := chg_old (N := N) (kp := kp) (p := p) (l := c.2.1 p) (l2 := c.2.1 p + m) (r := c.2.2 p) (r2 := r2) hp12 hx hj hne
    obtain ⟨w1, w2, w3⟩ := hN.1.act hj
    exact ⟨y1.trans w1, y2.trans w2, y3.trans w3⟩
  · rw [hM1, chg_o N (by omega) (by omega) (by omega) (by omega) (by omega) (by omega) (by omega) (by omega), chg_o N (by omega) (by omega) (by omega) (by omega) (by omega) (by omega) (by omega) (by omega)]; exact hcf
  · rw [hM1, chg_o N (by omega) (by omega) (by omega) (by omega) (by omega) (by omega) (by omega) (by omega), chg_o N (by omega) (by omega) (by omega) (by omega) (by omega) (by omega) (by omega) (by omega), chg_o N (by omega) (by omega) (by omega) (by omega) (by omega) (by omega) (by omega) (by omega), chg_o N (by omega) (by omega) (by omega) (by omega) (by omega) (by omega) (by omega) (by omega)]; exact har
  · rw [hM2]; exact cms_o _ _ (by omega) (by omega) (by omega) _
  · have hh : hiE M M1 := by rw [hM1]; exact hN.1.hi.trans (chg_hi hp12 hx)
    rw [hM2, cms_o _ _ (by decide) (by decide) (by decide), mKP_149, if_neg (by decide), if_neg (by decide), hN2 149 1 (by decide) (by decide), hh 149 (by decide)]
    exact h.2.1.1.2.1
  · refine (oOK_eq hown2.2 hown.2 (fun d hd => ?_))
    have n1 : ∀ q, q < c.2.1 p + m → r2 q ≠ d := fun q hq => by have := (hnew q hq).1; omega
    have n2 : ∀ q, q < c.2.1 p → c.2.2 p q ≠ d := fun q hq => by have := (hpk.2.1 p hp12).2 q hq; omega
    rw [o3' d n1, o3 d n1 n2]
  · have hh : hiE M M1 := by rw [hM1]; exact hN.1.hi.trans (chg_hi hp12 hx)
    have ew : M1 (18 + 3 * q) = M (18 + 3 * q) := by rw [hM1, chg_o N (by omega) (by omega) (by omega) (by omega) (by omega) (by omega) (by omega) (by omega)]; exact hN.1.wan hq
    rw [ew, goF_up, hM2, cms_o _ _ (by decide) (by decide) (by decide), cms_o _ _ (by decide) (by decide) (by decide), mKP_o _ _ _ _ (by decide) (by decide), mKP_o _ _ _ _ (by decide) (by decide), hN2 155 q (by omega) (by omega), hN2 158 q (by omega) (by omega), hh 155 (by decide), hh 158 (by decide)]
    exact h.2.1.2.2.2.2.1 q hq
  · have hh : hiE M M1 := by rw [hM1]; exact hN.1.hi.trans (chg_hi hp12 hx)
    have k156 : ∀ b, mKP N2 fa kp 156 b = M 156 b := fun b => by rw [mKP_o _ _ _ _ (by decide) (by decide), hN2 156 b (by omega) (by omega), hh 156 (by decide)]
    have k157 : ∀ b, mKP N2 fa kp 157 b = M 157 b := fun b => by rw [mKP_o _ _ _ _ (by decide) (by decide), hN2 157 b (by omega) (by omega), hh 157 (by decide)]
    obtain ⟨f1, f2⟩ := h.2.1.2.2.2.2.2 q hq
    rw [szF_up hl]
    by_cases hqp : q = p
    · subst hqp
      rw [if_pos rfl, hM2]
      rw [hs] at f1 f2
      refine ⟨cms_156 _ (by rw [k156]; exact f1) m, fun i hi => ?_⟩
      have er : (upP c none q (c.2.1 q + m) r2).2.2 q = r2 := if_pos rfl
      rw [er]
      by_cases hi1 : i < c.2.1 q
      · rw [cms_157o _ _ (by omega), k157, f2 i hi1, hr1 i hi1]
      · rw [show 8 * q + i = 8 * q + (c.2.1 q + (i - c.2.1 q)) by omega, cms_157 _ m (by omega), ← hr2 (i - c.2.1 q) (by omega), show c.2.1 q + (i - c.2.1 q) = i by omega]
    · rw [if_neg hqp, hM2]
      have h8q := (szF_le hpk hq).1
      have er : (upP c none p (c.2.1 p + m) r2).2.2 q = c.2.2 q := if_neg hqp
      rw [er]
      refine ⟨by rw [cms_156o _ hqp, k156]; exact f1, fun i hi => ?_⟩
      rw [cms_157o _ _ (by omega), k157]
      exact f2 i hi
theorem jn_hi {M M1 : g_M} {n e nx kp p l2 fa : Nat} {c : pS} {r2 : Nat → Nat} {v : Int32} {A : Nat → aR} {cs : Nat → pS} {Es : Nat → Nat} (h : Iv M n e nx kp fa c A cs Es) (hp : p < e) (hj : jnP M n nx kp p c.2.1 c.2.2 l2 r2 v M1) : hiE M M1 := by
  have h12 := h.e12
  obtain ⟨-, -, hg⟩ | ⟨-, ⟨-, -, hg⟩ | ⟨-, -, N, hg, -, rfl⟩⟩ := hj
  · exact hg.1.hi
  · exact hg.1.hi
  · exact hg.1.hi.trans (chg_hi (by omega) h.1.a.2.1)
theorem rad_1 {r : Nat → Nat} {l d : Nat} : (∀ i, i < l → rad r l d i = r i) ∧ ∀ i, i < 1 → rad r l d (l + i) = (fun _ => d) i := by
  unfold rad
  refine ⟨fun i hi => if_pos hi, fun i hi => if_neg (by omega)⟩
theorem rad_2 {r : Nat → Nat} {l d d2 : Nat} : (∀ i, i < l → rad (rad r l d) (l + 1) d2 i = r i) ∧ ∀ i, i < 2 → rad (rad r l d) (l + 1) d2 (l + i) = (fun i => if i = 0 then d else d2) i := by
  unfold rad
  refine ⟨fun i hi => by rw [if_pos (by omega), if_pos hi], fun i hi => ?_⟩
  by_cases h0 : i = 0
  · subst h0
    rw [if_pos (by omega), if_neg (by omega)]; rfl
  · rw [if_neg (by omega)]
    show d2 = if i = 0 then d else d2
    rw [if_neg h0]
theorem fre_m {M M1 : g_M} {n e nx kp fa : Nat} {c : pS} {A : Nat → aR} {cs : Nat → pS} {Es : Nat → Nat} (h : Iv M n e nx kp fa c A cs Es) (hh : hiE M M1) : M1 154 = M 6 := (hh 154 (by decide)).trans h.2.1.2.2.1.2.2.2.2
theorem dHas_p {k p : Nat} (hk : k < 2 ^ 30) (hp : p < k) : dHas k (nI p) = true := by
  unfold dHas
  refine decide_eq_true ⟨?_, (nI_ltI (by omega) (by omega)).mpr hp⟩
  rw [i_le, nI_toInt (by omega), show (0 : Int32).toInt = 0 from rfl]; omega
set_option maxHeartbeats 2000000 in
theorem h_join {M M1 : g_M} {L L1 : g_L} {v1 : Int32} {x1 x2 : Int32} {n e nx kp fa : Nat} {c : pS} {A : Nat → aR} {cs : Nat → pS} {Es : Nat → Nat} (h : Iv M n e nx kp fa c A cs Es) (P1 : L = L1 ∧ (((cHas M x1 = false ∨ dHas n x2 = false) ∧ v1 = -1 ∧ gC M M1 n) ∨ ∃ p d, p < e ∧ x1 = nI p ∧ M (18 + 3 * p) 1 = 0 ∧ d < n ∧ x2 = nI d ∧ ((¬ M 6 d = -1 ∧ v1 = -3 ∧ gC M M1 n) ∨ (M 6 d = -1 ∧ jnP M n nx kp p c.2.1 c.2.2 (c.2.1 p + 1) (rad (c.2.2 p) (c.2.1 p) d) v1 M1)))) : hiE M M1 := by
  obtain ⟨-, ⟨-, -, hg⟩ | ⟨p, d, hp, rfl, hg0, hd, rfl, ⟨-, -, hg⟩ | ⟨-, hj⟩⟩⟩ := P1
  · exact hg.1.hi
  · exact hg.1.hi
  · exact jn_hi h hp hj
set_option maxHeartbeats 2000000 in
theorem s_join {M M1 : g_M} {L L1 : g_L} {v1 : Int32} {x1 x2 : Int32} {n e nx kp fa : Nat} {c : pS} {A : Nat → aR} {cs : Nat → pS} {Es : Nat → Nat} (h : Iv M n e nx kp fa c A cs Es) {M2 : g_M} {L2 : g_L} {v2 : Int32} (P1 : L = L1 ∧ (((cHas M x1 = false ∨ dHas n x2 = false) ∧ v1 = -1 ∧ gC M M1 n) ∨ ∃ p d, p < e ∧ x1 = nI p ∧ M (18 + 3 * p) 1 = 0 ∧ d < n ∧ x2 = nI d ∧ ((¬ M 6 d = -1 ∧ v1 = -3 ∧ gC M M1 n) ∨ (M 6 d = -1 ∧ jnP M n nx kp p c.2.1 c.2.2 (c.2.1 p + 1) (rad (c.2.2 p) (c.2.1 p) d) v1 M1)))) (P2 : L1 = L2 ∧ (((mHas M1 e x1 = false ∨ dHas n x2 = false) ∧ v2 = -1 ∧ frM M1 M2) ∨ ∃ p d, p < e ∧ x1 = nI p ∧ M1 158 p = 0 ∧ d < n ∧ x2 = nI d ∧ ((¬ M1 154 d = -1 ∧ v2 = -3 ∧ frM M1 M2) ∨ (M1 154 d = -1 ∧ ((msnd M1 (rad (c.2.2 p) ((szF c) p) d) ((szF c) p + 1) = false ∧ v2 = -3 ∧ frM M1 M2) ∨ (msnd M1 (rad (c.2.2 p) ((szF c) p) d) ((szF c) p + 1) = true ∧ mjnP M1 fa kp p ((szF c) p) 1 (fun _ => d) v2 M2)))))) : v1 = v2 ∧ IvX M2 := by
  have hh := h_join h P1
  have h12 := h.e12
  have h60 := h.1.n.2
  obtain ⟨-, P1⟩ := P1
  obtain ⟨-, P2⟩ := P2
  rw [h.has hh, fre_m h hh] at P2
  rcases P1 with ⟨hc, rfl, hg⟩ | ⟨p, d, hp, rfl, hg0, hd, rfl, P1⟩
  · rcases P2 with ⟨-, rfl, hf⟩ | ⟨p, d, hp, rfl, hg0, hd, rfl, -⟩
    · exact ⟨rfl, h.x hg hf⟩
    · rw [h.p0 hh hp] at hg0
      rw [cHas_p h.1.e.1 h12 hp hg0, dHas_p (by omega) hd] at hc
      simp at hc
  rcases P2 with ⟨hc2, -⟩ | ⟨p2, d2, hp2, he, -, hd2, he2, P2⟩
  · rw [cHas_p h.1.e.1 h12 hp hg0, dHas_p (by omega) hd] at hc2
    simp at hc2
  have hpp := nIe hp hp2 (by omega) he
  have hdd := nIe hd hd2 h60 he2
  subst hpp
  subst hdd
  have hs := h.sz hp hg0
  rcases P1 with ⟨h1, rfl, hg⟩ | ⟨h1, P1⟩
  · rcases P2 with ⟨-, rfl, hf⟩ | ⟨h2, -⟩
    · exact ⟨rfl, h.x hg hf⟩
    · exact absurd h2 h1
  rcases P2 with ⟨h2, -⟩ | ⟨-, P2⟩
  · exact absurd h1 h2
  rw [h.eS hh, hs] at P2
  rcases P1 with ⟨h3, rfl, hg⟩ | ⟨h3, P1⟩
  · rcases P2 with ⟨-, rfl, hf⟩ | ⟨h2, -⟩
    · exact ⟨rfl, h.x hg hf⟩
    · rw [h3] at h2; cases h2
  rcases P2 with ⟨h2, -⟩ | ⟨-, P2⟩
  · rw [h3] at h2; cases h2
  rcases P1 with ⟨h8, rfl, hg⟩ | ⟨h8, rfl, N, hg, hr, hM1⟩
  · rcases P2 with ⟨-, rfl, hf⟩ | ⟨h9, -⟩
    · exact ⟨rfl, h.x hg hf⟩
    · omega
  rcases P2 with ⟨h9, -⟩ | ⟨-, rfl, N2, hf, hM2⟩
  · omega
  refine ⟨rfl, tie_len h hp hg0 hg hr h8 rad_1.1 rad_1.2 (fun i _ => ⟨hd, h1⟩) hM1 hf (by rw [hs]; exact hM2)⟩
set_option maxHeartbeats 2000000 in
theorem h_force {M M1 : g_M} {L L1 : g_L} {v1 : Int32} {x1 x2 : Int32} {n e nx kp fa : Nat} {c : pS} {A : Nat → aR} {cs : Nat → pS} {Es : Nat → Nat} (h : Iv M n e nx kp fa c A cs Es) (P1 : L = L1 ∧ (((cHas M x1 = false ∨ dHas n x2 = false) ∧ v1 = -1 ∧ gC M M1 n) ∨ ∃ p d, p < e ∧ x1 = nI p ∧ M (18 + 3 * p) 1 = 0 ∧ d < n ∧ x2 = nI d ∧ ((¬ M 6 d = -1 ∧ v1 = -3 ∧ gC M M1 n) ∨ (M 6 d = -1 ∧ ((8 < c.2.1 p + 1 ∧ v1 = -4 ∧ gC M M1 n) ∨ (c.2.1 p + 1 ≤ 8 ∧ v1 = nI (c.2.1 p + 1) ∧ ∃ N, gC M N n ∧ rok N 147 (c.2.1 p + 1) (rad (c.2.2 p) (c.2.1 p) d) ∧ M1 = chg N p nx kp (c.2.1 p) (c.2.1 p + 1) (c.2.2 p) (rad (c.2.2 p) (c.2.1 p) d))))))) : hiE M M1 := by
  have h12 := h.e12
  obtain ⟨-, ⟨-, -, hg⟩ | ⟨p, d, hp, rfl, hg0, hd, rfl, ⟨-, -, hg⟩ | ⟨-, ⟨-, -, hg⟩ | ⟨-, -, N, hg, -, rfl⟩⟩⟩⟩ := P1
  · exact hg.1.hi
  · exact hg.1.hi
  · exact hg.1.hi
  · exact hg.1.hi.trans (chg_hi (by omega) h.1.a.2.1)
set_option maxHeartbeats 2000000 in
theorem s_force {M M1 : g_M} {L L1 : g_L} {v1 : Int32} {x1 x2 : Int32} {n e nx kp fa : Nat} {c : pS} {A : Nat → aR} {cs : Nat → pS} {Es : Nat → Nat} (h : Iv M n e nx kp fa c A cs Es) {M2 : g_M} {L2 : g_L} {v2 : Int32} (P1 : L = L1 ∧ (((cHas M x1 = false ∨ dHas n x2 = false) ∧ v1 = -1 ∧ gC M M1 n) ∨ ∃ p d, p < e ∧ x1 = nI p ∧ M (18 + 3 * p) 1 = 0 ∧ d < n ∧ x2 = nI d ∧ ((¬ M 6 d = -1 ∧ v1 = -3 ∧ gC M M1 n) ∨ (M 6 d = -1 ∧ ((8 < c.2.1 p + 1 ∧ v1 = -4 ∧ gC M M1 n) ∨ (c.2.1 p + 1 ≤ 8 ∧ v1 = nI (c.2.1 p + 1) ∧ ∃ N, gC M N n ∧ rok N 147 (c.2.1 p + 1) (rad (c.2.2 p) (c.2.1 p) d) ∧ M1 = chg N p nx kp (c.2.1 p) (c.2.1 p + 1) (c.2.2 p) (rad (c.2.2 p) (c.2.1 p) d))))))) (P2 : L1 = L2 ∧ (((mHas M1 e x1 = false ∨ dHas n x2 = false) ∧ v2 = -1 ∧ frM M1 M2) ∨ ∃ p d, p < e ∧ x1 = nI p ∧ M1 158 p = 0 ∧ d < n ∧ x2 = nI d ∧ ((¬ M1 154 d = -1 ∧ v2 = -3 ∧ frM M1 M2) ∨ (M1 154 d = -1 ∧ mjnP M1 fa kp p ((szF c) p) 1 (fun _ => d) v2 M2)))) : v1 = v2 ∧ IvX M2 := by
  have hh := h_force h P1
  have h12 := h.e12
  have h60 := h.1.n.2
  obtain ⟨-, P1⟩ := P1
  obtain ⟨-, P2⟩ := P2
  rw [h.has hh, fre_m h hh] at P2
  rcases P1 with ⟨hc, rfl, hg⟩ | ⟨p, d, hp, rfl, hg0, hd, rfl, P1⟩
  · rcases P2 with ⟨-, rfl, hf⟩ | ⟨p, d, hp, rfl, hg0, hd, rfl, -⟩
    · exact ⟨rfl, h.x hg hf⟩
    · rw [h.p0 hh hp] at hg0
      rw [cHas_p h.1.e.1 h12 hp hg0, dHas_p (by omega) hd] at hc
      simp at hc
  rcases P2 with ⟨hc2, -⟩ | ⟨p2, d2, hp2, he, -, hd2, he2, P2⟩
  · rw [cHas_p h.1.e.1 h12 hp hg0, dHas_p (by omega) hd] at hc2
    simp at hc2
  have hpp := nIe hp hp2 (by omega) he
  have hdd := nIe hd hd2 h60 he2
  subst hpp
  subst hdd
  have hs := h.sz hp hg0
  rcases P1 with ⟨h1, rfl, hg⟩ | ⟨h1, P1⟩
  · rcases P2 with ⟨-, rfl, hf⟩ | ⟨h2, -⟩
    · exact ⟨rfl, h.x hg hf⟩
    · exact absurd h2 h1
  rcases P2 with ⟨h2, -⟩ | ⟨-, P2⟩
  · exact absurd h1 h2
  rw [hs] at P2
  rcases P1 with ⟨h8, rfl, hg⟩ | ⟨h8, rfl, N, hg, hr, hM1⟩
  · rcases P2 with ⟨-, rfl, hf⟩ | ⟨h9, -⟩
    · exact ⟨rfl, h.x hg hf⟩
    · omega
  rcases P2 with ⟨h9, -⟩ | ⟨-, rfl, N2, hf, hM2⟩
  · omega
  refine ⟨rfl, tie_len h hp hg0 hg hr h8 rad_1.1 rad_1.2 (fun i _ => ⟨hd, h1⟩) hM1 hf (by rw [hs]; exact hM2)⟩
theorem rowl_is {P : Nat → Nat → Bool} {a : Nat} : ∀ {b : Nat}, ∀ e ∈ rowl P a b, P e.1 e.2 = true
  | 0, e, h => by simp [rowl] at h
  | b + 1, e, h => by
    rw [rowl, List.mem_append] at h
    rcases h with h | h
    · exact rowl_is e h
    · split at h
      · rename_i hp
        have : e = (a, b) := by simpa using h
        rw [this]; exact hp
      · simp at h
theorem bl_is {P : Nat → Nat → Bool} {n : Nat} : ∀ {a : Nat}, a ≤ n → ∀ e ∈ bl P n a, P e.1 e.2 = true
  | 0, _, e, h => by simp [bl] at h
  | a + 1, ha, e, h => by
    rw [bl, List.mem_append] at h
    rcases h with h | h
    · exact bl_is (by omega) e h
    · exact rowl_is e h
theorem bit_free {M : g_M} {n : Nat} {x : Int32} {e0 : Nat × Nat} (h : getP (bl (cB M) n n) x = some e0) : (e0.1 < n ∧ e0.2 < n) ∧ M 6 e0.1 = -1 ∧ M 6 e0.2 = -1 := by
  unfold getP at h
  split at h
  · have hm := List.mem_of_getElem? h
    refine ⟨bl_mem (Nat.le_refl n) e0 hm, ?_⟩
    have hb := bl_is (Nat.le_refl n) e0 hm
    have hz := of_decide_eq_true hb
    exact ⟨hz.2.1, hz.2.2.1⟩
  · cases h
set_option maxHeartbeats 2000000 in
theorem h_joinBit {M M1 : g_M} {L L1 : g_L} {v1 : Int32} {x1 x2 : Int32} {n e nx kp fa : Nat} {c : pS} {A : Nat → aR} {cs : Nat → pS} {Es : Nat → Nat} (h : Iv M n e nx kp fa c A cs Es) (P1 : L = L1 ∧ (((cHas M x1 = false ∨ getP (bl (cB M) n n) x2 = none) ∧ v1 = -1 ∧ gC M M1 n) ∨ ∃ p e0, p < e ∧ x1 = nI p ∧ M (18 + 3 * p) 1 = 0 ∧ getP (bl (cB M) n n) x2 = some e0 ∧ jnP M n nx kp p c.2.1 c.2.2 (c.2.1 p + 1 + 1) (rad (rad (c.2.2 p) (c.2.1 p) e0.1) (c.2.1 p + 1) e0.2) v1 M1)) : hiE M M1 := by
  obtain ⟨-, ⟨-, -, hg⟩ | ⟨p, e0, hp, rfl, hg0, he0, hj⟩⟩ := P1
  · exact hg.1.hi
  · exact jn_hi h hp hj
set_option maxHeartbeats 2000000 in
theorem s_joinBit {M M1 : g_M} {L L1 : g_L} {v1 : Int32} {x1 x2 : Int32} {n e nx kp fa : Nat} {c : pS} {A : Nat → aR} {cs : Nat → pS} {Es : Nat → Nat} (h : Iv M n e nx kp fa c A cs Es) {M2 : g_M} {L2 : g_L} {v2 : Int32} (P1 : L = L1 ∧ (((cHas M x1 = false ∨ getP (bl (cB M) n n) x2 = none) ∧ v1 = -1 ∧ gC M M1 n) ∨ ∃ p e0, p < e ∧ x1 = nI p ∧ M (18 + 3 * p) 1 = 0 ∧ getP (bl (cB M) n n) x2 = some e0 ∧ jnP M n nx kp p c.2.1 c.2.2 (c.2.1 p + 1 + 1) (rad (rad (c.2.2 p) (c.2.1 p) e0.1) (c.2.1 p + 1) e0.2) v1 M1)) (P2 : L1 = L2 ∧ (((mHas M1 e x1 = false ∨ getP (bl (mB M1) n n) x2 = none) ∧ v2 = -1 ∧ frM M1 M2) ∨ ∃ p e0, p < e ∧ x1 = nI p ∧ M1 158 p = 0 ∧ getP (bl (mB M1) n n) x2 = some e0 ∧ ((msnd M1 (rad (rad (c.2.2 p) ((szF c) p) e0.1) ((szF c) p + 1) e0.2) ((szF c) p + 1 + 1) = false ∧ v2 = -3 ∧ frM M1 M2) ∨ (msnd M1 (rad (rad (c.2.2 p) ((szF c) p) e0.1) ((szF c) p + 1) e0.2) ((szF c) p + 1 + 1) = true ∧ mjnP M1 fa kp p ((szF c) p) 2 (fun i => if i = 0 then e0.1 else e0.2) v2 M2)))) : v1 = v2 ∧ IvX M2 := by
  have hh := h_joinBit h P1
  have h12 := h.e12
  obtain ⟨-, P1⟩ := P1
  obtain ⟨-, P2⟩ := P2
  rw [h.has hh, h.eB hh, h.eS hh] at P2
  rcases P1 with ⟨hc, rfl, hg⟩ | ⟨p, e0, hp, rfl, hg0, he0, P1⟩
  · rcases P2 with ⟨-, rfl, hf⟩ | ⟨p, e0, hp, rfl, hg0, he0, -⟩
    · exact ⟨rfl, h.x hg hf⟩
    · rw [h.p0 hh hp] at hg0
      rw [cHas_p h.1.e.1 h12 hp hg0, he0] at hc
      simp at hc
  rcases P2 with ⟨hc2, -⟩ | ⟨p2, e1, hp2, he, -, he1, P2⟩
  · rw [cHas_p h.1.e.1 h12 hp hg0, he0] at hc2
    simp at hc2
  have hpp := nIe hp hp2 (by omega) he
  subst hpp
  have hee : e0 = e1 := Option.some.inj (he0.symm.trans he1)
  subst hee
  have hs := h.sz hp hg0
  obtain ⟨⟨b1, b2⟩, b3, b4⟩ := bit_free he0
  rw [hs] at P2
  rcases P1 with ⟨h3, rfl, hg⟩ | ⟨h3, P1⟩
  · rcases P2 with ⟨-, rfl, hf⟩ | ⟨h2, -⟩
    · exact ⟨rfl, h.x hg hf⟩
    · rw [h3] at h2; cases h2
  rcases P2 with ⟨h2, -⟩ | ⟨-, P2⟩
  · rw [h3] at h2; cases h2
  rcases P1 with ⟨h8, rfl, hg⟩ | ⟨h8, rfl, N, hg, hr, hM1⟩
  · rcases P2 with ⟨-, rfl, hf⟩ | ⟨h9, -⟩
    · exact ⟨rfl, h.x hg hf⟩
    · omega
  rcases P2 with ⟨h9, -⟩ | ⟨-, rfl, N2, hf, hM2⟩
  · omega
  refine ⟨rfl, tie_len (m := 2) h hp hg0 hg hr h8 rad_2.1 rad_2.2 (fun i _ => ?_) hM1 hf (by rw [hs]; exact hM2)⟩
  show (if i = 0 then e0.1 else e0.2) < n ∧ M 6 (if i = 0 then e0.1 else e0.2) = -1
  split
  · exact ⟨b1, b3⟩
  · exact ⟨b2, b4⟩
