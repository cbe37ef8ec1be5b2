/-! ===== what an act does to either half ===== -/
theorem chg_ap (N : g_M) {p nx kp l l2 : Nat} {r r2 : Nat → Nat} {a : Nat} (b : Nat) (h6 : a ≠ 6) : chg N p nx kp l l2 r r2 a b = if a = 9 ∧ b = 10 then 0 else if a = 19 + 3 * p ∧ b = 1 then nI l2 else if a = 19 + 3 * p + 1 ∧ b < l2 then N 148 b else if a = 54 ∧ b = 2 then nI (min (kp + 1) 30) else if a = 54 ∧ b = 1 then nI ((nx + 1) % 30) else if a = 57 + 3 * nx ∧ b = 1 then nI l else if a = 57 + 3 * nx + 1 ∧ b < l then N (20 + 3 * p) b else if a = 56 + 3 * nx ∧ b = 2 then -1 else if a = 56 + 3 * nx ∧ b = 1 then 0 else if a = 56 + 3 * nx ∧ b = 0 then nI p else N a b := by
  unfold chg rpl
  rw [g_st_ap, pa_out _ _ _ _ h6]
  unfold g_sr
  rw [pa_out _ _ _ _ h6]
  unfold actK actF
  rw [g_st_ap, g_st_ap]
  unfold g_sr
  rw [g_st_ap, g_st_ap, g_st_ap]
theorem chg_own (N : g_M) {p nx kp l l2 : Nat} {r r2 : Nat → Nat} (hp : p < 12) (hx : nx < 30) : (∀ d, (∃ q, q < l2 ∧ r2 q = d) → chg N p nx kp l l2 r r2 6 d = nI p) ∧ (∀ d, (∀ q, q < l2 → r2 q ≠ d) → (∃ q, q < l ∧ r q = d) → chg N p nx kp l l2 r r2 6 d = -1) ∧ ∀ d, (∀ q, q < l2 → r2 q ≠ d) → (∀ q, q < l → r q ≠ d) → chg N p nx kp l l2 r r2 6 d = N 6 d := by
  have e0 : ∀ d, chg N p nx kp l l2 r r2 6 d = pa (g_sr (pa (actK N nx kp (nI p) l (N (20 + 3 * p))) r (-1) l) (19 + 3 * p) l2 (N 148)) r2 (nI p) l2 6 d := fun d => by
    unfold chg rpl
    rw [g_st_ap, if_neg (by omega)]
  refine ⟨fun d hd => ?_, fun d hd h2 => ?_, fun d hd h2 => ?_⟩
  · rw [e0]; exact pa_in _ _ _ _ hd
  · rw [e0, pa_no _ _ _ _ hd, g_sr_out _ _ _ _ _ (by omega) (by omega)]
    exact pa_in _ _ _ _ h2
  · rw [e0, pa_no _ _ _ _ hd, g_sr_out _ _ _ _ _ (by omega) (by omega), pa_no _ _ _ _ h2, actK_o N (by omega) (by omega) (by omega) (by omega)]
/-- what the class's half has, but for the pairs that are known -/
def cJ (M : g_M) (n e nx kp : Nat) (ln : Nat → Nat) (rf : Nat → Nat → Nat) : Prop := M 1 5 = nI n ∧ n ≤ 60 ∧ M 16 2 = nI e ∧ e ≤ 12 ∧ (∀ p, p < 12 → rok M (19 + 3 * p) (ln p) (rf p) ∧ ln p ≤ 8) ∧ (∀ p, e ≤ p → p < 12 → ln p = 0) ∧ 1 ≤ (M 7 1).toInt ∧ acO M nx kp
theorem cI.j {M : g_M} {n e nx kp : Nat} {ln : Nat → Nat} {rf : Nat → Nat → Nat} (h : cI M n e nx kp ln rf) : cJ M n e nx kp ln rf := ⟨h.n.1, h.n.2, h.e.1, h.e.2, fun _ hp => h.r hp, fun _ h1 h2 => h.z h1 h2, h.g, h.a⟩
theorem chg_cI {N : g_M} {n e nx kp p l2 : Nat} {ln : Nat → Nat} {rf : Nat → Nat → Nat} {r2 : Nat → Nat} (h : cJ N n e nx kp ln rf) (h2 : rok N 147 l2 r2) (hp : p < e) (h8 : l2 ≤ 8) : cI (chg N p nx kp (ln p) l2 (rf p) r2) n e ((nx + 1) % 30) (min (kp + 1) 30) (fun q => if q = p then l2 else ln q) (fun q => if q = p then r2 else rf q) := by
  obtain ⟨a1, a2, a3, a4, a5, a6, a7, a8⟩ := h
  have hx := a8.2.1
  have hk := a8.2.2.2
  have hp12 : p < 12 := by omega
  refine ⟨?_, a2, ?_, a4, fun q hq => ?_, fun q h1 h3 => ?_, ?_, ⟨?_, by omega, ?_, by omega⟩, Or.inl ?_⟩
  · rw [chg_o N (by omega) (by omega) (by omega) (by omega) (by omega) (by omega) (by omega) (by omega)]; exact a1
  · rw [chg_o N (by omega) (by omega) (by omega) (by omega) (by omega) (by omega) (by omega) (by omega)]; exact a3
  · by_cases hqp : q = p
    · subst hqp
      simp only [if_true]
      refine ⟨⟨rw_w hq, ?_, by omega, fun i hi => ?_⟩, h8⟩
      · rw [chg_ap N _ (by omega), if_neg (by omega), if_pos ⟨rfl, rfl⟩]
      · rw [chg_ap N _ (by omega), if_neg (by omega), if_neg (by omega), if_pos ⟨rfl, hi⟩]
        exact h2.2.2.2 i hi
    · simp only [if_neg hqp]
      refine ⟨(a5 q hq).1.cg ?_ ?_, (a5 q hq).2⟩
      · exact chg_o N (by omega) (by omega) (by omega) (by omega) (by omega) (by omega) (by omega) (by omega)
      · exact chg_o N (by omega) (by omega) (by omega) (by omega) (by omega) (by omega) (by omega) (by omega)
  · show (if q = p then l2 else ln q) = 0
    rw [if_neg (by omega)]; exact a6 q h1 h3
  · rw [chg_o N (by omega) (by omega) (by omega) (by omega) (by omega) (by omega) (by omega) (by omega)]; exact a7
  · rw [chg_ap N _ (by decide), if_neg (by omega), if_neg (by omega), if_neg (by omega), if_neg (by omega), if_pos ⟨rfl, rfl⟩]
  · rw [chg_ap N _ (by decide), if_neg (by omega), if_neg (by omega), if_neg (by omega), if_pos ⟨rfl, rfl⟩]
  · rw [chg_ap N _ (by decide), if_pos ⟨rfl, rfl⟩]
theorem chg_act {N : g_M} {nx kp p l l2 : Nat} {r r2 : Nat → Nat} (hp12 : p < 12) (hx : nx < 30) (h1 : rok N (19 + 3 * p) l r) : acT (chg N p nx kp l l2 r r2) nx (p, l, r, false, none) := by
  refine ⟨?_, ?_, ⟨rw_a hx, ?_, h1.2.2.1, fun i hi => ⟨?_, (h1.2.2.2 i hi).2⟩⟩, Or.inl ⟨?_, rfl⟩⟩
  · rw [chg_ap N _ (by omega), if_neg (by omega), if_neg (by omega), if_neg (by omega), if_neg (by omega), if_neg (by omega), if_neg (by omega), if_neg (by omega), if_neg (by omega), if_neg (by omega), if_pos ⟨rfl, rfl⟩]
  · rw [chg_ap N _ (by omega), if_neg (by omega), if_neg (by omega), if_neg (by omega), if_neg (by omega), if_neg (by omega), if_neg (by omega), if_neg (by omega), if_neg (by omega), if_pos ⟨rfl, rfl⟩]; rfl
  · rw [chg_ap N _ (by omega), if_neg (by omega), if_neg (by omega), if_neg (by omega), if_neg (by omega), if_neg (by omega), if_pos ⟨rfl, rfl⟩]
  · rw [chg_ap N _ (by omega), if_neg (by omega), if_neg (by omega), if_neg (by omega), if_neg (by omega), if_neg (by omega), if_neg (by omega), if_pos ⟨rfl, hi⟩, show 20 + 3 * p = 19 + 3 * p + 1 by omega]
    exact (h1.2.2.2 i hi).1
  · rw [chg_ap N _ (by omega), if_neg (by omega), if_neg (by omega), if_neg (by omega), if_neg (by omega), if_neg (by omega), if_neg (by omega), if_neg (by omega), if_pos ⟨rfl, rfl⟩]
theorem chg_old {N : g_M} {nx kp p l l2 j : Nat} {r r2 : Nat → Nat} (hp12 : p < 12) (hx : nx < 30) (hj : j < 30) (hne : j ≠ nx) : chg N p nx kp l l2 r r2 (56 + 3 * j) = N (56 + 3 * j) ∧ chg N p nx kp l l2 r r2 (57 + 3 * j) = N (57 + 3 * j) ∧ chg N p nx kp l l2 r r2 (57 + 3 * j + 1) = N (57 + 3 * j + 1) :=
  ⟨chg_o N (by omega) (by omega) (by omega) (by omega) (by omega) (by omega) (by omega) (by omega), chg_o N (by omega) (by omega) (by omega) (by omega) (by omega) (by omega) (by omega) (by omega), chg_o N (by omega) (by omega) (by omega) (by omega) (by omega) (by omega) (by omega) (by omega)⟩
theorem chg_hi {N : g_M} {nx kp p l l2 : Nat} {r r2 : Nat → Nat} (hp12 : p < 12) (hx : nx < 30) : hiE N (chg N p nx kp l l2 r r2) := fun a ha => chg_o N (by omega) (by omega) (by omega) (by omega) (by omega) (by omega) (by omega) (by omega)
theorem hiE.trans {M N K : g_M} (h : hiE M N) (h2 : hiE N K) : hiE M K := fun a ha => (h2 a ha).trans (h a ha)
/-! the reference's half -/
theorem mKP_149 (N : g_M) (fa ac b : Nat) : mKP N fa ac 149 b = if b = 26 then nI (min (ac + 1) 30) else if b = 27 then nI (kfa fa ac) else N 149 b := by
  unfold mKP kpM
  rw [kq_o _ _ _ _ _ (by decide), g_st_ap, if_neg (by omega), g_st_ap, g_st_ap]
  by_cases h1 : b = 26
  · subst h1; simp
  · by_cases h2 : b = 27
    · subst h2; simp
    · simp [h1, h2]
theorem mKP_sn {N : g_M} {n e fa ac : Nat} {c : pS} (hM : mI N n e fa ac (szF c) c.2.2 (goF c e)) : snT (mKP N fa ac) ((fa + ac) % 30) e c := by
  have h12 := hM.e12
  unfold mKP kpM
  refine ⟨?_, h12, fun p hp => ⟨?_, ?_, fun i hi => ?_⟩⟩
  · rw [kq_o _ _ _ _ _ (by decide), g_st_ap, if_pos ⟨rfl, rfl⟩]; exact hM.he
  · unfold kq
    rw [if_pos ⟨rfl, by omega, by omega⟩, Nat.add_sub_cancel_left, g_st_ap, if_neg (by omega), g_st_ap, if_neg (by omega), g_st_ap, if_neg (by omega)]
    exact (hM.r (by omega)).1
  · unfold kq
    rw [if_neg (by omega), if_pos ⟨rfl, by omega, by omega⟩, Nat.add_sub_cancel_left, g_st_ap, if_neg (by omega), g_st_ap, if_neg (by omega), g_st_ap, if_neg (by omega), hM.hgo (by omega), goF, decide_eq_true hp, Bool.true_and]
  · have h8 := (hM.r (p := p) (by omega)).2.1
    unfold kq
    rw [if_neg (by omega), if_neg (by omega), if_pos ⟨rfl, by omega, by omega⟩, show (12 * ((fa + ac) % 30) + p) * 8 + i - 96 * ((fa + ac) % 30) = 8 * p + i by omega, g_st_ap, if_neg (by omega), g_st_ap, if_neg (by omega), g_st_ap, if_neg (by omega)]
    exact ((hM.r (p := p) (by omega)).2.2 i hi).1
theorem mKP_old (N : g_M) {fa ac k : Nat} (hne : k ≠ (fa + ac) % 30) : mKP N fa ac 164 k = N 164 k ∧ ∀ p, p < 12 → mKP N fa ac 165 (12 * k + p) = N 165 (12 * k + p) ∧ mKP N fa ac 167 (12 * k + p) = N 167 (12 * k + p) ∧ ∀ i, i < 8 → mKP N fa ac 166 ((12 * k + p) * 8 + i) = N 166 ((12 * k + p) * 8 + i) := by
  unfold mKP kpM
  refine ⟨?_, fun p hp => ⟨?_, ?_, fun i hi => ?_⟩⟩
  · rw [kq_o _ _ _ _ _ (by decide), g_st_ap, if_neg (by omega), g_st_ap, if_neg (by omega), g_st_ap, if_neg (by omega)]
  · unfold kq
    rw [if_neg (by omega), if_neg (by omega), if_neg (by omega), g_st_ap, if_neg (by omega), g_st_ap, if_neg (by omega), g_st_ap, if_neg (by omega)]
  · unfold kq
    rw [if_neg (by omega), if_neg (by omega), if_neg (by omega), g_st_ap, if_neg (by omega), g_st_ap, if_neg (by omega), g_st_ap, if_neg (by omega)]
  · unfold kq
    rw [if_neg (by omega), if_neg (by omega), if_neg (by omega), g_st_ap, if_neg (by omega), g_st_ap, if_neg (by omega), g_st_ap, if_neg (by omega)]
/-- both halves together -/
theorem act_fin {M M1 N M2 : g_M} {n e nx kp fa e2 : Nat} {c c2 : pS} {a : aR} {A : Nat → aR} {cs : Nat → pS} {Es : Nat → Nat} (h : Iv M n e nx kp fa c A cs Es) (hh : hiE M M1) (hN : frM M1 N)
  (hC : cI M1 n e2 ((nx + 1) % 30) (min (kp + 1) 30) c2.2.1 c2.2.2) (hund : c = und c2 a) (haok : aOK c2 a) (he : e ≤ e2) (hp2 : pOK c2 n e2) (ho2 : oOK (M1 6) c2 n) (hact : acT M1 nx a)
  (old1 : ∀ j, j < 30 → j ≠ nx → M1 (56 + 3 * j) = M (56 + 3 * j) ∧ M1 (57 + 3 * j) = M (57 + 3 * j) ∧ M1 (57 + 3 * j + 1) = M (57 + 3 * j + 1))
  (hcf : M1 8 1 = M 8 1 ∧ M1 7 1 = M 7 1 ∧ M1 7 2 = M 7 2) (har : M1 2 = M 2 ∧ M1 3 = M 3 ∧ M1 4 = M 4 ∧ M1 5 = M 5)
  (hx : ∀ a b, ¬ (154 ≤ a ∧ a ≤ 158) → ¬ (a = 149 ∧ b = 1) → M2 a b = mKP N fa kp a b) (k1 : M2 149 1 = nI e2) (kown : M2 154 = M1 6)
  (knm : ∀ p, p < 12 → M2 155 p = M1 (18 + 3 * p) 0 ∧ M1 (18 + 3 * p) 1 = bI (goF c2 e2 p) ∧ M2 158 p = bI (goF c2 e2 p))
  (krw : ∀ p, p < 12 → M2 156 p = nI (szF c2 p) ∧ ∀ i, i < szF c2 p → M2 157 (8 * p + i) = nI (c2.2.2 p i)) : IvX M2 := by
  have hm := ((h.m).hi hh).fr hN
  obtain ⟨hC0, ⟨⟨a1, a2, a3, a4, a5⟩, ⟨b1, b2, b3⟩, ⟨c1, c2', c3, c4, c5⟩, d1, e1, f1⟩, hp, ho, h0, hhs⟩ := h
  have hk30 := hC0.a.2.2.2
  have lo : loE M1 M2 := fun a ha => by
    funext b
    rw [hx a b (by omega) (by omega), mKP_o _ _ _ _ (by omega) (by omega)]
    exact congrFun (hN.lo a ha) b
  have hN149 : ∀ b, ¬ (b = 15 ∨ b = 16 ∨ b = 17 ∨ b = 22 ∨ b = 25) → N 149 b = M 149 b := fun b z => by rw [hN 149 b (by omega) (by omega), hh 149 (by decide)]
  have hN1 : ∀ a, 149 < a → ¬ (159 ≤ a ∧ a ≤ 163) → N a = M a := fun a z1 z2 => (hN.o a (by omega) z2).trans (hh a (by omega))
  have q149 : ∀ b, b ≠ 1 → b ≠ 26 → b ≠ 27 → ¬ (b = 15 ∨ b = 16 ∨ b = 17 ∨ b = 22 ∨ b = 25) → M2 149 b = M 149 b := fun b z1 z2 z3 z4 => by rw [hx 149 b (by decide) (by omega), mKP_149, if_neg z2, if_neg z3, hN149 b z4]
  have q15 : ∀ a, 150 ≤ a → a ≤ 153 → M2 a = M a := fun a z1 z2 => by
    funext b
    rw [hx a b (by omega) (by omega), mKP_o _ _ _ _ (by omega) (by omega), hN1 a (by omega) (by omega)]
  have kold : ∀ k, k < 30 → k ≠ (fa + kp) % 30 → M2 164 k = M 164 k ∧ ∀ p, p < 12 → M2 165 (12 * k + p) = M 165 (12 * k + p) ∧ M2 167 (12 * k + p) = M 167 (12 * k + p) ∧ ∀ i, i < 8 → M2 166 ((12 * k + p) * 8 + i) = M 166 ((12 * k + p) * 8 + i) := fun k z1 z2 => by
    obtain ⟨y1, y2⟩ := mKP_old N z2
    refine ⟨by rw [hx 164 k (by decide) (by omega), y1, hN1 164 (by decide) (by decide)], fun p z3 => ?_⟩
    obtain ⟨u1, u2, u3⟩ := y2 p z3
    exact ⟨by rw [hx 165 _ (by decide) (by omega), u1, hN1 165 (by decide) (by decide)], by rw [hx 167 _ (by decide) (by omega), u2, hN1 167 (by decide) (by decide)], fun i hi => by rw [hx 166 _ (by decide) (by omega), u3 i hi, hN1 166 (by decide) (by decide)]⟩
  have ksn : snT M2 ((fa + kp) % 30) e c := by
    have y := mKP_sn hm
    refine ⟨by rw [hx 164 _ (by decide) (by omega)]; exact y.1, y.2.1, fun p z => ?_⟩
    obtain ⟨u1, u2, u3⟩ := y.2.2 p z
    exact ⟨by rw [hx 165 _ (by decide) (by omega)]; exact u1, by rw [hx 167 _ (by decide) (by omega)]; exact u2, fun i hi => by rw [hx 166 _ (by decide) (by omega)]; exact u3 i hi⟩
  have hact2 : acT M2 nx a := by
    have hx30 := hC0.a.2.1
    exact hact.mv (lo _ (by omega)) (lo _ (by omega)) (lo _ (by omega))
  refine ⟨n, e2, (nx + 1) % 30, min (kp + 1) 30, kfa fa kp, c2, shf a A, shf c2 cs, shf e Es, cI_lo hC lo, ⟨⟨?_, k1, ?_, ?_, ?_⟩, ⟨?_, ?_, ?_⟩, ⟨?_, ?_, ?_, ?_, ?_⟩, ?_, fun p hp => ?_, krw⟩, hp2, ?_, rfl, hst_act hhs h0 hC0.a.2.1 hk30 a5 hund haok hp he hact2 ksn (fun j z1 z2 => ?_) kold⟩
  · rw [q149 0 (by decide) (by decide) (by decide) (by decide)]; exact a1
  · rw [hx 149 26 (by decide) (by decide), mKP_149, if_pos rfl]
  · rw [hx 149 27 (by decide) (by decide), mKP_149, if_neg (by decide), if_pos rfl]
  · unfold kfa; split <;> omega
  · rw [q149 2 (by decide) (by decide) (by decide) (by decide), lo 8 (by decide), hcf.1]; exact b1
  · rw [q149 3 (by decide) (by decide) (by decide) (by decide), lo 7 (by decide), hcf.2.1]; exact b2
  · rw [q149 4 (by decide) (by decide) (by decide) (by decide), lo 7 (by decide), hcf.2.2]; exact b3
  · rw [q15 150 (by decide) (by decide), lo 2 (by decide), har.1]; exact c1
  · rw [q15 151 (by decide) (by decide), lo 3 (by decide), har.2.1]; exact c2'
  · rw [q15 152 (by decide) (by decide), lo 4 (by decide), har.2.2.1]; exact c3
  · rw [q15 153 (by decide) (by decide), lo 5 (by decide), har.2.2.2]; exact c4
  · rw [kown, lo 6 (by decide)]
  · rw [lo 2 (by decide), har.1]; exact d1
  · rw [lo (18 + 3 * p) (by omega)]; exact knm p hp
  · rw [lo 6 (by decide)]; exact ho2
  · rw [lo (56 + 3 * j) (by omega), lo (57 + 3 * j) (by omega), lo (57 + 3 * j + 1) (by omega)]; exact old1 j z1 z2
