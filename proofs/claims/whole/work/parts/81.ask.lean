/-! ===== what is only asked: both answer alike ===== -/
section ASK
variable {M M1 M2 : g_M} {n e nx kp fa : Nat} {c : pS} {A : Nat → aR} {cs : Nat → pS} {Es : Nat → Nat}
theorem Iv.x (h : Iv M n e nx kp fa c A cs Es) (hg : gC M M1 n) (hf : frM M1 M2) : IvX M2 := ⟨_, _, _, _, _, _, _, _, _, h.q hg hf⟩
theorem tfS_cg {R T : Nat → Bool} : ∀ {m i : Nat} {b : Int32}, (∀ p, i ≤ p → p < i + m → R p = T p) → tfS R i m b = tfS T i m b
  | 0, _, _, _ => rfl
  | m + 1, i, b, h => by
    rw [tfS, tfS, h i (by omega) (by omega), tfS_cg (m := m) (i := i + 1) (fun p h1 h2 => h p (by omega) (by omega)), tfS_cg (m := m) (i := i + 1) (fun p h1 h2 => h p (by omega) (by omega))]
theorem cn_cg {R T : Nat → Bool} : ∀ {m : Nat}, (∀ p, p < m → R p = T p) → cn R m = cn T m
  | 0, _ => rfl
  | m + 1, h => by rw [cn, cn, h m (by omega), cn_cg (m := m) (fun p hp => h p (by omega))]
theorem Iv.p0 (h : Iv M n e nx kp fa c A cs Es) (q : hiE M M1) {p : Nat} (hp : p < e) : M1 158 p = M (18 + 3 * p) 1 := by
  have hp12 : p < 12 := by have := h.e12; omega
  rw [q 158 (by decide), (h.go hp12).1, (h.go hp12).2]
theorem nIe {p q k : Nat} (hp : p < k) (hq : q < k) (hk : k ≤ 60) (h : nI p = nI q) : p = q := nI_inj (by omega) (by omega) h
end ASK
set_option maxHeartbeats 2000000 in
theorem g_about {M M1 : g_M} {L L1 : g_L} {v1 : Int32} {x1 x2 : Int32} {n e nx kp fa : Nat} {c : pS} {A : Nat → aR} {cs : Nat → pS} {Es : Nat → Nat} (h : Iv M n e nx kp fa c A cs Es) (P1 : v1 = abV (M 2) (M 3) (M 4) (M 5) (M 6) n x1 x2 ∧ M = M1 ∧ L = L1) : gC M M1 n := by
  obtain ⟨-, rfl, -⟩ := P1
  exact h.1.gC
set_option maxHeartbeats 2000000 in
theorem s_about {M M1 : g_M} {L L1 : g_L} {v1 : Int32} {x1 x2 : Int32} {n e nx kp fa : Nat} {c : pS} {A : Nat → aR} {cs : Nat → pS} {Es : Nat → Nat} (h : Iv M n e nx kp fa c A cs Es) {M2 : g_M} {L2 : g_L} {v2 : Int32} (P1 : v1 = abV (M 2) (M 3) (M 4) (M 5) (M 6) n x1 x2 ∧ M = M1 ∧ L = L1) (P2 : v2 = abV (M1 150) (M1 151) (M1 152) (M1 153) (M1 154) n x1 x2 ∧ M1 = M2 ∧ L1 = L2) : v1 = v2 ∧ IvX M2 := by
  obtain ⟨rfl, rfl, -⟩ := P1
  obtain ⟨rfl, rfl, -⟩ := P2
  obtain ⟨c1, c2, c3, c4, c5⟩ := h.2.1.2.2.1
  exact ⟨by rw [c1, c2, c3, c4, c5], h.x h.1.gC (frM.rf _)⟩
set_option maxHeartbeats 2000000 in
theorem g_bits {M M1 : g_M} {L L1 : g_L} {v1 : Int32} {n e nx kp fa : Nat} {c : pS} {A : Nat → aR} {cs : Nat → pS} {Es : Nat → Nat} (h : Iv M n e nx kp fa c A cs Es) (P1 : v1 = nI (bl (cB M) n n).length ∧ M = M1 ∧ L = L1) : gC M M1 n := by
  obtain ⟨-, rfl, -⟩ := P1
  exact h.1.gC
set_option maxHeartbeats 2000000 in
theorem s_bits {M M1 : g_M} {L L1 : g_L} {v1 : Int32} {n e nx kp fa : Nat} {c : pS} {A : Nat → aR} {cs : Nat → pS} {Es : Nat → Nat} (h : Iv M n e nx kp fa c A cs Es) {M2 : g_M} {L2 : g_L} {v2 : Int32} (P1 : v1 = nI (bl (cB M) n n).length ∧ M = M1 ∧ L = L1) (P2 : L1 = L2 ∧ frM M1 M2 ∧ v2 = nI (bl (mB M1) n n).length) : v1 = v2 ∧ IvX M2 := by
  have hg := g_bits h P1
  obtain ⟨rfl, rfl, -⟩ := P1
  obtain ⟨-, hf, rfl⟩ := P2
  exact ⟨by rw [h.eB hg.1.hi], h.x hg hf⟩
set_option maxHeartbeats 2000000 in
theorem g_bit {M M1 : g_M} {L L1 : g_L} {v1 : Int32} {x1 x2 : Int32} {n e nx kp fa : Nat} {c : pS} {A : Nat → aR} {cs : Nat → pS} {Es : Nat → Nat} (h : Iv M n e nx kp fa c A cs Es) (P1 : L = L1 ∧ v1 = prV (bl (cB M) n n) x1 x2 ∧ ∃ a b, M1 = bt2 M a b) : gC M M1 n := by
  obtain ⟨-, -, a, b, rfl⟩ := P1
  exact h.1.gC.D (frD_bt M a b)
set_option maxHeartbeats 2000000 in
theorem s_bit {M M1 : g_M} {L L1 : g_L} {v1 : Int32} {x1 x2 : Int32} {n e nx kp fa : Nat} {c : pS} {A : Nat → aR} {cs : Nat → pS} {Es : Nat → Nat} (h : Iv M n e nx kp fa c A cs Es) {M2 : g_M} {L2 : g_L} {v2 : Int32} (P1 : L = L1 ∧ v1 = prV (bl (cB M) n n) x1 x2 ∧ ∃ a b, M1 = bt2 M a b) (P2 : L1 = L2 ∧ frM M1 M2 ∧ v2 = prV (bl (mB M1) n n) x1 x2) : v1 = v2 ∧ IvX M2 := by
  have hg := g_bit h P1
  obtain ⟨-, rfl, -⟩ := P1
  obtain ⟨-, hf, rfl⟩ := P2
  exact ⟨by rw [h.eB hg.1.hi], h.x hg hf⟩
set_option maxHeartbeats 2000000 in
theorem g_pairs {M M1 : g_M} {L L1 : g_L} {v1 : Int32} {n e nx kp fa : Nat} {c : pS} {A : Nat → aR} {cs : Nat → pS} {Es : Nat → Nat} (h : Iv M n e nx kp fa c A cs Es) (P1 : (toP M L n) v1 M1 L1) : gC M M1 n := by
  obtain ⟨-, h5, h10, hc, -⟩ := P1
  exact h5.gC h10 hc
set_option maxHeartbeats 2000000 in
theorem s_pairs {M M1 : g_M} {L L1 : g_L} {v1 : Int32} {n e nx kp fa : Nat} {c : pS} {A : Nat → aR} {cs : Nat → pS} {Es : Nat → Nat} (h : Iv M n e nx kp fa c A cs Es) {M2 : g_M} {L2 : g_L} {v2 : Int32} (P1 : (toP M L n) v1 M1 L1) (P2 : L1 = L2 ∧ frM M1 M2 ∧ v2 = mtot M1 n) : v1 = v2 ∧ IvX M2 := by
  have hg := g_pairs h P1
  obtain ⟨-, -, -, -, rfl⟩ := P1
  obtain ⟨-, hf, rfl⟩ := P2
  refine ⟨?_, h.x hg hf⟩
  unfold mtot
  rw [h.eB hg.1.hi, h.eL hg.1.hi]
set_option maxHeartbeats 2000000 in
theorem g_pair {M M1 : g_M} {L L1 : g_L} {v1 : Int32} {x1 x2 : Int32} {n e nx kp fa : Nat} {c : pS} {A : Nat → aR} {cs : Nat → pS} {Es : Nat → Nat} (h : Iv M n e nx kp fa c A cs Es) (P1 : L = L1 ∧ v1 = prV (plE M n) x1 x2 ∧ (M = M1 ∨ (fr5 M M1 ∧ M1 9 10 = 1 ∧ chR M1 n))) : gC M M1 n := by
  obtain ⟨-, -, hz⟩ := P1
  rcases hz with rfl | ⟨h5, h10, hc⟩
  · exact h.1.gC
  · exact h5.gC h10 hc
set_option maxHeartbeats 2000000 in
theorem s_pair {M M1 : g_M} {L L1 : g_L} {v1 : Int32} {x1 x2 : Int32} {n e nx kp fa : Nat} {c : pS} {A : Nat → aR} {cs : Nat → pS} {Es : Nat → Nat} (h : Iv M n e nx kp fa c A cs Es) {M2 : g_M} {L2 : g_L} {v2 : Int32} (P1 : L = L1 ∧ v1 = prV (plE M n) x1 x2 ∧ (M = M1 ∨ (fr5 M M1 ∧ M1 9 10 = 1 ∧ chR M1 n))) (P2 : L1 = L2 ∧ frM M1 M2 ∧ v2 = prV (mplE M1 n) x1 x2) : v1 = v2 ∧ IvX M2 := by
  have hg := g_pair h P1
  obtain ⟨-, rfl, -⟩ := P1
  obtain ⟨-, hf, rfl⟩ := P2
  exact ⟨by rw [h.eE hg.1.hi], h.x hg hf⟩
set_option maxHeartbeats 2000000 in
theorem g_path {M M1 : g_M} {L L1 : g_L} {v1 : Int32} {x1 x2 : Int32} {n e nx kp fa : Nat} {c : pS} {A : Nat → aR} {cs : Nat → pS} {Es : Nat → Nat} (h : Iv M n e nx kp fa c A cs Es) (P1 : L = L1 ∧ ((dHas e x1 = false ∧ v1 = -1 ∧ gC M M1 n) ∨ ∃ p, p < e ∧ x1 = nI p ∧ gC M M1 n ∧ v1 = pthV (M (18 + 3 * p) 0) (M (18 + 3 * p) 1) (c.2.1 p) (M (20 + 3 * p)) (snd M (c.2.2 p) (c.2.1 p)) x2)) : gC M M1 n := by
  obtain ⟨-, ⟨-, -, hg⟩ | ⟨p, hp, rfl, hg, -⟩⟩ := P1
  · exact hg
  · exact hg
set_option maxHeartbeats 2000000 in
theorem s_path {M M1 : g_M} {L L1 : g_L} {v1 : Int32} {x1 x2 : Int32} {n e nx kp fa : Nat} {c : pS} {A : Nat → aR} {cs : Nat → pS} {Es : Nat → Nat} (h : Iv M n e nx kp fa c A cs Es) {M2 : g_M} {L2 : g_L} {v2 : Int32} (P1 : L = L1 ∧ ((dHas e x1 = false ∧ v1 = -1 ∧ gC M M1 n) ∨ ∃ p, p < e ∧ x1 = nI p ∧ gC M M1 n ∧ v1 = pthV (M (18 + 3 * p) 0) (M (18 + 3 * p) 1) (c.2.1 p) (M (20 + 3 * p)) (snd M (c.2.2 p) (c.2.1 p)) x2)) (P2 : L1 = L2 ∧ ((dHas e x1 = false ∧ v2 = -1 ∧ frM M1 M2) ∨ ∃ p, p < e ∧ x1 = nI p ∧ frM M1 M2 ∧ v2 = mpV (M1 155 p) (M1 158 p) ((szF c) p) (fun i => M1 157 (8 * p + i)) (msnd M1 (c.2.2 p) ((szF c) p)) x2)) : v1 = v2 ∧ IvX M2 := by
  have hg := g_path h P1
  have h12 := h.e12
  obtain ⟨-, P2⟩ := P2
  obtain ⟨-, P1⟩ := P1
  rcases P1 with ⟨hd, rfl, -⟩ | ⟨p, hp, rfl, -, rfl⟩
  · rcases P2 with ⟨-, rfl, hf⟩ | ⟨p, hp, rfl, hf, -⟩
    · exact ⟨rfl, h.x hg hf⟩
    · exfalso
      have := of_decide_eq_false hd
      refine this ⟨?_, (nI_ltI (by omega) (by omega)).mpr hp⟩
      rw [i_le, nI_toInt (by omega), show (0 : Int32).toInt = 0 from rfl]; omega
  · rcases P2 with ⟨hd, -, hf⟩ | ⟨p2, hp2, he, hf, rfl⟩
    · exfalso
      have := of_decide_eq_false hd
      refine this ⟨?_, (nI_ltI (by omega) (by omega)).mpr hp⟩
      rw [i_le, nI_toInt (by omega), show (0 : Int32).toInt = 0 from rfl]; omega
    · have hpp := nIe hp hp2 (by omega) he
      subst hpp
      have hp12 : p < 12 := by omega
      refine ⟨?_, h.x hg hf⟩
      have e155 : M1 155 p = M (18 + 3 * p) 0 := by rw [hg.1.hi 155 (by decide)]; exact (h.2.1.2.2.2.2.1 p hp12).1
      rw [e155, h.p0 hg.1.hi hp, h.eS hg.1.hi]
      unfold pthV mpV
      by_cases hgo : M (18 + 3 * p) 1 = 0
      · have hs := h.sz hp hgo
        rw [hs, if_pos hgo, if_pos hgo, if_pos hgo, if_pos hgo]
        have ed : dotW (M (20 + 3 * p)) (c.2.1 p) x2 = dotW (fun i => M1 157 (8 * p + i)) (c.2.1 p) x2 := by
          unfold dotW
          by_cases hz : 10 ≤ x2 ∧ x2 - 10 < nI (c.2.1 p)
          · rw [if_pos hz, if_pos hz]
            have hr := h.1.r hp12
            obtain ⟨i, hi, ei⟩ := sub10 (by have := hr.2; omega) hz.1 hz.2
            rw [ei, nI_clamp (by have := hr.2; omega)]
            have h1 := (hr.1.2.2.2 i hi).1
            have h2 := (h.2.1.2.2.2.2.2 p hp12).2 i (by rw [hs]; exact hi)
            rw [show 20 + 3 * p = 19 + 3 * p + 1 by omega, h1, hg.1.hi 157 (by decide)]
            exact h2.symm
          · rw [if_neg hz, if_neg hz]
        rw [ed]
      · have hs : szF c p = 0 := by
          unfold szF
          rw [if_neg]
          intro hl
          apply hgo
          rw [(h.go hp12).1, goF, hl]
          simp
          rfl
        rw [if_neg hgo, if_neg hgo, if_neg hgo, if_neg hgo, hs]
        have ed : dotW (fun i => M1 157 (8 * p + i)) 0 x2 = -1 := by
          unfold dotW
          rw [if_neg]
          intro hz
          obtain ⟨i, hi, -⟩ := sub10 (l := 0) (by omega) hz.1 hz.2
          omega
        rw [ed, if_neg hgo]
        rfl
theorem cHas_p {M : g_M} {e p : Nat} (he : M 16 2 = nI e) (h12 : e ≤ 12) (hp : p < e) (hg : M (18 + 3 * p) 1 = 0) : cHas M (nI p) = true := by
  rw [cHas_n he h12 hp, decide_eq_true hg]
set_option maxHeartbeats 2000000 in
theorem g_heap {M M1 : g_M} {L L1 : g_L} {v1 : Int64} {x1 : Int32} {n e nx kp fa : Nat} {c : pS} {A : Nat → aR} {cs : Nat → pS} {Es : Nat → Nat} (h : Iv M n e nx kp fa c A cs Es) (P1 : L = L1 ∧ gC M M1 n ∧ ((cHas M x1 = false ∧ v1 = -1) ∨ ∃ p, p < e ∧ x1 = nI p ∧ M (18 + 3 * p) 1 = 0 ∧ v1 = sumL (cLp M 0 (c.2.2 p) (c.2.1 p)) 41 * sumL (cLp M 1 (c.2.2 p) (c.2.1 p)) 41)) : gC M M1 n := by
  exact P1.2.1
set_option maxHeartbeats 2000000 in
theorem s_heap {M M1 : g_M} {L L1 : g_L} {v1 : Int64} {x1 : Int32} {n e nx kp fa : Nat} {c : pS} {A : Nat → aR} {cs : Nat → pS} {Es : Nat → Nat} (h : Iv M n e nx kp fa c A cs Es) {M2 : g_M} {L2 : g_L} {v2 : Int64} (P1 : L = L1 ∧ gC M M1 n ∧ ((cHas M x1 = false ∧ v1 = -1) ∨ ∃ p, p < e ∧ x1 = nI p ∧ M (18 + 3 * p) 1 = 0 ∧ v1 = sumL (cLp M 0 (c.2.2 p) (c.2.1 p)) 41 * sumL (cLp M 1 (c.2.2 p) (c.2.1 p)) 41)) (P2 : L1 = L2 ∧ frM M1 M2 ∧ ((mHas M1 e x1 = false ∧ v2 = -1) ∨ ∃ p, p < e ∧ x1 = nI p ∧ M1 158 p = 0 ∧ v2 = sumL (mLp M1 0 (c.2.2 p) ((szF c) p)) 41 * sumL (mLp M1 1 (c.2.2 p) ((szF c) p)) 41)) : v1 = v2 ∧ IvX M2 := by
  have hg := g_heap h P1
  have h12 := h.e12
  obtain ⟨-, -, P1⟩ := P1
  obtain ⟨-, hf, P2⟩ := P2
  refine ⟨?_, h.x hg hf⟩
  rcases P1 with ⟨hc, rfl⟩ | ⟨p, hp, rfl, hg0, rfl⟩
  · rcases P2 with ⟨-, rfl⟩ | ⟨p, hp, rfl, hg0, -⟩
    · rfl
    · rw [h.p0 hg.1.hi hp] at hg0
      rw [cHas_p h.1.e.1 h12 hp hg0] at hc
      cases hc
  · rcases P2 with ⟨hc2, -⟩ | ⟨p2, hp2, he, hg2, rfl⟩
    · rw [h.has hg.1.hi, cHas_p h.1.e.1 h12 hp hg0] at hc2
      cases hc2
    · have hpp := nIe hp hp2 (by omega) he
      subst hpp
      rw [h.eP hg.1.hi, h.eP hg.1.hi, h.sz hp hg0]
set_option maxHeartbeats 2000000 in
theorem g_ahead {M M1 : g_M} {L L1 : g_L} {v1 : Int64} {x1 x2 x3 : Int32} {n e nx kp fa : Nat} {c : pS} {A : Nat → aR} {cs : Nat → pS} {Es : Nat → Nat} (h : Iv M n e nx kp fa c A cs Es) (P1 : L = L1 ∧ gC M M1 n ∧ (((cHas M x1 = false ∨ inW x2 0 400 = false ∨ inW x3 0 3 = false) ∧ v1 = NO) ∨ (inW x2 0 400 = true ∧ inW x3 0 3 = true ∧ ∃ p, p < e ∧ x1 = nI p ∧ M (18 + 3 * p) 1 = 0 ∧ v1 = (if snd M (c.2.2 p) (c.2.1 p) then edS (cLp M (if 2 ≤ x3 then 1 else 0) (c.2.2 p) (c.2.1 p)) x2 (decide (x3 - x3 / 2 * 2 = 1)) 41 else NO)))) : gC M M1 n := by
  exact P1.2.1
set_option maxHeartbeats 2000000 in
theorem s_ahead {M M1 : g_M} {L L1 : g_L} {v1 : Int64} {x1 x2 x3 : Int32} {n e nx kp fa : Nat} {c : pS} {A : Nat → aR} {cs : Nat → pS} {Es : Nat → Nat} (h : Iv M n e nx kp fa c A cs Es) {M2 : g_M} {L2 : g_L} {v2 : Int64} (P1 : L = L1 ∧ gC M M1 n ∧ (((cHas M x1 = false ∨ inW x2 0 400 = false ∨ inW x3 0 3 = false) ∧ v1 = NO) ∨ (inW x2 0 400 = true ∧ inW x3 0 3 = true ∧ ∃ p, p < e ∧ x1 = nI p ∧ M (18 + 3 * p) 1 = 0 ∧ v1 = (if snd M (c.2.2 p) (c.2.1 p) then edS (cLp M (if 2 ≤ x3 then 1 else 0) (c.2.2 p) (c.2.1 p)) x2 (decide (x3 - x3 / 2 * 2 = 1)) 41 else NO)))) (P2 : frM M1 M2 ∧ (((mHas M1 e x1 = false ∨ inW x2 0 400 = false ∨ inW x3 0 3 = false) ∧ v2 = NO) ∨ (inW x2 0 400 = true ∧ inW x3 0 3 = true ∧ ∃ p, p < e ∧ x1 = nI p ∧ M1 158 p = 0 ∧ v2 = (if msnd M1 (c.2.2 p) ((szF c) p) then edS (mLp M1 (if 2 ≤ x3 then 1 else 0) (c.2.2 p) ((szF c) p)) x2 (decide (x3 - x3 / 2 * 2 = 1)) 41 else NO)))) : v1 = v2 ∧ IvX M2 := by
  have hg := g_ahead h P1
  have h12 := h.e12
  obtain ⟨-, -, P1⟩ := P1
  obtain ⟨hf, P2⟩ := P2
  refine ⟨?_, h.x hg hf⟩
  rw [h.has hg.1.hi] at P2
  rcases P1 with ⟨hc, rfl⟩ | ⟨hh, hk, p, hp, rfl, hg0, rfl⟩
  · rcases P2 with ⟨-, rfl⟩ | ⟨hh, hk, p, hp, rfl, hg0, -⟩
    · rfl
    · rw [h.p0 hg.1.hi hp] at hg0
      rw [cHas_p h.1.e.1 h12 hp hg0, hh, hk] at hc
      simp at hc
  · rcases P2 with ⟨hc2, -⟩ | ⟨-, -, p2, hp2, he, hg2, rfl⟩
    · rw [cHas_p h.1.e.1 h12 hp hg0, hh, hk] at hc2
      simp at hc2
    · have hpp := nIe hp hp2 (by omega) he
      subst hpp
      rw [h.eS hg.1.hi, h.eP hg.1.hi, h.sz hp hg0]
set_option maxHeartbeats 2000000 in
theorem g_tellOff {M M1 : g_M} {L L1 : g_L} {v1 : Int32} {x1 : Int32} {n e nx kp fa : Nat} {c : pS} {A : Nat → aR} {cs : Nat → pS} {Es : Nat → Nat} (h : Iv M n e nx kp fa c A cs Es) (P1 : L = L1 ∧ gC M M1 n ∧ ((dHas n x1 = false ∧ v1 = -1) ∨ ∃ d, d < n ∧ x1 = nI d ∧ ((¬ M 6 d = -1 ∧ v1 = -1) ∨ (M 6 d = -1 ∧ v1 = tfS (cRch M c.2.1 c.2.2 d) 0 e (-1))))) : gC M M1 n := by
  exact P1.2.1
set_option maxHeartbeats 2000000 in
theorem s_tellOff {M M1 : g_M} {L L1 : g_L} {v1 : Int32} {x1 : Int32} {n e nx kp fa : Nat} {c : pS} {A : Nat → aR} {cs : Nat → pS} {Es : Nat → Nat} (h : Iv M n e nx kp fa c A cs Es) {M2 : g_M} {L2 : g_L} {v2 : Int32} (P1 : L = L1 ∧ gC M M1 n ∧ ((dHas n x1 = false ∧ v1 = -1) ∨ ∃ d, d < n ∧ x1 = nI d ∧ ((¬ M 6 d = -1 ∧ v1 = -1) ∨ (M 6 d = -1 ∧ v1 = tfS (cRch M c.2.1 c.2.2 d) 0 e (-1))))) (P2 : frM M1 M2 ∧ ((dHas n x1 = false ∧ v2 = -1) ∨ ∃ d, d < n ∧ x1 = nI d ∧ ((¬ M1 154 d = -1 ∧ v2 = -1) ∨ (M1 154 d = -1 ∧ v2 = tfS (mRch M1 (szF c) c.2.2 d) 0 e (-1))))) : v1 = v2 ∧ IvX M2 := by
  have hg := g_tellOff h P1
  have h12 := h.e12
  have h60 := h.1.n.2
  obtain ⟨-, -, P1⟩ := P1
  obtain ⟨hf, P2⟩ := P2
  refine ⟨?_, h.x hg hf⟩
  have e154 : M1 154 = M 6 := (hg.1.hi 154 (by decide)).trans h.2.1.2.2.1.2.2.2.2
  rw [e154] at P2
  rcases P1 with ⟨hd, rfl⟩ | ⟨d, hd, rfl, P1⟩
  · rcases P2 with ⟨-, rfl⟩ | ⟨d, hd2, rfl, -⟩
    · rfl
    · exfalso
      have := of_decide_eq_false hd
      refine this ⟨?_, (nI_ltI (by omega) (by omega)).mpr hd2⟩
      rw [i_le, nI_toInt (by omega), show (0 : Int32).toInt = 0 from rfl]; omega
  · rcases P2 with ⟨hd2, -⟩ | ⟨d2, hd2, he, P2⟩
    · exfalso
      have := of_decide_eq_false hd2
      refine this ⟨?_, (nI_ltI (by omega) (by omega)).mpr hd⟩
      rw [i_le, nI_toInt (by omega), show (0 : Int32).toInt = 0 from rfl]; omega
    · have hpp := nIe hd hd2 h60 he
      subst hpp
      rcases P1 with ⟨h1, rfl⟩ | ⟨h1, rfl⟩
      · rcases P2 with ⟨-, rfl⟩ | ⟨h2, -⟩
        · rfl
        · exact absurd h2 h1
      · rcases P2 with ⟨h2, -⟩ | ⟨-, rfl⟩
        · exact absurd h1 h2
        · refine tfS_cg (fun p _ hp => ?_)
          have hp : p < e := by omega
          unfold cRch mRch
          rw [h.p0 hg.1.hi hp]
          by_cases hg0 : M (18 + 3 * p) 1 = 0
          · rw [decide_eq_true hg0, Bool.true_and, Bool.true_and]
            unfold rch mrch
            have e150 : M1 150 = M 2 := (hg.1.hi 150 (by decide)).trans h.2.1.2.2.1.1
            have e151 : M1 151 = M 3 := (hg.1.hi 151 (by decide)).trans h.2.1.2.2.1.2.1
            have e152 : M1 152 = M 4 := (hg.1.hi 152 (by decide)).trans h.2.1.2.2.1.2.2.1
            rw [h.eS hg.1.hi, h.eP hg.1.hi, h.eP hg.1.hi, h.sz hp hg0, e150, e151, e152]
          · rw [decide_eq_false hg0, Bool.false_and, Bool.false_and]
set_option maxHeartbeats 2000000 in
theorem g_fit {M M1 : g_M} {L L1 : g_L} {v1 : Int64} {x1 x2 x3 x4 : Int32} {n e nx kp fa : Nat} {c : pS} {A : Nat → aR} {cs : Nat → pS} {Es : Nat → Nat} (h : Iv M n e nx kp fa c A cs Es) (P1 : gC M M1 n ∧ frL L L1 ∧ (((inW x3 0 1 = false ∨ inW x4 0 1 = false ∨ (cHas M x1 = false ∨ inW x2 0 1 = false)) ∧ v1 = NO) ∨ (inW x3 0 1 = true ∧ inW x4 0 1 = true ∧ inW x2 0 1 = true ∧ ∃ p, p < e ∧ x1 = nI p ∧ M (18 + 3 * p) 1 = 0 ∧ v1 = (if 0 < spB (M 2) (c.2.2 p) (c.2.1 p) then ftV (M 2) (plc (M 3) (M 4) x2) (c.2.2 p) (c.2.1 p) x3 x4 else NO)))) : gC M M1 n := by
  exact P1.1
set_option maxHeartbeats 2000000 in
theorem s_fit {M M1 : g_M} {L L1 : g_L} {v1 : Int64} {x1 x2 x3 x4 : Int32} {n e nx kp fa : Nat} {c : pS} {A : Nat → aR} {cs : Nat → pS} {Es : Nat → Nat} (h : Iv M n e nx kp fa c A cs Es) {M2 : g_M} {L2 : g_L} {v2 : Int64} (P1 : gC M M1 n ∧ frL L L1 ∧ (((inW x3 0 1 = false ∨ inW x4 0 1 = false ∨ (cHas M x1 = false ∨ inW x2 0 1 = false)) ∧ v1 = NO) ∨ (inW x3 0 1 = true ∧ inW x4 0 1 = true ∧ inW x2 0 1 = true ∧ ∃ p, p < e ∧ x1 = nI p ∧ M (18 + 3 * p) 1 = 0 ∧ v1 = (if 0 < spB (M 2) (c.2.2 p) (c.2.1 p) then ftV (M 2) (plc (M 3) (M 4) x2) (c.2.2 p) (c.2.1 p) x3 x4 else NO)))) (P2 : M1 = M2 ∧ (((inW x3 0 1 = false ∨ inW x4 0 1 = false ∨ (mHas M1 e x1 = false ∨ inW x2 0 1 = false)) ∧ v2 = NO) ∨ (inW x3 0 1 = true ∧ inW x4 0 1 = true ∧ inW x2 0 1 = true ∧ ∃ p, p < e ∧ x1 = nI p ∧ M1 158 p = 0 ∧ v2 = (if 0 < spB (M1 150) (c.2.2 p) ((szF c) p) then ftV (M1 150) (plc (M1 151) (M1 152) x2) (c.2.2 p) ((szF c) p) x3 x4 else NO)))) : v1 = v2 ∧ IvX M2 := by
  have hg := g_fit h P1
  have h12 := h.e12
  obtain ⟨-, -, P1⟩ := P1
  obtain ⟨rfl, P2⟩ := P2
  refine ⟨?_, h.x hg (frM.rf _)⟩
  rw [h.has hg.1.hi] at P2
  have e150 : M1 150 = M 2 := (hg.1.hi 150 (by decide)).trans h.2.1.2.2.1.1
  have e151 : M1 151 = M 3 := (hg.1.hi 151 (by decide)).trans h.2.1.2.2.1.2.1
  have e152 : M1 152 = M 4 := (hg.1.hi 152 (by decide)).trans h.2.1.2.2.1.2.2.1
  rw [e150, e151, e152] at P2
  rcases P1 with ⟨hc, rfl⟩ | ⟨ha, hb, hx, p, hp, rfl, hg0, rfl⟩
  · rcases P2 with ⟨-, rfl⟩ | ⟨ha, hb, hx, p, hp, rfl, hg0, -⟩
    · rfl
    · rw [h.p0 hg.1.hi hp] at hg0
      rw [cHas_p h.1.e.1 h12 hp hg0, ha, hb, hx] at hc
      simp at hc
  · rcases P2 with ⟨hc2, -⟩ | ⟨-, -, -, p2, hp2, he, hg2, rfl⟩
    · rw [cHas_p h.1.e.1 h12 hp hg0, ha, hb, hx] at hc2
      simp at hc2
    · have hpp := nIe hp hp2 (by omega) he
      subst hpp
      rw [h.sz hp hg0]
set_option maxHeartbeats 2000000 in
theorem g_miss {M M1 : g_M} {L L1 : g_L} {v1 : Int64} {x1 x2 x3 x4 : Int32} {n e nx kp fa : Nat} {c : pS} {A : Nat → aR} {cs : Nat → pS} {Es : Nat → Nat} (h : Iv M n e nx kp fa c A cs Es) (P1 : gC M M1 n ∧ frL L L1 ∧ (((inW x4 0 1 = false ∨ (cHas M x1 = false ∨ inW x3 0 1 = false)) ∧ v1 = NO) ∨ (inW x4 0 1 = true ∧ inW x3 0 1 = true ∧ ∃ p, p < e ∧ x1 = nI p ∧ M (18 + 3 * p) 1 = 0 ∧ v1 = (if 0 < spB (M 2) (c.2.2 p) (c.2.1 p) ∧ dHas (c.2.1 p) x2 = true then msV (M 2) (plc (M 3) (M 4) x3) (c.2.2 p) (c.2.1 p) (c.2.2 p x2.toNatClampNeg) x4 else NO)))) : gC M M1 n := by
  exact P1.1
set_option maxHeartbeats 2000000 in
theorem s_miss {M M1 : g_M} {L L1 : g_L} {v1 : Int64} {x1 x2 x3 x4 : Int32} {n e nx kp fa : Nat} {c : pS} {A : Nat → aR} {cs : Nat → pS} {Es : Nat → Nat} (h : Iv M n e nx kp fa c A cs Es) {M2 : g_M} {L2 : g_L} {v2 : Int64} (P1 : gC M M1 n ∧ frL L L1 ∧ (((inW x4 0 1 = false ∨ (cHas M x1 = false ∨ inW x3 0 1 = false)) ∧ v1 = NO) ∨ (inW x4 0 1 = true ∧ inW x3 0 1 = true ∧ ∃ p, p < e ∧ x1 = nI p ∧ M (18 + 3 * p) 1 = 0 ∧ v1 = (if 0 < spB (M 2) (c.2.2 p) (c.2.1 p) ∧ dHas (c.2.1 p) x2 = true then msV (M 2) (plc (M 3) (M 4) x3) (c.2.2 p) (c.2.1 p) (c.2.2 p x2.toNatClampNeg) x4 else NO)))) (P2 : M1 = M2 ∧ (((inW x4 0 1 = false ∨ (mHas M1 e x1 = false ∨ inW x3 0 1 = false)) ∧ v2 = NO) ∨ (∃ p, p < e ∧ x1 = nI p ∧ M1 158 p = 0 ∧ ((dHas ((szF c) p) x2 = false ∧ v2 = NO) ∨ (inW x4 0 1 = true ∧ inW x3 0 1 = true ∧ v2 = (if 0 < spB (M1 150) (c.2.2 p) ((szF c) p) ∧ dHas ((szF c) p) x2 = true then msV (M1 150) (plc (M1 151) (M1 152) x3) (c.2.2 p) ((szF c) p) (c.2.2 p x2.toNatClampNeg) x4 else NO)))))) : v1 = v2 ∧ IvX M2 := by
  have hg := g_miss h P1
  have h12 := h.e12
  obtain ⟨-, -, P1⟩ := P1
  obtain ⟨rfl, P2⟩ := P2
  refine ⟨?_, h.x hg (frM.rf _)⟩
  rw [h.has hg.1.hi] at P2
  have e150 : M1 150 = M 2 := (hg.1.hi 150 (by decide)).trans h.2.1.2.2.1.1
  have e151 : M1 151 = M 3 := (hg.1.hi 151 (by decide)).trans h.2.1.2.2.1.2.1
  have e152 : M1 152 = M 4 := (hg.1.hi 152 (by decide)).trans h.2.1.2.2.1.2.2.1
  rw [e150, e151, e152] at P2
  rcases P1 with ⟨hc, rfl⟩ | ⟨hb, hx, p, hp, rfl, hg0, rfl⟩
  · rcases P2 with ⟨-, rfl⟩ | ⟨p, hp, rfl, hg0, ⟨-, rfl⟩ | ⟨hb, hx, -⟩⟩
    · rfl
    · rfl
    · rw [h.p0 hg.1.hi hp] at hg0
      rw [cHas_p h.1.e.1 h12 hp hg0, hb, hx] at hc
      simp at hc
  · rcases P2 with ⟨hc2, -⟩ | ⟨p2, hp2, he, hg2, P2⟩
    · rw [cHas_p h.1.e.1 h12 hp hg0, hb, hx] at hc2
      simp at hc2
    · have hpp := nIe hp hp2 (by omega) he
      subst hpp
      rw [h.sz hp hg0] at P2
      rcases P2 with ⟨hd, rfl⟩ | ⟨-, -, rfl⟩
      · rw [if_neg (fun z => by rw [hd] at z; exact Bool.noConfusion z.2)]
      · rfl
set_option maxHeartbeats 2000000 in
theorem g_same {M M1 : g_M} {L L1 : g_L} {v1 : Int32} {x1 x2 : Int32} {n e nx kp fa : Nat} {c : pS} {A : Nat → aR} {cs : Nat → pS} {Es : Nat → Nat} (h : Iv M n e nx kp fa c A cs Es) (P1 : L = L1 ∧ (((cHas M x1 = false ∨ cHas M x2 = false) ∧ v1 = -1 ∧ gC M M1 n) ∨ ∃ p q, p < e ∧ x1 = nI p ∧ M (18 + 3 * p) 1 = 0 ∧ q < e ∧ x2 = nI q ∧ M (18 + 3 * q) 1 = 0 ∧ ((p = q ∧ v1 = -2 ∧ gC M M1 n) ∨ (p ≠ q ∧ v1 = bI (snd M (rbo c.2.1 c.2.2 p q) (c.2.1 p + c.2.1 q)) ∧ gC M M1 n)))) : gC M M1 n := by
  obtain ⟨-, ⟨-, -, hg⟩ | ⟨p, q, hp, rfl, hg0, hq, rfl, hg1, ⟨-, -, hg⟩ | ⟨-, -, hg⟩⟩⟩ := P1
  · exact hg
  · exact hg
  · exact hg
set_option maxHeartbeats 2000000 in
theorem s_same {M M1 : g_M} {L L1 : g_L} {v1 : Int32} {x1 x2 : Int32} {n e nx kp fa : Nat} {c : pS} {A : Nat → aR} {cs : Nat → pS} {Es : Nat → Nat} (h : Iv M n e nx kp fa c A cs Es) {M2 : g_M} {L2 : g_L} {v2 : Int32} (P1 : L = L1 ∧ (((cHas M x1 = false ∨ cHas M x2 = false) ∧ v1 = -1 ∧ gC M M1 n) ∨ ∃ p q, p < e ∧ x1 = nI p ∧ M (18 + 3 * p) 1 = 0 ∧ q < e ∧ x2 = nI q ∧ M (18 + 3 * q) 1 = 0 ∧ ((p = q ∧ v1 = -2 ∧ gC M M1 n) ∨ (p ≠ q ∧ v1 = bI (snd M (rbo c.2.1 c.2.2 p q) (c.2.1 p + c.2.1 q)) ∧ gC M M1 n)))) (P2 : L1 = L2 ∧ (((mHas M1 e x1 = false ∨ mHas M1 e x2 = false) ∧ v2 = -1 ∧ frM M1 M2) ∨ ∃ p q, p < e ∧ x1 = nI p ∧ M1 158 p = 0 ∧ q < e ∧ x2 = nI q ∧ M1 158 q = 0 ∧ ((p = q ∧ v2 = -2 ∧ frM M1 M2) ∨ (p ≠ q ∧ v2 = bI (msnd M1 (rbo (szF c) c.2.2 p q) ((szF c) p + (szF c) q)) ∧ frM M1 M2)))) : v1 = v2 ∧ IvX M2 := by
  have hg := g_same h P1
  have h12 := h.e12
  obtain ⟨-, P1⟩ := P1
  obtain ⟨-, P2⟩ := P2
  rw [h.has hg.1.hi, h.has hg.1.hi] at P2
  rcases P1 with ⟨hc, rfl, -⟩ | ⟨p, q, hp, rfl, hg0, hq, rfl, hg1, P1⟩
  · rcases P2 with ⟨-, rfl, hf⟩ | ⟨p, q, hp, rfl, hg0, hq, rfl, hg1, -⟩
    · exact ⟨rfl, h.x hg hf⟩
    · rw [h.p0 hg.1.hi hp] at hg0
      rw [h.p0 hg.1.hi hq] at hg1
      rw [cHas_p h.1.e.1 h12 hp hg0, cHas_p h.1.e.1 h12 hq hg1] at hc
      simp at hc
  · rcases P2 with ⟨hc2, -⟩ | ⟨p2, q2, hp2, he, -, hq2, he2, -, P2⟩
    · rw [cHas_p h.1.e.1 h12 hp hg0, cHas_p h.1.e.1 h12 hq hg1] at hc2
      simp at hc2
    · have hpp := nIe hp hp2 (by omega) he
      have hqq := nIe hq hq2 (by omega) he2
      subst hpp
      subst hqq
      rcases P1 with ⟨h1, rfl, -⟩ | ⟨h1, rfl, -⟩
      · rcases P2 with ⟨-, rfl, hf⟩ | ⟨h2, -⟩
        · exact ⟨rfl, h.x hg hf⟩
        · exact absurd h1 h2
      · rcases P2 with ⟨h2, -⟩ | ⟨-, rfl, hf⟩
        · exact absurd h2 h1
        · refine ⟨?_, h.x hg hf⟩
          rw [h.eS hg.1.hi]
          unfold rbo
          rw [h.sz hp hg0, h.sz hq hg1]
set_option maxHeartbeats 2000000 in
theorem g_count {M M1 : g_M} {L L1 : g_L} {v1 : Int32} {x1 : Int32} {n e nx kp fa : Nat} {c : pS} {A : Nat → aR} {cs : Nat → pS} {Es : Nat → Nat} (h : Iv M n e nx kp fa c A cs Es) (P1 : L = L1 ∧ gC M M1 n ∧ v1 = (if x1 = 0 then nI n else if x1 = 1 then nI (cn (fun d => decide (M 6 d = -1)) n) else if x1 = 2 then nI (cn (fun p => decide (M (18 + 3 * p) 1 = 0)) e) else if x1 = 3 then nI e else if x1 = 4 then M 8 1 else if x1 = 5 then M 7 1 else if x1 = 6 then M 7 2 else if x1 = 7 then nI kp else -1)) : gC M M1 n := by
  exact P1.2.1
set_option maxHeartbeats 2000000 in
theorem s_count {M M1 : g_M} {L L1 : g_L} {v1 : Int32} {x1 : Int32} {n e nx kp fa : Nat} {c : pS} {A : Nat → aR} {cs : Nat → pS} {Es : Nat → Nat} (h : Iv M n e nx kp fa c A cs Es) {M2 : g_M} {L2 : g_L} {v2 : Int32} (P1 : L = L1 ∧ gC M M1 n ∧ v1 = (if x1 = 0 then nI n else if x1 = 1 then nI (cn (fun d => decide (M 6 d = -1)) n) else if x1 = 2 then nI (cn (fun p => decide (M (18 + 3 * p) 1 = 0)) e) else if x1 = 3 then nI e else if x1 = 4 then M 8 1 else if x1 = 5 then M 7 1 else if x1 = 6 then M 7 2 else if x1 = 7 then nI kp else -1)) (P2 : L1 = L2 ∧ M1 = M2 ∧ v2 = (if x1 = 0 then nI n else if x1 = 1 then nI (cn (fun d => decide (M1 154 d = -1)) n) else if x1 = 2 then nI (cn (fun p => decide (M1 158 p = 0)) e) else if x1 = 3 then nI e else if x1 = 4 then M1 149 2 else if x1 = 5 then M1 149 3 else if x1 = 6 then M1 149 4 else if x1 = 7 then nI kp else -1)) : v1 = v2 ∧ IvX M2 := by
  have hg := g_count h P1
  obtain ⟨-, -, rfl⟩ := P1
  obtain ⟨-, rfl, rfl⟩ := P2
  refine ⟨?_, h.x hg (frM.rf _)⟩
  have e154 : M1 154 = M 6 := (hg.1.hi 154 (by decide)).trans h.2.1.2.2.1.2.2.2.2
  obtain ⟨b1, b2, b3⟩ := h.2.1.2.1
  have e149 := hg.1.hi 149 (by decide)
  have ec : cn (fun p => decide (M (18 + 3 * p) 1 = 0)) e = cn (fun p => decide (M1 158 p = 0)) e := cn_cg (fun p hp => by rw [h.p0 hg.1.hi hp])
  rw [e154, e149, b1, b2, b3, ec]
