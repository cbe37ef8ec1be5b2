/-! ===== dot, pace, net; the acts that are kept ===== -/
section CFG
variable {M N : g_M} {n e nx kp fa : Nat} {c : pS} {A : Nat → aR} {cs : Nat → pS} {Es : Nat → Nat}
theorem Iv.cfg (h : Iv M n e nx kp fa c A cs Es) (q : ∀ a b, ¬ (a = 7 ∧ (b = 1 ∨ b = 2)) → ¬ (a = 8 ∧ b = 1) → ¬ (a = 9 ∧ b = 10) → ¬ (a = 149 ∧ (b = 2 ∨ b = 3 ∨ b = 4)) → N a b = M a b) (h9 : N 9 10 = 0) (h1 : N 149 2 = N 8 1) (h2 : N 149 3 = N 7 1) (h3 : N 149 4 = N 7 2) (hg : 1 ≤ (N 7 1).toInt) : Iv N n e nx kp fa c A cs Es := by
  have qo : ∀ a, a ≠ 7 → a ≠ 8 → a ≠ 9 → a ≠ 149 → N a = M a := fun a z1 z2 z3 z4 => by
    funext b
    exact q a b (by omega) (by omega) (by omega) (by omega)
  have q149 : ∀ b, ¬ (b = 2 ∨ b = 3 ∨ b = 4) → N 149 b = M 149 b := fun b z => q 149 b (by omega) (by omega) (by omega) (by omega)
  obtain ⟨hC, ⟨⟨a1, a2, a3, a4, a5⟩, -, ⟨c1, c2, c3, c4, c5⟩, d1, e1, f1⟩, hp, ho, h0, hh⟩ := h
  refine ⟨⟨?_, hC.n.2, ?_, hC.e.2, fun p hp => ⟨(hC.r hp).1.cg (qo _ (by omega) (by omega) (by omega) (by omega)) (qo _ (by omega) (by omega) (by omega) (by omega)), (hC.r hp).2⟩, fun p z1 z2 => hC.z z1 z2, hg, ⟨?_, hC.a.2.1, ?_, hC.a.2.2.2⟩, Or.inl h9⟩, ⟨⟨?_, ?_, ?_, ?_, a5⟩, ⟨h1, h2, h3⟩, ⟨?_, ?_, ?_, ?_, ?_⟩, ?_, fun p hp => ?_, fun p hp => ?_⟩, hp, ?_, h0, fun i hi => ?_⟩
  · rw [qo 1 (by decide) (by decide) (by decide) (by decide)]; exact hC.n.1
  · rw [qo 16 (by decide) (by decide) (by decide) (by decide)]; exact hC.e.1
  · rw [qo 54 (by decide) (by decide) (by decide) (by decide)]; exact hC.a.1
  · rw [qo 54 (by decide) (by decide) (by decide) (by decide)]; exact hC.a.2.2.1
  · rw [q149 0 (by decide)]; exact a1
  · rw [q149 1 (by decide)]; exact a2
  · rw [q149 26 (by decide)]; exact a3
  · rw [q149 27 (by decide)]; exact a4
  · rw [qo 150 (by decide) (by decide) (by decide) (by decide), qo 2 (by decide) (by decide) (by decide) (by decide)]; exact c1
  · rw [qo 151 (by decide) (by decide) (by decide) (by decide), qo 3 (by decide) (by decide) (by decide) (by decide)]; exact c2
  · rw [qo 152 (by decide) (by decide) (by decide) (by decide), qo 4 (by decide) (by decide) (by decide) (by decide)]; exact c3
  · rw [qo 153 (by decide) (by decide) (by decide) (by decide), qo 5 (by decide) (by decide) (by decide) (by decide)]; exact c4
  · rw [qo 154 (by decide) (by decide) (by decide) (by decide), qo 6 (by decide) (by decide) (by decide) (by decide)]; exact c5
  · rw [qo 2 (by decide) (by decide) (by decide) (by decide)]; exact d1
  · rw [qo 155 (by decide) (by decide) (by decide) (by decide), qo (18 + 3 * p) (by omega) (by omega) (by omega) (by omega), qo 158 (by decide) (by decide) (by decide) (by decide)]; exact e1 p hp
  · rw [qo 156 (by decide) (by decide) (by decide) (by decide), qo 157 (by decide) (by decide) (by decide) (by decide)]; exact f1 p hp
  · rw [qo 6 (by decide) (by decide) (by decide) (by decide)]; exact ho
  · obtain ⟨y1, y2, y3, y4, y5, y6⟩ := hh i hi
    refine ⟨y1.mv (qo _ (by omega) (by omega) (by omega) (by omega)) (qo _ (by omega) (by omega) (by omega) (by omega)) (qo _ (by omega) (by omega) (by omega) (by omega)), y2, y3, ?_, y5, y6⟩
    unfold snT
    rw [qo 164 (by decide) (by decide) (by decide) (by decide), qo 165 (by decide) (by decide) (by decide) (by decide), qo 166 (by decide) (by decide) (by decide) (by decide), qo 167 (by decide) (by decide) (by decide) (by decide)]
    exact y4
end CFG
theorem hiE.rf (M : g_M) : hiE M M := fun _ _ => rfl
theorem hiE.st {M N : g_M} (h : hiE M N) {k : Nat} (hk : k < 149) (j : Nat) (x : Int32) : hiE M (g_st N k j x) := fun a ha => by
  funext b
  rw [g_st_ap, if_neg (by omega)]
  exact congrFun (h a ha) b
set_option maxHeartbeats 2000000 in
theorem h_pace {M M1 : g_M} {L L1 : g_L} {v1 : Int32} {x1 : Int32} {n e nx kp fa : Nat} {c : pS} {A : Nat → aR} {cs : Nat → pS} {Es : Nat → Nat} (h : Iv M n e nx kp fa c A cs Es) (P1 : L = L1 ∧ ((inW x1 1 20 = false ∧ v1 = -2 ∧ M = M1) ∨ (inW x1 1 20 = true ∧ v1 = M 8 1 ∧ M1 = g_st (g_st M 8 1 x1) 9 10 0))) : hiE M M1 := by
  obtain ⟨-, ⟨-, -, rfl⟩ | ⟨-, -, rfl⟩⟩ := P1
  · exact hiE.rf M
  · exact ((hiE.rf M).st (by decide) 1 x1).st (by decide) 10 0
set_option maxHeartbeats 2000000 in
theorem s_pace {M M1 : g_M} {L L1 : g_L} {v1 : Int32} {x1 : Int32} {n e nx kp fa : Nat} {c : pS} {A : Nat → aR} {cs : Nat → pS} {Es : Nat → Nat} (h : Iv M n e nx kp fa c A cs Es) {M2 : g_M} {L2 : g_L} {v2 : Int32} (P1 : L = L1 ∧ ((inW x1 1 20 = false ∧ v1 = -2 ∧ M = M1) ∨ (inW x1 1 20 = true ∧ v1 = M 8 1 ∧ M1 = g_st (g_st M 8 1 x1) 9 10 0))) (P2 : L1 = L2 ∧ ((inW x1 1 20 = false ∧ v2 = -2 ∧ M1 = M2) ∨ (inW x1 1 20 = true ∧ v2 = M1 149 2 ∧ M2 = g_st M1 149 2 x1))) : v1 = v2 ∧ IvX M2 := by
  have hh := h_pace h P1
  obtain ⟨-, P1⟩ := P1
  obtain ⟨-, P2⟩ := P2
  rcases P1 with ⟨hw, rfl, rfl⟩ | ⟨hw, rfl, rfl⟩
  · rcases P2 with ⟨-, rfl, rfl⟩ | ⟨hw2, -⟩
    · exact ⟨rfl, h.x h.1.gC (frM.rf _)⟩
    · rw [hw] at hw2; cases hw2
  · rcases P2 with ⟨hw2, -⟩ | ⟨-, rfl, rfl⟩
    · rw [hw] at hw2; cases hw2
    · refine ⟨?_, ⟨_, _, _, _, _, _, _, _, _, h.cfg (N := g_st (g_st (g_st M 8 1 x1) 9 10 0) 149 2 x1) ?_ ?_ ?_ ?_ ?_ ?_⟩⟩
      · rw [hh 149 (by decide)]; exact h.2.1.2.1.1.symm
      · intro a b z1 z2 z3 z4
        rw [g_st_ap, if_neg (by omega), g_st_ap, if_neg (by omega), g_st_ap, if_neg (by omega)]
      · rfl
      · rfl
      · exact h.2.1.2.1.2.1
      · exact h.2.1.2.1.2.2
      · exact h.1.g
set_option maxHeartbeats 2000000 in
theorem h_net {M M1 : g_M} {L L1 : g_L} {v1 : Int32} {x1 x2 : Int32} {n e nx kp fa : Nat} {c : pS} {A : Nat → aR} {cs : Nat → pS} {Es : Nat → Nat} (h : Iv M n e nx kp fa c A cs Es) (P1 : L = L1 ∧ (((inW x1 1 50 && inW x2 0 200) = false ∧ v1 = -2 ∧ M = M1) ∨ (inW x1 1 50 = true ∧ inW x2 0 200 = true ∧ v1 = 0 ∧ M1 = g_st (g_st (g_st M 7 1 x1) 7 2 x2) 9 10 0))) : hiE M M1 := by
  obtain ⟨-, ⟨-, -, rfl⟩ | ⟨-, -, -, rfl⟩⟩ := P1
  · exact hiE.rf M
  · exact (((hiE.rf M).st (by decide) 1 x1).st (by decide) 2 x2).st (by decide) 10 0
set_option maxHeartbeats 2000000 in
theorem s_net {M M1 : g_M} {L L1 : g_L} {v1 : Int32} {x1 x2 : Int32} {n e nx kp fa : Nat} {c : pS} {A : Nat → aR} {cs : Nat → pS} {Es : Nat → Nat} (h : Iv M n e nx kp fa c A cs Es) {M2 : g_M} {L2 : g_L} {v2 : Int32} (P1 : L = L1 ∧ (((inW x1 1 50 && inW x2 0 200) = false ∧ v1 = -2 ∧ M = M1) ∨ (inW x1 1 50 = true ∧ inW x2 0 200 = true ∧ v1 = 0 ∧ M1 = g_st (g_st (g_st M 7 1 x1) 7 2 x2) 9 10 0))) (P2 : L1 = L2 ∧ (((inW x1 1 50 && inW x2 0 200) = false ∧ v2 = -2 ∧ M1 = M2) ∨ (inW x1 1 50 = true ∧ inW x2 0 200 = true ∧ v2 = 0 ∧ M2 = g_st (g_st M1 149 3 x1) 149 4 x2))) : v1 = v2 ∧ IvX M2 := by
  obtain ⟨-, P1⟩ := P1
  obtain ⟨-, P2⟩ := P2
  rcases P1 with ⟨hw, rfl, rfl⟩ | ⟨hw, hw3, rfl, rfl⟩
  · rcases P2 with ⟨-, rfl, rfl⟩ | ⟨hw2, hw3, -⟩
    · exact ⟨rfl, h.x h.1.gC (frM.rf _)⟩
    · rw [hw2, hw3] at hw; cases hw
  · rcases P2 with ⟨hw2, -⟩ | ⟨-, -, rfl, rfl⟩
    · rw [hw, hw3] at hw2; cases hw2
    · refine ⟨rfl, ⟨_, _, _, _, _, _, _, _, _, h.cfg (N := g_st (g_st (g_st (g_st (g_st M 7 1 x1) 7 2 x2) 9 10 0) 149 3 x1) 149 4 x2) ?_ ?_ ?_ ?_ ?_ ?_⟩⟩
      · intro a b z1 z2 z3 z4
        rw [g_st_ap, if_neg (by omega), g_st_ap, if_neg (by omega), g_st_ap, if_neg (by omega), g_st_ap, if_neg (by omega), g_st_ap, if_neg (by omega)]
      · rfl
      · exact h.2.1.2.1.1
      · rfl
      · rfl
      · have hz := (of_decide_eq_true hw).1
        rw [i_le] at hz
        exact hz
theorem dotM_o (M : g_M) {n : Nat} {h x y w : Int32} {a : Nat} (h1 : a ≠ 1) (h2 : ¬ (2 ≤ a ∧ a ≤ 6)) (h3 : a ≠ 54) (h4 : a ≠ 9) : dotM M n h x y w a = M a := by
  funext b
  unfold dotM sk_add
  rw [g_st_ap, if_neg (by omega), g_st_ap, if_neg (by omega), g_st_ap, if_neg (by omega), g_st_ap, if_neg (by omega), g_st_ap, if_neg (by omega), g_st_ap, if_neg (by omega), g_st_ap, if_neg (by omega), g_st_ap, if_neg (by omega)]
theorem dotM_5 (M : g_M) {n : Nat} {h x y w : Int32} (b : Nat) : dotM M n h x y w 2 b = (if b = n then h else M 2 b) ∧ dotM M n h x y w 3 b = (if b = n then x else M 3 b) ∧ dotM M n h x y w 4 b = (if b = n then y else M 4 b) ∧ dotM M n h x y w 5 b = (if b = n then w else M 5 b) ∧ dotM M n h x y w 6 b = (if b = n then -1 else M 6 b) := by
  unfold dotM sk_add
  by_cases hb : b = n
  · subst hb
    simp [g_st_ap]
  · simp [g_st_ap, hb]
theorem mdotM_o (M : g_M) {n : Nat} {h x y w : Int32} {a : Nat} (h1 : a ≠ 149) (h2 : ¬ (150 ≤ a ∧ a ≤ 154)) : mdotM M n h x y w a = M a := by
  funext b
  unfold mdotM
  rw [g_st_ap, if_neg (by omega), g_st_ap, if_neg (by omega), g_st_ap, if_neg (by omega), g_st_ap, if_neg (by omega), g_st_ap, if_neg (by omega), g_st_ap, if_neg (by omega), g_st_ap, if_neg (by omega)]
theorem mdotM_5 (M : g_M) {n : Nat} {h x y w : Int32} (b : Nat) : mdotM M n h x y w 150 b = (if b = n then h else M 150 b) ∧ mdotM M n h x y w 151 b = (if b = n then x else M 151 b) ∧ mdotM M n h x y w 152 b = (if b = n then y else M 152 b) ∧ mdotM M n h x y w 153 b = (if b = n then w else M 153 b) ∧ mdotM M n h x y w 154 b = (if b = n then -1 else M 154 b) := by
  unfold mdotM
  by_cases hb : b = n
  · subst hb
    simp [g_st_ap]
  · simp [g_st_ap, hb]
theorem mdotM_149 (M : g_M) {n : Nat} {h x y w : Int32} (b : Nat) : mdotM M n h x y w 149 b = if b = 26 then 0 else if b = 0 then nI (n + 1) else M 149 b := by
  unfold mdotM
  by_cases h1 : b = 26
  · subst h1
    simp [g_st_ap]
  · by_cases h2 : b = 0
    · subst h2
      simp [g_st_ap]
    · simp [g_st_ap, h1, h2]
set_option maxHeartbeats 2000000 in
theorem h_dot {M M1 : g_M} {L L1 : g_L} {v1 : Int32} {x1 x2 x3 x4 : Int32} {n e nx kp fa : Nat} {c : pS} {A : Nat → aR} {cs : Nat → pS} {Es : Nat → Nat} (h : Iv M n e nx kp fa c A cs Es) (P1 : L = L1 ∧ ((dOK x1 x2 x3 x4 = false ∧ v1 = -2 ∧ M = M1) ∨ (dOK x1 x2 x3 x4 = true ∧ ((¬ sf (fun e => decide (M 2 e = x1 ∧ M 3 e = x2 ∧ M 4 e = x3)) 0 n = -1 ∧ v1 = sf (fun e => decide (M 2 e = x1 ∧ M 3 e = x2 ∧ M 4 e = x3)) 0 n ∧ M = M1) ∨ (sf (fun e => decide (M 2 e = x1 ∧ M 3 e = x2 ∧ M 4 e = x3)) 0 n = -1 ∧ ((n = 60 ∧ v1 = -4 ∧ M = M1) ∨ (n < 60 ∧ v1 = nI n ∧ M1 = dotM M n x1 x2 x3 x4))))))) : hiE M M1 := by
  obtain ⟨-, ⟨-, -, rfl⟩ | ⟨-, ⟨-, -, rfl⟩ | ⟨-, ⟨-, -, rfl⟩ | ⟨-, -, rfl⟩⟩⟩⟩ := P1
  · exact hiE.rf M
  · exact hiE.rf M
  · exact hiE.rf M
  · exact fun a ha => dotM_o M (by omega) (by omega) (by omega) (by omega)
set_option maxHeartbeats 2000000 in
theorem s_dot {M M1 : g_M} {L L1 : g_L} {v1 : Int32} {x1 x2 x3 x4 : Int32} {n e nx kp fa : Nat} {c : pS} {A : Nat → aR} {cs : Nat → pS} {Es : Nat → Nat} (h : Iv M n e nx kp fa c A cs Es) {M2 : g_M} {L2 : g_L} {v2 : Int32} (P1 : L = L1 ∧ ((dOK x1 x2 x3 x4 = false ∧ v1 = -2 ∧ M = M1) ∨ (dOK x1 x2 x3 x4 = true ∧ ((¬ sf (fun e => decide (M 2 e = x1 ∧ M 3 e = x2 ∧ M 4 e = x3)) 0 n = -1 ∧ v1 = sf (fun e => decide (M 2 e = x1 ∧ M 3 e = x2 ∧ M 4 e = x3)) 0 n ∧ M = M1) ∨ (sf (fun e => decide (M 2 e = x1 ∧ M 3 e = x2 ∧ M 4 e = x3)) 0 n = -1 ∧ ((n = 60 ∧ v1 = -4 ∧ M = M1) ∨ (n < 60 ∧ v1 = nI n ∧ M1 = dotM M n x1 x2 x3 x4))))))) (P2 : L1 = L2 ∧ ((dOK x1 x2 x3 x4 = false ∧ v2 = -2 ∧ M1 = M2) ∨ (dOK x1 x2 x3 x4 = true ∧ ((¬ sf (fun e => decide (M1 150 e = x1 ∧ M1 151 e = x2 ∧ M1 152 e = x3)) 0 n = -1 ∧ v2 = sf (fun e => decide (M1 150 e = x1 ∧ M1 151 e = x2 ∧ M1 152 e = x3)) 0 n ∧ M1 = M2) ∨ (sf (fun e => decide (M1 150 e = x1 ∧ M1 151 e = x2 ∧ M1 152 e = x3)) 0 n = -1 ∧ ((n = 60 ∧ v2 = -4 ∧ M1 = M2) ∨ (n < 60 ∧ v2 = nI n ∧ M2 = mdotM M1 n x1 x2 x3 x4))))))) : v1 = v2 ∧ IvX M2 := by
  have hh := h_dot h P1
  obtain ⟨-, P1⟩ := P1
  obtain ⟨-, P2⟩ := P2
  have e150 : M1 150 = M 2 := (hh 150 (by decide)).trans h.2.1.2.2.1.1
  have e151 : M1 151 = M 3 := (hh 151 (by decide)).trans h.2.1.2.2.1.2.1
  have e152 : M1 152 = M 4 := (hh 152 (by decide)).trans h.2.1.2.2.1.2.2.1
  rw [e150, e151, e152] at P2
  rcases P1 with ⟨h1, rfl, rfl⟩ | ⟨h1, P1⟩
  · rcases P2 with ⟨-, rfl, rfl⟩ | ⟨h2, -⟩
    · exact ⟨rfl, h.x h.1.gC (frM.rf _)⟩
    · rw [h1] at h2; cases h2
  rcases P2 with ⟨h2, -⟩ | ⟨-, P2⟩
  · rw [h1] at h2; cases h2
  rcases P1 with ⟨h3, rfl, rfl⟩ | ⟨h3, P1⟩
  · rcases P2 with ⟨-, rfl, rfl⟩ | ⟨h2, -⟩
    · exact ⟨rfl, h.x h.1.gC (frM.rf _)⟩
    · exact absurd h2 h3
  rcases P2 with ⟨h2, -⟩ | ⟨-, P2⟩
  · exact absurd h3 h2
  rcases P1 with ⟨h4, rfl, rfl⟩ | ⟨h4, rfl, rfl⟩
  · rcases P2 with ⟨-, rfl, rfl⟩ | ⟨h2, -⟩
    · exact ⟨rfl, h.x h.1.gC (frM.rf _)⟩
    · omega
  rcases P2 with ⟨h2, -⟩ | ⟨-, rfl, rfl⟩
  · omega
  refine ⟨rfl, ⟨n + 1, e, nx, 0, fa, c, A, cs, Es, ?_⟩⟩
  have qo : ∀ a, a ≠ 1 → ¬ (2 ≤ a ∧ a ≤ 6) → a ≠ 54 → a ≠ 9 → a ≠ 149 → ¬ (150 ≤ a ∧ a ≤ 154) → mdotM (dotM M n x1 x2 x3 x4) n x1 x2 x3 x4 a = M a := fun a z1 z2 z3 z4 z5 z6 => (mdotM_o _ z5 z6).trans (dotM_o M z1 z2 z3 z4)
  have ql : ∀ a, a < 149 → mdotM (dotM M n x1 x2 x3 x4) n x1 x2 x3 x4 a = dotM M n x1 x2 x3 x4 a := fun a z => mdotM_o _ (by omega) (by omega)
  have q149 : ∀ b, b ≠ 26 → b ≠ 0 → mdotM (dotM M n x1 x2 x3 x4) n x1 x2 x3 x4 149 b = M 149 b := fun b z1 z2 => by rw [mdotM_149, if_neg z1, if_neg z2, dotM_o M (by decide) (by decide) (by decide) (by decide)]
  obtain ⟨hC, ⟨⟨a1, a2, a3, a4, a5⟩, ⟨b1, b2, b3⟩, ⟨c1, c2, c3, c4, c5⟩, d1, e1, f1⟩, hp, ho, h0, hhs⟩ := h
  have s5 := fun b => dotM_5 M (n := n) (h := x1) (x := x2) (y := x3) (w := x4) b
  have t5 := fun b => mdotM_5 (dotM M n x1 x2 x3 x4) (n := n) (h := x1) (x := x2) (y := x3) (w := x4) b
  refine ⟨⟨?_, by omega, ?_, hC.e.2, fun p hp => ⟨(hC.r hp).1.cg (qo _ (by omega) (by omega) (by omega) (by omega) (by omega) (by omega)) (qo _ (by omega) (by omega) (by omega) (by omega) (by omega) (by omega)), (hC.r hp).2⟩, fun p z1 z2 => hC.z z1 z2, ?_, ⟨?_, hC.a.2.1, ?_, by omega⟩, Or.inl ?_⟩, ⟨⟨?_, ?_, ?_, ?_, a5⟩, ⟨?_, ?_, ?_⟩, ⟨?_, ?_, ?_, ?_, ?_⟩, fun d hd => ?_, fun p hp => ?_, fun p hp => ?_⟩, ⟨hp.1, fun p hp12 => ⟨(hp.2.1 p hp12).1, fun i hi => Nat.lt_succ_of_lt ((hp.2.1 p hp12).2 i hi)⟩, hp.2.2⟩, fun d hd => ?_, h0, fun i hi => by omega⟩
  · rw [ql 1 (by decide)]; rfl
  · rw [qo 16 (by decide) (by decide) (by decide) (by decide) (by decide) (by decide)]; exact hC.e.1
  · rw [qo 7 (by decide) (by decide) (by decide) (by decide) (by decide) (by decide)]; exact hC.g
  · rw [ql 54 (by decide)]
    show dotM M n x1 x2 x3 x4 54 1 = nI nx
    unfold dotM sk_add
    rw [g_st_ap, if_neg (by omega), g_st_ap, if_neg (by omega), g_st_ap, if_neg (by omega), g_st_ap, if_neg (by omega), g_st_ap, if_neg (by omega), g_st_ap, if_neg (by omega), g_st_ap, if_neg (by omega), g_st_ap, if_neg (by omega)]
    exact hC.a.1
  · rw [ql 54 (by decide)]; rfl
  · rw [ql 9 (by decide)]; rfl
  · rw [mdotM_149, if_neg (by decide), if_pos rfl]
  · rw [q149 1 (by decide) (by decide)]; exact a2
  · rw [mdotM_149, if_pos rfl]; rfl
  · rw [q149 27 (by decide) (by decide)]; exact a4
  · rw [q149 2 (by decide) (by decide), qo 8 (by decide) (by decide) (by decide) (by decide) (by decide) (by decide)]; exact b1
  · rw [q149 3 (by decide) (by decide), qo 7 (by decide) (by decide) (by decide) (by decide) (by decide) (by decide)]; exact b2
  · rw [q149 4 (by decide) (by decide), qo 7 (by decide) (by decide) (by decide) (by decide) (by decide) (by decide)]; exact b3
  · funext b; rw [(t5 b).1, ql 2 (by decide), (s5 b).1, e150]
  · funext b; rw [(t5 b).2.1, ql 3 (by decide), (s5 b).2.1, e151]
  · funext b; rw [(t5 b).2.2.1, ql 4 (by decide), (s5 b).2.2.1, e152]
  · funext b; rw [(t5 b).2.2.2.1, ql 5 (by decide), (s5 b).2.2.2.1, hh 153 (by decide), c4]
  · funext b; rw [(t5 b).2.2.2.2, ql 6 (by decide), (s5 b).2.2.2.2, hh 154 (by decide), c5]
  · rw [ql 2 (by decide), (s5 d).1]
    split
    · unfold dOK at h1
      rw [Bool.and_eq_true] at h1
      have hz := of_decide_eq_true h1.1
      rw [i_le, i_le] at hz
      exact hz
    · exact d1 d (by omega)
  · rw [qo 155 (by decide) (by decide) (by decide) (by decide) (by decide) (by decide), qo (18 + 3 * p) (by omega) (by omega) (by omega) (by omega) (by omega) (by omega), qo 158 (by decide) (by decide) (by decide) (by decide) (by decide) (by decide)]; exact e1 p hp
  · rw [qo 156 (by decide) (by decide) (by decide) (by decide) (by decide) (by decide), qo 157 (by decide) (by decide) (by decide) (by decide) (by decide) (by decide)]; exact f1 p hp
  · rw [ql 6 (by decide), (s5 d).2.2.2.2]
    by_cases hdn : d = n
    · rw [if_pos hdn]
      refine ⟨fun p i hl hi hr => ?_, fun _ => rfl⟩
      have hp12 : p < 12 := by have := hp.1 p hl; have := hC.e.2; omega
      have := (hp.2.1 p hp12).2 i hi
      omega
    · rw [if_neg hdn]
      exact ho d (by omega)
/-! an act more -/
def shf {α : Type} (x : α) (f : Nat → α) : Nat → α := fun i => match i with
  | 0 => x
  | i + 1 => f i
theorem hst_act {M M2 : g_M} {n e nx kp fa e2 : Nat} {c c2 : pS} {a : aR} {A : Nat → aR} {cs : Nat → pS} {Es : Nat → Nat} (h : hst M n e nx kp fa A cs Es) (h0 : cs 0 = c) (hx : nx < 30) (hk : kp ≤ 30) (hf : fa < 30) (hund : c = und c2 a) (haok : aOK c2 a) (hp : pOK c n e) (he : e ≤ e2) (hact : acT M2 nx a) (hsn : snT M2 ((fa + kp) % 30) e c) (old1 : ∀ j, j < 30 → j ≠ nx → M2 (56 + 3 * j) = M (56 + 3 * j) ∧ M2 (57 + 3 * j) = M (57 + 3 * j) ∧ M2 (57 + 3 * j + 1) = M (57 + 3 * j + 1)) (old2 : ∀ k, k < 30 → k ≠ (fa + kp) % 30 → M2 164 k = M 164 k ∧ ∀ p, p < 12 → M2 165 (12 * k + p) = M 165 (12 * k + p) ∧ M2 167 (12 * k + p) = M 167 (12 * k + p) ∧ ∀ i, i < 8 → M2 166 ((12 * k + p) * 8 + i) = M 166 ((12 * k + p) * 8 + i)) : hst M2 n e2 ((nx + 1) % 30) (min (kp + 1) 30) (kfa fa kp) (shf a A) (shf c2 cs) (shf e Es) := by
  intro i hi
  match i, hi with
  | 0, hi =>
    have e1 : ((nx + 1) % 30 + 29 - 0) % 30 = nx := by omega
    have e2' : (kfa fa kp + (min (kp + 1) 30 - 1 - 0)) % 30 = (fa + kp) % 30 := by
      unfold kfa
      split <;> omega
    rw [e1, e2']
    refine ⟨hact, haok, ?_, ?_, ?_, he⟩
    · show cs 0 = _
      rw [h0]; exact hund
    · show snT M2 _ e (cs 0)
      rw [h0]; exact hsn
    · show pOK (cs 0) n e
      rw [h0]; exact hp
  | i + 1, hi =>
    have hi2 : i < kp := by omega
    have hi3 : i < 29 := by omega
    obtain ⟨y1, y2, y3, y4, y5, y6⟩ := h i hi2
    have e1 : ((nx + 1) % 30 + 29 - (i + 1)) % 30 = (nx + 29 - i) % 30 := by omega
    have e2' : (kfa fa kp + (min (kp + 1) 30 - 1 - (i + 1))) % 30 = (fa + (kp - 1 - i)) % 30 := by
      unfold kfa
      split <;> omega
    rw [e1, e2']
    obtain ⟨o1, o2, o3⟩ := old1 ((nx + 29 - i) % 30) (by omega) (by omega)
    obtain ⟨w1, w2⟩ := old2 ((fa + (kp - 1 - i)) % 30) (by omega) (by omega)
    refine ⟨y1.mv o1 o2 o3, y2, y3, ⟨by rw [w1]; exact y4.1, y4.2.1, fun p hp2 => ?_⟩, y5, Nat.le_trans y6 he⟩
    have hp2 : p < Es i := hp2
    have hp12 : p < 12 := by have := y4.2.1; omega
    obtain ⟨z1, z2, z3⟩ := w2 p hp12
    obtain ⟨u1, u2, u3⟩ := y4.2.2 p hp2
    refine ⟨by rw [z1]; exact u1, by rw [z2]; exact u2, fun q hq => ?_⟩
    have hq8 := (szF_le y5 hp12).1
    rw [z3 q (by show q < 8; exact Nat.lt_of_lt_of_le hq hq8)]
    exact u3 q hq
/-! owners -/
def upP (c : pS) (sw : Option Nat) (p l2 : Nat) (r2 : Nat → Nat) : pS := (fun q => if sw = some q then false else c.1 q, fun q => if q = p then l2 else c.2.1 q, fun q => if q = p then r2 else c.2.2 q)
theorem own_upd {F H : Nat → Int32} {c : pS} {n e p l2 : Nat} {r2 : Nat → Nat} {sw : Option Nat} (h12 : e ≤ 12) (hp : pOK c n e) (ho : oOK F c n) (hl : c.1 p = true) (hl2 : l2 ≤ 8) (hsw : ∀ g, sw = some g → g ≠ p ∧ ∀ j, j < c.2.1 g → ∃ i, i < l2 ∧ r2 i = c.2.2 g j) (hnew : ∀ i, i < l2 → r2 i < n ∧ ((∃ j, j < c.2.1 p ∧ c.2.2 p j = r2 i) ∨ F (r2 i) = -1 ∨ ∃ g j, sw = some g ∧ c.1 g = true ∧ j < c.2.1 g ∧ c.2.2 g j = r2 i)) (g1 : ∀ d, (∃ q, q < l2 ∧ r2 q = d) → H d = nI p) (g2 : ∀ d, (∀ q, q < l2 → r2 q ≠ d) → (∃ q, q < c.2.1 p ∧ c.2.2 p q = d) → H d = -1) (g3 : ∀ d, (∀ q, q < l2 → r2 q ≠ d) → (∀ q, q < c.2.1 p → c.2.2 p q ≠ d) → H d = F d) : pOK (upP c sw p l2 r2) n e ∧ oOK H (upP c sw p l2 r2) n := by
  have hpe := hp.1 p hl
  have hswp : sw ≠ some p := fun z => (hsw p z).1 rfl
  have lv : ∀ q, (upP c sw p l2 r2).1 q = true → c.1 q = true ∧ sw ≠ some q := fun q z => by
    show c.1 q = true ∧ sw ≠ some q
    have z : (if sw = some q then false else c.1 q) = true := z
    by_cases hq : sw = some q
    · rw [if_pos hq] at z; cases z
    · rw [if_neg hq] at z; exact ⟨z, hq⟩
  have lnp : (upP c sw p l2 r2).2.1 p = l2 := if_pos rfl
  have rfp : (upP c sw p l2 r2).2.2 p = r2 := if_pos rfl
  have lnq : ∀ q, q ≠ p → (upP c sw p l2 r2).2.1 q = c.2.1 q := fun q z => if_neg z
  have rfq : ∀ q, q ≠ p → (upP c sw p l2 r2).2.2 q = c.2.2 q := fun q z => if_neg z
  -- a dot of another live path is no new one
  have key : ∀ q i, c.1 q = true → sw ≠ some q → q ≠ p → i < c.2.1 q → ∀ k, k < l2 → r2 k ≠ c.2.2 q i := fun q i z1 z2 z3 z4 k hk he => by
    have hq12 : q < 12 := by have := hp.1 q z1; omega
    have hdn := (hp.2.1 q hq12).2 i z4
    have hF := (ho _ hdn).1 q i z1 z4 rfl
    rcases (hnew k hk).2 with ⟨j, hj, hr⟩ | hz | ⟨g, j, hg, hlg, hj, hr⟩
    · exact z3 (hp.2.2.2 p q j i hl z1 hj z4 (hr.trans he)).symm
    · rw [he, hF] at hz
      exact nI_m1 (by omega) hz
    · have := hp.2.2.2 g q j i hlg z1 hj z4 (hr.trans he)
      exact z2 (by rw [← this]; exact hg)
  refine ⟨⟨fun q z => hp.1 q (lv q z).1, fun q hq => ?_, fun q h1 h2 => ?_, fun q1 q2 i j z1 z2 hi hj he => ?_⟩, fun d hd => ⟨fun q i z hi he => ?_, fun hno => ?_⟩⟩
  · by_cases hqp : q = p
    · subst hqp
      rw [lnp, rfp]
      exact ⟨hl2, fun i hi => (hnew i hi).1⟩
    · rw [lnq q hqp, rfq q hqp]
      exact hp.2.1 q hq
  · rw [lnq q (by omega)]
    exact hp.2.2.1 q h1 h2
  · obtain ⟨u1, u2⟩ := lv q1 z1
    obtain ⟨w1, w2⟩ := lv q2 z2
    by_cases h1 : q1 = p
    · by_cases h2 : q2 = p
      · rw [h1, h2]
      · subst h1
        rw [lnp] at hi
        rw [lnq q2 h2] at hj
        rw [rfp, rfq q2 h2] at he
        exact absurd he (key q2 j w1 w2 h2 hj i hi)
    · by_cases h2 : q2 = p
      · subst h2
        rw [lnp] at hj
        rw [lnq q1 h1] at hi
        rw [rfp, rfq q1 h1] at he
        exact absurd he.symm (key q1 i u1 u2 h1 hi j hj)
      · rw [lnq q1 h1] at hi
        rw [lnq q2 h2] at hj
        rw [rfq q1 h1, rfq q2 h2] at he
        exact hp.2.2.2 q1 q2 i j u1 w1 hi hj he
  · obtain ⟨u1, u2⟩ := lv q z
    by_cases hqp : q = p
    · subst hqp
      rw [lnp] at hi
      rw [rfp] at he
      exact g1 d ⟨i, hi, he⟩
    · rw [lnq q hqp] at hi
      rw [rfq q hqp] at he
      rw [g3 d (fun k hk => by rw [← he]; exact key q i u1 u2 hqp hi k hk) (fun k hk hz => hqp (hp.2.2.2 p q k i hl u1 hk hi (hz.trans he.symm)).symm)]
      exact (ho d hd).1 q i u1 hi he
  · have hnr : ∀ k, k < l2 → r2 k ≠ d := fun k hk hz => by
      refine hno p k ?_ (by rw [lnp]; exact hk) (by rw [rfp]; exact hz)
      show (if sw = some p then false else c.1 p) = true
      rw [if_neg hswp]; exact hl
    by_cases hold : ∃ q, q < c.2.1 p ∧ c.2.2 p q = d
    · exact g2 d hnr hold
    · have hold2 : ∀ q, q < c.2.1 p → c.2.2 p q ≠ d := fun q hq hz => hold ⟨q, hq, hz⟩
      rw [g3 d hnr hold2]
      refine (ho d hd).2 (fun q i z hi hz => ?_)
      by_cases hqp : q = p
      · subst hqp
        exact hold2 i hi hz
      · by_cases hq : sw = some q
        · obtain ⟨k, hk, hr⟩ := (hsw q hq).2 i hi
          exact hnr k hk (hr.trans hz)
        · refine hno q i ?_ (by rw [lnq q hqp]; exact hi) (by rw [rfq q hqp]; exact hz)
          show (if sw = some q then false else c.1 q) = true
          rw [if_neg hq]; exact z
theorem oOK_eq {F H : Nat → Int32} {c : pS} {n : Nat} (h1 : oOK F c n) (h2 : oOK H c n) (h3 : ∀ d, n ≤ d → F d = H d) : F = H := by
  funext d
  by_cases hd : d < n
  · by_cases hx : ∃ p i, c.1 p = true ∧ i < c.2.1 p ∧ c.2.2 p i = d
    · obtain ⟨p, i, z1, z2, z3⟩ := hx
      rw [(h1 d hd).1 p i z1 z2 z3, (h2 d hd).1 p i z1 z2 z3]
    · have hn : ∀ p i, c.1 p = true → i < c.2.1 p → c.2.2 p i ≠ d := fun p i z1 z2 z3 => hx ⟨p, i, z1, z2, z3⟩
      rw [(h1 d hd).2 hn, (h2 d hd).2 hn]
  · exact h3 d (by omega)
theorem oz_ok {K : g_M} {c : pS} {n e : Nat} {sz : Nat → Nat} {rr : Nat → Nat → Nat} (hp : pOK c n e) (hs : ∀ p, sz p = szF c p) (hr : ∀ p i, i < szF c p → rr p i = c.2.2 p i) (h12 : e ≤ 12) : oOK (oz (ow1 K n) sz rr e 154) c n ∧ ∀ d, n ≤ d → oz (ow1 K n) sz rr e 154 d = K 154 d := by
  have lz : ∀ p i, i < sz p → c.1 p = true ∧ i < c.2.1 p ∧ rr p i = c.2.2 p i := fun p i hi => by
    rw [hs p] at hi
    have e1 := hr p i hi
    unfold szF at hi
    by_cases hl : c.1 p = true
    · rw [if_pos hl] at hi
      exact ⟨hl, hi, e1⟩
    · rw [if_neg hl] at hi
      omega
  have zl : ∀ p i, c.1 p = true → i < c.2.1 p → i < sz p ∧ rr p i = c.2.2 p i := fun p i hl hi => by
    have e1 : i < szF c p := by unfold szF; rw [if_pos hl]; exact hi
    exact ⟨by rw [hs p]; exact e1, hr p i e1⟩
  refine ⟨fun d hd => ⟨fun p i hl hi he => ?_, fun hno => ?_⟩, fun d hd => ?_⟩
  · obtain ⟨y1, y2⟩ := zl p i hl hi
    refine oz_in _ sz rr (fun q j hj hz => ?_) y1 (y2.trans he) e (hp.1 p hl)
    obtain ⟨u1, u2, u3⟩ := lz q j hj
    exact hp.2.2.2 q p j i u1 hl u2 hi ((u3.symm.trans hz).trans he.symm)
  · rw [oz_no _ sz rr e (fun p i _ hi hz => by
      obtain ⟨u1, u2, u3⟩ := lz p i hi
      exact hno p i u1 u2 (u3.symm.trans hz))]
    unfold ow1
    rw [if_pos ⟨rfl, hd⟩]
  · rw [oz_no _ sz rr e (fun p i hpe hi hz => by
      obtain ⟨u1, u2, u3⟩ := lz p i hi
      have := (hp.2.1 p (by omega)).2 i u2
      omega)]
    unfold ow1
    rw [if_neg (by omega)]
