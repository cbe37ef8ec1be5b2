/-! ===== start, single ===== -/
theorem cI_cg2 {M N : g_M} {n e nx kp : Nat} {ln : Nat → Nat} {rf : Nat → Nat → Nat} (h : cI M n e nx kp ln rf) (h9 : N 9 10 = 0) (hq : ∀ a, (a = 1 ∨ a = 7 ∨ a = 16 ∨ a = 54 ∨ ∃ p, p < 12 ∧ (a = 19 + 3 * p ∨ a = 19 + 3 * p + 1)) → N a = M a) : cI N n e nx kp ln rf := by
  refine ⟨?_, h.n.2, ?_, h.e.2, fun p hp => ⟨(h.r hp).1.cg (hq _ (Or.inr (Or.inr (Or.inr (Or.inr ⟨p, hp, Or.inl rfl⟩))))) (hq _ (Or.inr (Or.inr (Or.inr (Or.inr ⟨p, hp, Or.inr rfl⟩))))), (h.r hp).2⟩, fun p h1 h2 => h.z h1 h2, ?_, ⟨?_, h.a.2.1, ?_, h.a.2.2.2⟩, Or.inl h9⟩
  · rw [hq 1 (Or.inl rfl)]; exact h.n.1
  · rw [hq 16 (Or.inr (Or.inr (Or.inl rfl)))]; exact h.e.1
  · rw [hq 7 (Or.inr (Or.inl rfl))]; exact h.g
  · rw [hq 54 (Or.inr (Or.inr (Or.inr (Or.inl rfl))))]; exact h.a.1
  · rw [hq 54 (Or.inr (Or.inr (Or.inr (Or.inl rfl))))]; exact h.a.2.2.1
def liveP (c : pS) (e : Nat) : pS := (fun q => if q = e then true else c.1 q, c.2.1, c.2.2)
theorem live_ok {F : Nat → Int32} {c : pS} {n e : Nat} (hp : pOK c n e) (ho : oOK F c n) (h0 : c.2.1 e = 0) : pOK (liveP c e) n (e + 1) ∧ oOK F (liveP c e) n := by
  have lv : ∀ q i, (liveP c e).1 q = true → i < c.2.1 q → c.1 q = true := fun q i z hi => by
    have z : (if q = e then true else c.1 q) = true := z
    by_cases hq : q = e
    · subst hq; omega
    · rw [if_neg hq] at z; exact z
  refine ⟨⟨fun q z => ?_, hp.2.1, fun q h1 h2 => hp.2.2.1 q (by omega) h2, fun q1 q2 i j z1 z2 hi hj he => hp.2.2.2 q1 q2 i j (lv q1 i z1 hi) (lv q2 j z2 hj) hi hj he⟩, fun d hd => ⟨fun q i z hi he => (ho d hd).1 q i (lv q i z hi) hi he, fun hno => (ho d hd).2 (fun q i z hi => hno q i ?_ hi)⟩⟩
  · have z : (if q = e then true else c.1 q) = true := z
    by_cases hq : q = e
    · omega
    · rw [if_neg hq] at z
      have := hp.1 q z
      omega
  · show (if q = e then true else c.1 q) = true
    split
    · rfl
    · exact z
set_option maxHeartbeats 2000000 in
theorem tie_new {M N M1 N2 M2 : g_M} {n e nx kp fa l2 : Nat} {nm : Int32} {c : pS} {A : Nat → aR} {cs : Nat → pS} {Es : Nat → Nat} {r2 : Nat → Nat} (h : Iv M n e nx kp fa c A cs Es) (he12 : e < 12) (hN : gC M N n) (h2 : rok N 147 l2 r2) (h8 : l2 ≤ 8) (hf : ∀ i, i < l2 → r2 i < n ∧ M 6 (r2 i) = -1) (hM1 : M1 = bgn N e nm nx kp l2 (c.2.2 e) r2) (hN2 : frM M1 N2) (hM2 : M2 = cms (bgM (mKP N2 fa kp) e nm) e 0 r2 l2) : IvX M2 := by
  have hx := h.1.a.2.1
  have hpk := h.2.2.1
  have hok := h.2.2.2.1
  have hCN := cI_gC h.1 hN
  have h0 : c.2.1 e = 0 := hpk.2.2.1 e (Nat.le_refl e) he12
  have hne : c.1 e = false := Bool.eq_false_iff.mpr (fun z => by have := hpk.1 e z; omega)
  obtain ⟨har, hcf, e6⟩ := hN.1.a1
  -- the class before the change of the row
  have hN1 : ∀ a, a ≠ 18 + 3 * e → a ≠ 16 → g_st (g_st N (18 + 3 * e) 0 nm) 16 2 (nI (e + 1)) a = N a := fun a z1 z2 => st2_o N z1 z2
  have hJ : cJ (g_st (g_st N (18 + 3 * e) 0 nm) 16 2 (nI (e + 1))) n (e + 1) nx kp c.2.1 c.2.2 := by
    refine ⟨?_, hCN.n.2, ?_, he12, fun p hp => ⟨(hCN.r hp).1.cg (hN1 _ (by omega) (by omega)) (hN1 _ (by omega) (by omega)), (hCN.r hp).2⟩, fun p h1 h3 => hCN.z (by omega) h3, ?_, ⟨?_, hCN.a.2.1, ?_, hCN.a.2.2.2⟩⟩
    · rw [hN1 1 (by omega) (by omega)]; exact hCN.n.1
    · rw [g_st_ap, if_pos ⟨rfl, rfl⟩]
    · rw [hN1 7 (by omega) (by omega)]; exact hCN.g
    · rw [hN1 54 (by omega) (by omega)]; exact hCN.a.1
    · rw [hN1 54 (by omega) (by omega)]; exact hCN.a.2.2.1
  have h147 : rok (g_st (g_st N (18 + 3 * e) 0 nm) 16 2 (nI (e + 1))) 147 l2 r2 := h2.cg (hN1 147 (by omega) (by omega)) (hN1 148 (by omega) (by omega))
  have hcI0 := chg_cI (p := e) (l2 := l2) (r2 := r2) hJ h147 (by omega) h8
  rw [h0] at hcI0
  have hrow : rok (g_st (g_st N (18 + 3 * e) 0 nm) 16 2 (nI (e + 1))) (19 + 3 * e) 0 (c.2.2 e) := by
    have hz := (hJ.2.2.2.2.1 e he12).1
    rw [h0] at hz
    exact hz
  have hM1' : M1 = g_st (chg (g_st (g_st N (18 + 3 * e) 0 nm) 16 2 (nI (e + 1))) e nx kp 0 l2 (c.2.2 e) r2) (56 + 3 * nx) 1 1 := hM1
  have hc6 : ∀ d, M1 6 d = chg (g_st (g_st N (18 + 3 * e) 0 nm) 16 2 (nI (e + 1))) e nx kp 0 l2 (c.2.2 e) r2 6 d := fun d => by rw [hM1', g_st_ap, if_neg (by omega)]
  have hN16 : g_st (g_st N (18 + 3 * e) 0 nm) 16 2 (nI (e + 1)) 6 = M 6 := (hN1 6 (by omega) (by omega)).trans e6
  generalize hNN : g_st (g_st N (18 + 3 * e) 0 nm) 16 2 (nI (e + 1)) = NN at hN1 hJ h147 hcI0 hrow hM1' hc6 hN16
  have hNNw : ∀ q b, q < 12 → NN (18 + 3 * q) b = if q = e ∧ b = 0 then nm else N (18 + 3 * q) b := fun q b hq => by
    rw [← hNN, g_st_ap, if_neg (by omega), g_st_ap]
    by_cases hqe : q = e ∧ b = 0
    · rw [if_pos hqe, if_pos ⟨by omega, hqe.2⟩]
    · rw [if_neg hqe, if_neg (by omega)]
  have co : ∀ a, a ≠ 9 → a ≠ 6 → a ≠ 19 + 3 * e → a ≠ 20 + 3 * e → a ≠ 54 → a ≠ 56 + 3 * nx → a ≠ 57 + 3 * nx → a ≠ 58 + 3 * nx → M1 a = NN a := fun a z1 z2 z3 z4 z5 z6 z7 z8 => by
    funext b
    rw [hM1', g_st_ap, if_neg (by omega), chg_o NN z1 z2 z3 z4 z5 z6 z7 z8]
  have hh : hiE M M1 := fun a ha => by
    rw [co a (by omega) (by omega) (by omega) (by omega) (by omega) (by omega) (by omega) (by omega), hN1 a (by omega) (by omega)]
    exact hN.1.hi a ha
  obtain ⟨o1, o2, o3⟩ := chg_own NN (p := e) (nx := nx) (kp := kp) (l := 0) (l2 := l2) (r := c.2.2 e) (r2 := r2) he12 hx
  obtain ⟨hpl, hol⟩ := live_ok hpk hok h0
  have hle : (liveP c e).1 e = true := if_pos rfl
  have hnew : ∀ i, i < l2 → r2 i < n ∧ ((∃ j, j < (liveP c e).2.1 e ∧ (liveP c e).2.2 e j = r2 i) ∨ M 6 (r2 i) = -1 ∨ ∃ g j, (none : Option Nat) = some g ∧ (liveP c e).1 g = true ∧ j < (liveP c e).2.1 g ∧ (liveP c e).2.2 g j = r2 i) := fun i hi => ⟨(hf i hi).1, Or.inr (Or.inl (hf i hi).2)⟩
  have nol : ∀ d, ¬ ∃ q, q < (liveP c e).2.1 e ∧ (liveP c e).2.2 e q = d := fun d => by
    rintro ⟨q, hq, -⟩
    have hq : q < c.2.1 e := hq
    omega
  have hown := own_upd (F := M 6) (H := M1 6) (sw := none) (e := e + 1) (c := liveP c e) (p := e) (by omega) hpl hol hle h8 (fun g z => by cases z) hnew (fun d hd => by rw [hc6]; exact o1 d hd) (fun d _ hz => absurd hz (nol d)) (fun d hd _ => by rw [hc6, o3 d hd (fun q hq => by omega), hN16])
  have hN154 : ∀ d, bgM (mKP N2 fa kp) e nm 154 d = M 6 d := fun d => by
    rw [bgM_o _ _ _ _ (by decide) (by decide) (by decide) (by decide), mKP_o _ _ _ _ (by decide) (by decide), hN2 154 d (by omega) (by omega), hh 154 (by decide), h.2.1.2.2.1.2.2.2.2]
  have hown2 := own_upd (F := M 6) (H := M2 154) (sw := none) (e := e + 1) (c := liveP c e) (p := e) (by omega) hpl hol hle h8 (fun g z => by cases z) hnew (fun d hd => by rw [hM2]; exact cms_in _ _ hd) (fun d _ hz => absurd hz (nol d)) (fun d hd _ => by rw [hM2, cms_no _ _ hd, hN154])
  refine act_fin (c2 := upP (liveP c e) none e l2 r2) (a := (e, 0, c.2.2 e, true, none)) (N := N2) (M1 := M1) (e2 := e + 1) h hh hN2 ?_ ?_ ⟨he12, Nat.zero_le 8, hle, fun _ => rfl, fun g z => by cases z⟩ (by omega) hown.1 hown.2 ?_ (fun j hj hne2 => ?_) ?_ ?_ (fun a b z1 z2 => ?_) ?_ ?_ (fun q hq => ?_) (fun q hq => ?_)
  · refine cI_cg2 hcI0 ?_ (fun a ha => ?_)
    · rw [hM1', g_st_ap, if_neg (by omega), chg_ap NN _ (by decide), if_pos ⟨rfl, rfl⟩]
    · funext b
      rw [hM1', g_st_ap, if_neg (by rcases ha with rfl | rfl | rfl | rfl | ⟨p, hp, rfl | rfl⟩ <;> omega)]
  · obtain ⟨lv, ln, rf⟩ := c
    have h0 : ln e = 0 := h0
    have hne : lv e = false := hne
    unfold und upP liveP
    refine Prod.ext ?_ (Prod.ext ?_ ?_)
    · funext q
      by_cases hq : q = e
      · subst hq; simp [hne]
      · simp [hq]
    · funext q
      by_cases hq : q = e
      · subst hq; simp [h0]
      · simp [hq]
    · funext q
      by_cases hq : q = e
      · subst hq; simp
      · simp [hq]
  · obtain ⟨y1, y2, y3, y4⟩ := chg_act (N := NN) (nx := nx) (kp := kp) (p := e) (l := 0) (l2 := l2) (r := c.2.2 e) (r2 := r2) he12 hx hrow
    refine ⟨?_, ?_, y3.cg ?_ ?_, ?_⟩
    · rw [hM1', g_st_ap, if_neg (by omega)]; exact y1
    · rw [hM1', g_st_ap, if_pos ⟨rfl, rfl⟩]; rfl
    · funext b; rw [hM1', g_st_ap, if_neg (by omega)]
    · funext b; rw [hM1', g_st_ap, if_neg (by omega)]
    · rw [hM1', g_st_ap, if_neg (by omega)]; exact y4
  · obtain ⟨w1, w2, w3⟩ := hN.1.act hj
    refine ⟨?_, ?_, ?_⟩
    · rw [co _ (by omega) (by omega) (by omega) (by omega) (by omega) (by omega) (by omega) (by omega), hN1 _ (by omega) (by omega)]; exact w1
    · rw [co _ (by omega) (by omega) (by omega) (by omega) (by omega) (by omega) (by omega) (by omega), hN1 _ (by omega) (by omega)]; exact w2
    · rw [co _ (by omega) (by omega) (by omega) (by omega) (by omega) (by omega) (by omega) (by omega), hN1 _ (by omega) (by omega)]; exact w3
  · rw [co 8 (by omega) (by omega) (by omega) (by omega) (by omega) (by omega) (by omega) (by omega), co 7 (by omega) (by omega) (by omega) (by omega) (by omega) (by omega) (by omega) (by omega), hN1 8 (by omega) (by omega), hN1 7 (by omega) (by omega)]; exact hcf
  · rw [co 2 (by omega) (by omega) (by omega) (by omega) (by omega) (by omega) (by omega) (by omega), co 3 (by omega) (by omega) (by omega) (by omega) (by omega) (by omega) (by omega) (by omega), co 4 (by omega) (by omega) (by omega) (by omega) (by omega) (by omega) (by omega) (by omega), co 5 (by omega) (by omega) (by omega) (by omega) (by omega) (by omega) (by omega) (by omega), hN1 2 (by omega) (by omega), hN1 3 (by omega) (by omega), hN1 4 (by omega) (by omega), hN1 5 (by omega) (by omega)]; exact har
  · rw [hM2, cms_o _ _ (by omega) (by omega) (by omega)]
    unfold bgM
    rw [g_st_ap, if_neg (by omega), g_st_ap, if_neg (by omega), g_st_ap, if_neg (by omega), g_st_ap, if_neg (by omega)]
  · rw [hM2, cms_o _ _ (by decide) (by decide) (by decide)]
    unfold bgM
    rw [g_st_ap, if_neg (by omega), g_st_ap, if_neg (by omega), g_st_ap, if_neg (by omega), g_st_ap, if_pos ⟨rfl, rfl⟩]
  · refine oOK_eq hown2.2 hown.2 (fun d hd => ?_)
    have n1 : ∀ q, q < l2 → r2 q ≠ d := fun q hq => by have := (hf q hq).1; omega
    rw [hM2, cms_no _ _ n1, hN154, hc6, o3 d n1 (fun q hq => by omega), hN16]
  · obtain ⟨w1, w2, w3⟩ := h.2.1.2.2.2.2.1 q hq
    have eg : goF (upP (liveP c e) none e l2 r2) (e + 1) q = goF c e q := by
      unfold goF upP liveP
      by_cases hqe : q = e
      · subst hqe; simp
      · have : decide (q < e + 1) = decide (q < e) := by
          by_cases hz : q < e
          · rw [decide_eq_true hz, decide_eq_true (by omega)]
          · rw [decide_eq_false hz, decide_eq_false (by omega)]
        simp [hqe, this]
    have ew : ∀ b, M1 (18 + 3 * q) b = if q = e ∧ b = 0 then nm else M (18 + 3 * q) b := fun b => by
      rw [co _ (by omega) (by omega) (by omega) (by omega) (by omega) (by omega) (by omega) (by omega), hNNw q b hq]
      by_cases hz : q = e ∧ b = 0
      · rw [if_pos hz, if_pos hz]
      · rw [if_neg hz, if_neg hz, hN.1.wan hq]
    have k155 : mKP N2 fa kp 155 q = M 155 q := by rw [mKP_o _ _ _ _ (by decide) (by decide), hN2 155 q (by omega) (by omega), hh 155 (by decide)]
    have k158 : mKP N2 fa kp 158 q = M 158 q := by rw [mKP_o _ _ _ _ (by decide) (by decide), hN2 158 q (by omega) (by omega), hh 158 (by decide)]
    rw [eg, hM2, cms_o _ _ (by decide) (by decide) (by decide), cms_o _ _ (by decide) (by decide) (by decide), ew, ew]
    refine ⟨?_, ?_, ?_⟩
    · unfold bgM
      rw [g_st_ap, if_neg (by omega), g_st_ap, if_neg (by omega), g_st_ap]
      by_cases hqe : q = e
      · rw [if_pos ⟨rfl, hqe⟩, if_pos ⟨hqe, rfl⟩]
      · rw [if_neg (by omega), if_neg (by omega), g_st_ap, if_neg (by omega), k155]; exact w1
    · rw [if_neg (by omega)]; exact w2
    · unfold bgM
      rw [g_st_ap]
      by_cases hqe : q = e
      · rw [if_pos ⟨rfl, hqe⟩]
        subst hqe
        have : goF c q q = false := by unfold goF; simp
        rw [this]; rfl
      · rw [if_neg (by omega), g_st_ap, if_neg (by omega), g_st_ap, if_neg (by omega), g_st_ap, if_neg (by omega), k158]; exact w3
  · have k156 : ∀ b, mKP N2 fa kp 156 b = M 156 b := fun b => by rw [mKP_o _ _ _ _ (by decide) (by decide), hN2 156 b (by omega) (by omega), hh 156 (by decide)]
    have k157 : ∀ b, mKP N2 fa kp 157 b = M 157 b := fun b => by rw [mKP_o _ _ _ _ (by decide) (by decide), hN2 157 b (by omega) (by omega), hh 157 (by decide)]
    obtain ⟨f1, f2⟩ := h.2.1.2.2.2.2.2 q hq
    rw [szF_up hle]
    by_cases hqe : q = e
    · subst hqe
      rw [if_pos rfl, hM2]
      have er : (upP (liveP c q) none q l2 r2).2.2 q = r2 := if_pos rfl
      rw [er]
      refine ⟨by rw [cms_156 _ (bgM_156 _ _ _) l2, Nat.zero_add], fun i hi => ?_⟩
      have hz := cms_157 (bgM (mKP N2 fa kp) q nm) (p := q) (l := 0) (f := r2) (j := i) l2 hi
      rw [Nat.zero_add] at hz
      exact hz
    · have es : szF (liveP c e) q = szF c q := by
        unfold szF liveP
        simp [hqe]
      have h8q := (szF_le hpk hq).1
      have er : (upP (liveP c e) none e l2 r2).2.2 q = c.2.2 q := if_neg hqe
      rw [if_neg hqe, es, er, hM2]
      refine ⟨?_, fun i hi => ?_⟩
      · rw [cms_156o _ hqe]
        unfold bgM
        rw [g_st_ap, if_neg (by omega), g_st_ap, if_neg (by omega), g_st_ap, if_neg (by omega), g_st_ap, if_neg (by omega), k156]
        exact f1
      · rw [cms_157o _ _ (by omega), bgM_o _ _ _ _ (by decide) (by decide) (by decide) (by decide), k157]
        exact f2 i hi
theorem bg_hi {M M1 : g_M} {n e nx kp l2 fa : Nat} {nm : Int32} {c : pS} {r2 : Nat → Nat} {v : Int32} {A : Nat → aR} {cs : Nat → pS} {Es : Nat → Nat} (h : Iv M n e nx kp fa c A cs Es) (hb : bgP M n e nx kp nm c.2.2 l2 r2 v M1) : hiE M M1 := by
  have h12 := h.e12
  have hx := h.1.a.2.1
  obtain ⟨-, -, hg⟩ | ⟨he, -, N, hg, -, rfl⟩ := hb
  · exact hg.1.hi
  · refine hg.1.hi.trans (fun a ha => ?_)
    funext b
    unfold bgn
    rw [g_st_ap, if_neg (by omega), chg_o _ (by omega) (by omega) (by omega) (by omega) (by omega) (by omega) (by omega) (by omega), st2_o N (by omega) (by omega)]
theorem tie_bg {M M1 M2 : g_M} {n e nx kp l2 fa : Nat} {nm v1 v2 : Int32} {c : pS} {r2 : Nat → Nat} {A : Nat → aR} {cs : Nat → pS} {Es : Nat → Nat} (h : Iv M n e nx kp fa c A cs Es) (h8 : l2 ≤ 8) (hf : ∀ i, i < l2 → r2 i < n ∧ M 6 (r2 i) = -1) (P1 : bgP M n e nx kp nm c.2.2 l2 r2 v1 M1) (P2 : mbgP M1 e fa kp nm l2 r2 v2 M2) : v1 = v2 ∧ IvX M2 := by
  rcases P1 with ⟨he, rfl, hg⟩ | ⟨he, rfl, N, hg, hr, hM1⟩
  · rcases P2 with ⟨-, rfl, hf⟩ | ⟨he2, -⟩
    · exact ⟨rfl, h.x hg hf⟩
    · omega
  · rcases P2 with ⟨he2, -⟩ | ⟨-, rfl, N2, hf2, hM2⟩
    · omega
    · exact ⟨rfl, tie_new h he hg hr h8 hf hM1 hf2 hM2⟩
theorem r4_free {M : g_M} {n : Nat} {x : Int32} {e0 : Nat × Nat} (h : getP (plE M n) x = some e0) : ∀ i, i < 4 → r4 (bl (cB M) n n) e0.1 e0.2 i < n ∧ M 6 (r4 (bl (cB M) n n) e0.1 e0.2 i) = -1 := by
  have hm : e0.1 < (bl (cB M) n n).length ∧ e0.2 < (bl (cB M) n n).length := by
    unfold getP plE at h
    split at h
    · split at h
      · simp at h
      · exact bl_mem (Nat.le_refl _) e0 (List.mem_of_getElem? h)
    · cases h
  have b1 := List.mem_of_getElem? (getD_some hm.1)
  have b2 := List.mem_of_getElem? (getD_some hm.2)
  have c1 := bl_mem (Nat.le_refl n) _ b1
  have c2 := bl_mem (Nat.le_refl n) _ b2
  have d1 := of_decide_eq_true (bl_is (P := cB M) (Nat.le_refl n) _ b1)
  have d2 := of_decide_eq_true (bl_is (P := cB M) (Nat.le_refl n) _ b2)
  intro i hi
  unfold r4
  split
  · exact ⟨c1.1, d1.2.1⟩
  · split
    · exact ⟨c1.2, d1.2.2.1⟩
    · split
      · exact ⟨c2.1, d2.2.1⟩
      · exact ⟨c2.2, d2.2.2.1⟩
set_option maxHeartbeats 2000000 in
theorem h_start {M M1 : g_M} {L L1 : g_L} {v1 : Int32} {x1 x2 : Int32} {n e nx kp fa : Nat} {c : pS} {A : Nat → aR} {cs : Nat → pS} {Es : Nat → Nat} (h : Iv M n e nx kp fa c A cs Es) (P1 : L = L1 ∧ ((getP (plE M n) x1 = none ∧ v1 = -1 ∧ gC M M1 n) ∨ ∃ e0, getP (plE M n) x1 = some e0 ∧ ((inW x2 0 999 = false ∧ v1 = -2 ∧ gC M M1 n) ∨ (inW x2 0 999 = true ∧ bgP M n e nx kp x2 c.2.2 4 (r4 (bl (cB M) n n) e0.1 e0.2) v1 M1)))) : hiE M M1 := by
  obtain ⟨-, ⟨-, -, hg⟩ | ⟨e0, -, ⟨-, -, hg⟩ | ⟨-, hb⟩⟩⟩ := P1
  · exact hg.1.hi
  · exact hg.1.hi
  · exact bg_hi h hb
set_option maxHeartbeats 2000000 in
theorem s_start {M M1 : g_M} {L L1 : g_L} {v1 : Int32} {x1 x2 : Int32} {n e nx kp fa : Nat} {c : pS} {A : Nat → aR} {cs : Nat → pS} {Es : Nat → Nat} (h : Iv M n e nx kp fa c A cs Es) {M2 : g_M} {L2 : g_L} {v2 : Int32} (P1 : L = L1 ∧ ((getP (plE M n) x1 = none ∧ v1 = -1 ∧ gC M M1 n) ∨ ∃ e0, getP (plE M n) x1 = some e0 ∧ ((inW x2 0 999 = false ∧ v1 = -2 ∧ gC M M1 n) ∨ (inW x2 0 999 = true ∧ bgP M n e nx kp x2 c.2.2 4 (r4 (bl (cB M) n n) e0.1 e0.2) v1 M1)))) (P2 : L1 = L2 ∧ ((getP (mplE M1 n) x1 = none ∧ v2 = -1 ∧ frM M1 M2) ∨ ∃ e0, getP (mplE M1 n) x1 = some e0 ∧ ((inW x2 0 999 = false ∧ v2 = -2 ∧ frM M1 M2) ∨ (inW x2 0 999 = true ∧ mbgP M1 e fa kp x2 4 (r4 (bl (mB M1) n n) e0.1 e0.2) v2 M2)))) : v1 = v2 ∧ IvX M2 := by
  have hh := h_start h P1
  obtain ⟨-, P1⟩ := P1
  obtain ⟨-, P2⟩ := P2
  rw [h.eE hh, h.eB hh] at P2
  rcases P1 with ⟨h1, rfl, hg⟩ | ⟨e0, h1, P1⟩
  · rcases P2 with ⟨-, rfl, hf⟩ | ⟨e0, h2, -⟩
    · exact ⟨rfl, h.x hg hf⟩
    · rw [h1] at h2; cases h2
  rcases P2 with ⟨h2, -⟩ | ⟨e1, h2, P2⟩
  · rw [h1] at h2; cases h2
  have hee : e0 = e1 := Option.some.inj (h1.symm.trans h2)
  subst hee
  rcases P1 with ⟨h3, rfl, hg⟩ | ⟨h3, P1⟩
  · rcases P2 with ⟨-, rfl, hf⟩ | ⟨h4, -⟩
    · exact ⟨rfl, h.x hg hf⟩
    · rw [h3] at h4; cases h4
  rcases P2 with ⟨h4, -⟩ | ⟨-, P2⟩
  · rw [h3] at h4; cases h4
  exact tie_bg h (by decide) (r4_free h1) P1 P2
set_option maxHeartbeats 2000000 in
theorem h_single {M M1 : g_M} {L L1 : g_L} {v1 : Int32} {x1 x2 : Int32} {n e nx kp fa : Nat} {c : pS} {A : Nat → aR} {cs : Nat → pS} {Es : Nat → Nat} (h : Iv M n e nx kp fa c A cs Es) (P1 : L = L1 ∧ ((dHas n x1 = false ∧ v1 = -1 ∧ gC M M1 n) ∨ ∃ d, d < n ∧ x1 = nI d ∧ ((inW x2 0 999 = false ∧ v1 = -2 ∧ gC M M1 n) ∨ (inW x2 0 999 = true ∧ (((¬ M 6 d = -1 ∨ snd M (fun _ => d) 1 = false) ∧ v1 = -3 ∧ gC M M1 n) ∨ (M 6 d = -1 ∧ snd M (fun _ => d) 1 = true ∧ bgP M n e nx kp x2 c.2.2 1 (fun _ => d) v1 M1)))))) : hiE M M1 := by
  obtain ⟨-, ⟨-, -, hg⟩ | ⟨d, hd, rfl, ⟨-, -, hg⟩ | ⟨-, ⟨-, -, hg⟩ | ⟨-, -, hb⟩⟩⟩⟩ := P1
  · exact hg.1.hi
  · exact hg.1.hi
  · exact hg.1.hi
  · exact bg_hi h hb
set_option maxHeartbeats 2000000 in
theorem s_single {M M1 : g_M} {L L1 : g_L} {v1 : Int32} {x1 x2 : Int32} {n e nx kp fa : Nat} {c : pS} {A : Nat → aR} {cs : Nat → pS} {Es : Nat → Nat} (h : Iv M n e nx kp fa c A cs Es) {M2 : g_M} {L2 : g_L} {v2 : Int32} (P1 : L = L1 ∧ ((dHas n x1 = false ∧ v1 = -1 ∧ gC M M1 n) ∨ ∃ d, d < n ∧ x1 = nI d ∧ ((inW x2 0 999 = false ∧ v1 = -2 ∧ gC M M1 n) ∨ (inW x2 0 999 = true ∧ (((¬ M 6 d = -1 ∨ snd M (fun _ => d) 1 = false) ∧ v1 = -3 ∧ gC M M1 n) ∨ (M 6 d = -1 ∧ snd M (fun _ => d) 1 = true ∧ bgP M n e nx kp x2 c.2.2 1 (fun _ => d) v1 M1)))))) (P2 : L1 = L2 ∧ ((dHas n x1 = false ∧ v2 = -1 ∧ frM M1 M2) ∨ ∃ d, d < n ∧ x1 = nI d ∧ ((inW x2 0 999 = false ∧ v2 = -2 ∧ frM M1 M2) ∨ (inW x2 0 999 = true ∧ (((¬ M1 154 d = -1 ∨ msnd M1 (fun _ => d) 1 = false) ∧ v2 = -3 ∧ frM M1 M2) ∨ (M1 154 d = -1 ∧ msnd M1 (fun _ => d) 1 = true ∧ mbgP M1 e fa kp x2 1 (fun _ => d) v2 M2)))))) : v1 = v2 ∧ IvX M2 := by
  have hh := h_single h P1
  have h60 := h.1.n.2
  obtain ⟨-, P1⟩ := P1
  obtain ⟨-, P2⟩ := P2
  rw [fre_m h hh, h.eS hh] at P2
  rcases P1 with ⟨h1, rfl, hg⟩ | ⟨d, hd, rfl, P1⟩
  · rcases P2 with ⟨-, rfl, hf⟩ | ⟨d, hd, rfl, -⟩
    · exact ⟨rfl, h.x hg hf⟩
    · rw [dHas_p (by omega) hd] at h1; cases h1
  rcases P2 with ⟨h2, -⟩ | ⟨d2, hd2, he, P2⟩
  · rw [dHas_p (by omega) hd] at h2; cases h2
  have hdd := nIe hd hd2 h60 he
  subst hdd
  rcases P1 with ⟨h3, rfl, hg⟩ | ⟨h3, P1⟩
  · rcases P2 with ⟨-, rfl, hf⟩ | ⟨h4, -⟩
    · exact ⟨rfl, h.x hg hf⟩
    · rw [h3] at h4; cases h4
  rcases P2 with ⟨h4, -⟩ | ⟨-, P2⟩
  · rw [h3] at h4; cases h4
  rcases P1 with ⟨h5, rfl, hg⟩ | ⟨h5, h6, P1⟩
  · rcases P2 with ⟨-, rfl, hf⟩ | ⟨h7, h8, -⟩
    · exact ⟨rfl, h.x hg hf⟩
    · rcases h5 with h5 | h5
      · exact absurd h7 h5
      · rw [h5] at h8; cases h8
  rcases P2 with ⟨h7, -⟩ | ⟨-, -, P2⟩
  · rcases h7 with h7 | h7
    · exact absurd h5 h7
    · rw [h6] at h7; cases h7
  exact tie_bg h (by decide) (fun i _ => ⟨hd, h5⟩) P1 P2
