/-! ===== part ===== -/
def bc (m b : Nat) : Prop := pop8 m < pop8 b ∨ (pop8 m = pop8 b ∧ b < m)
def br (s b : Nat) : Prop := pop8 s < pop8 b ∨ (pop8 s = pop8 b ∧ rv8 b < rv8 s)
theorem btr_br {s b : Nat} (hs : s < 256) (hb : b < 256) : btr s b = true ↔ br s b := by
  have h := low_ok s hs b hb
  unfold btr br
  rw [h]
  by_cases h1 : pop8 s < pop8 b
  · simp [h1]
  · by_cases h2 : pop8 s = pop8 b
    · simp [h2]
    · simp [h1, h2]
theorem ptL_ok {T : Nat → Bool} : ∀ {n b : Nat}, n ≤ b → (ptL T n b = b ∨ (ptL T n b < n ∧ T (ptL T n b) = true ∧ pop8 (ptL T n b) < pop8 b)) ∧ ∀ m, m < n → T m = true → ¬ bc m (ptL T n b)
  | 0, b, _ => ⟨Or.inl rfl, fun m hm => by omega⟩
  | n + 1, b, h => by
    rw [ptL]
    by_cases hc : pop8 n < pop8 b ∧ T n = true
    · rw [if_pos hc]
      obtain ⟨h1, h2⟩ := ptL_ok (T := T) (n := n) (b := n) (Nat.le_refl n)
      generalize ptL T n n = R at h1 h2
      refine ⟨Or.inr ?_, fun m hm hT => ?_⟩
      · rcases h1 with rfl | ⟨a1, a2, a3⟩
        · exact ⟨by omega, hc.2, hc.1⟩
        · exact ⟨by omega, a2, by omega⟩
      · by_cases hmn : m = n
        · subst hmn
          unfold bc
          rcases h1 with rfl | ⟨a1, a2, a3⟩ <;> omega
        · exact h2 m (by omega) hT
    · rw [if_neg hc]
      obtain ⟨h1, h2⟩ := ptL_ok (T := T) (n := n) (b := b) (by omega)
      generalize ptL T n b = R at h1 h2
      refine ⟨?_, fun m hm hT => ?_⟩
      · rcases h1 with rfl | ⟨a1, a2, a3⟩
        · exact Or.inl rfl
        · exact Or.inr ⟨by omega, a2, a3⟩
      · by_cases hmn : m = n
        · subst hmn
          have hge : pop8 b ≤ pop8 m := Nat.le_of_not_lt (fun z => hc ⟨z, hT⟩)
          unfold bc
          rcases h1 with rfl | ⟨a1, a2, a3⟩ <;> omega
        · exact h2 m (by omega) hT
theorem br_tr {a b c : Nat} (h1 : br a b) (h2 : br b c) : br a c := by
  unfold br at *
  omega
theorem mp_ok {T : Nat → Bool} {b : Nat} (hb : b < 256) : ∀ {i : Nat}, i ≤ 256 → (mp T b i = b ∨ (mp T b i < i ∧ T (mp T b i) = true)) ∧ (∀ s, s < i → T s = true → ¬ br s (mp T b i)) ∧ ¬ br b (mp T b i)
  | 0, _ => ⟨Or.inl rfl, fun s hs => by omega, by unfold br mp; omega⟩
  | i + 1, hi => by
    obtain ⟨h1, h2, h3⟩ := mp_ok (T := T) hb (i := i) (by omega)
    have hlt : mp T b i < 256 := by
      rcases h1 with h1 | h1
      · rw [h1]; exact hb
      · omega
    rw [mp]
    by_cases hc : (btr i (mp T b i) && T i) = true
    · rw [if_pos hc]
      rw [Bool.and_eq_true, btr_br (by omega) hlt] at hc
      refine ⟨Or.inr ⟨by omega, hc.2⟩, fun s hs hT => ?_, fun z => h3 (br_tr z hc.1)⟩
      by_cases hsi : s = i
      · subst hsi
        unfold br
        omega
      · exact fun z => h2 s (by omega) hT (br_tr z hc.1)
    · rw [if_neg hc]
      refine ⟨?_, fun s hs hT => ?_, h3⟩
      · rcases h1 with h1 | h1
        · exact Or.inl h1
        · exact Or.inr ⟨by omega, h1.2⟩
      · by_cases hsi : s = i
        · subst hsi
          intro z
          apply hc
          rw [Bool.and_eq_true, btr_br (by omega) hlt]
          exact ⟨z, hT⟩
        · exact h2 s (by omega) hT
/-- both find the same -/
theorem scan_eq {T V : Nat → Bool} {l : Nat} (hl : l < 9) (hTV : ∀ m, m < 2 ^ l → T m = V (rv l m)) : mp V (2 ^ l - 1) (2 ^ l) = rv l (ptL T (2 ^ l) (2 ^ l - 1)) ∧ ptL T (2 ^ l) (2 ^ l - 1) < 2 ^ l := by
  obtain ⟨c1, c2, c3, c4, c5⟩ := rv_b0 l hl
  have e0 : ptL T (2 ^ l) (2 ^ l - 1) = ptL T (2 ^ l - 1) (2 ^ l - 1) := by
    have hz : ∀ k, k = 2 ^ l - 1 → ptL T (k + 1) (2 ^ l - 1) = ptL T k (2 ^ l - 1) := fun k hk => by
      rw [ptL, if_neg (by rw [hk]; omega)]
    have := hz (2 ^ l - 1) rfl
    rw [show 2 ^ l - 1 + 1 = 2 ^ l by omega] at this
    exact this
  rw [e0]
  obtain ⟨h1, h2⟩ := ptL_ok (T := T) (n := 2 ^ l - 1) (b := 2 ^ l - 1) (Nat.le_refl _)
  obtain ⟨g1, g2, g3⟩ := mp_ok (T := V) (b := 2 ^ l - 1) (by omega) (i := 2 ^ l) c4
  generalize ptL T (2 ^ l - 1) (2 ^ l - 1) = R at h1 h2
  generalize mp V (2 ^ l - 1) (2 ^ l) = S at g1 g2 g3
  generalize hp : 2 ^ l = pw at *
  have hR : R < pw := by rcases h1 with h1 | h1 <;> omega
  have hS : S < pw := by rcases g1 with g1 | g1 <;> omega
  have oR := rv_ok l hl R (by rw [hp]; exact hR)
  have oS := rv_ok l hl S (by rw [hp]; exact hS)
  have o8 : rv8 S = rv l S * 2 ^ (8 - l) := by
    have := (rv_ok l hl (rv l S) (by rw [hp]; have := oS.1; rw [hp] at this; exact this)).2.2.2
    rw [oS.2.1] at this
    exact this
  refine ⟨?_, hR⟩
  -- the class's is no worse than the reference's, and the other way
  have n1 : ¬ br (rv l R) S := by
    rcases h1 with h1 | ⟨a1, a2, a3⟩
    · rw [h1, c1]; exact g3
    · refine g2 _ (by have := oR.1; rw [hp] at this; exact this) ?_
      rw [← hTV R hR]; exact a2
  have n2 : ¬ bc (rv l S) R := by
    rcases g1 with g1 | ⟨a1, a2⟩
    · rw [g1, c1]
      unfold bc
      rcases h1 with rfl | ⟨a1, a2, a3⟩ <;> omega
    · have hls : rv l S < pw := by have := oS.1; rw [hp] at this; exact this
      by_cases hz : rv l S = pw - 1
      · rw [hz]
        unfold bc
        rcases h1 with rfl | ⟨a1, a2, a3⟩ <;> omega
      · refine h2 (rv l S) (by omega) ?_
        rw [hTV _ hls, oS.2.1]
        exact a2
  unfold br at n1
  unfold bc at n2
  rw [oR.2.2.1, oR.2.2.2, o8] at n1
  rw [oS.2.2.1] at n2
  have hpos : 0 < 2 ^ (8 - l) := c5
  have heq : R = rv l S := by
    have hpe : pop8 R = pop8 S := by omega
    have q1 : ¬ rv l S * 2 ^ (8 - l) < R * 2 ^ (8 - l) := fun z => n1 (Or.inr ⟨hpe, z⟩)
    have q2 : ¬ R < rv l S := fun z => n2 (Or.inr ⟨hpe.symm, z⟩)
    have q3 : ¬ rv l S < R := fun z => q1 (Nat.mul_lt_mul_of_pos_right z hpos)
    omega
  rw [heq, oS.2.1]
theorem kS_cg {Q T : Nat → Bool} : ∀ {l : Nat}, (∀ i, i < l → Q i = T i) → kS Q l = kS T l
  | 0, _ => rfl
  | l + 1, h => by rw [kS, kS, h l (by omega), kS_cg (l := l) (fun i hi => h i (by omega))]
theorem stQ_sw {l m : Nat} (hl : l < 9) (hm : m < 2 ^ l) : ∀ i, i < l → stQ (nI m) l i = swQ (rv l m) i := fun i hi => by
  obtain ⟨c1, c2, c3, c4, c5⟩ := rv_b0 l hl
  obtain ⟨o1, -, -, -⟩ := rv_ok l hl m hm
  unfold stQ swQ
  have e1 : nI l - 1 - nI i = nI (l - 1 - i) := by
    rw [show (1 : Int32) = nI 1 from rfl, pk_sub (by omega), pk_sub (by omega)]
  rw [e1, sw_bit m (by omega) (l - 1 - i) (by omega), sw_bit (rv l m) (by omega) i (by omega), rv_bit l hl m hm i hi]
theorem kS_pop0 : ∀ l, l < 9 → ∀ s, s < 2 ^ l → (kS (fun i => decide (s / 2 ^ i % 2 = 0)) l).1 + pop8 s = l := by decide +kernel
theorem kS_pop {l s : Nat} (hl : l < 9) (hs : s < 2 ^ l) : (kS (swQ s) l).1 + pop8 s = l := by
  obtain ⟨c1, c2, c3, c4, c5⟩ := rv_b0 l hl
  have h := kS_pop0 l hl s hs
  rw [kS_cg (T := fun i => decide (s / 2 ^ i % 2 = 0)) (fun i hi => ?_)]
  · exact h
  · unfold swQ
    rw [sw_bit s (by omega) i (by omega)]
    have hz : s / 2 ^ i % 2 = 0 ∨ s / 2 ^ i % 2 = 1 := by omega
    rcases hz with hz | hz
    · rw [hz]; decide
    · rw [hz]; decide
section PT
variable {M M1 : g_M} {n e nx kp fa : Nat} {c : pS} {A : Nat → aR} {cs : Nat → pS} {Es : Nat → Nat}
theorem Iv.pt (h : Iv M n e nx kp fa c A cs Es) (q : hiE M M1) {r : Nat → Nat} {l : Nat} (hl : l < 9) : mpB M1 r l = rv l (ptB M r l) ∧ ptB M r l < 2 ^ l := by
  unfold mpB ptB
  refine scan_eq hl (fun m hm => ?_)
  unfold ptS mS
  rw [h.eS q, kS_cg (stQ_sw hl hm)]
end PT
set_option maxHeartbeats 2000000 in
theorem tie_pt {M N M1 N2 M2 : g_M} {n e nx kp fa p m : Nat} {c : pS} {A : Nat → aR} {cs : Nat → pS} {Es : Nat → Nat} (h : Iv M n e nx kp fa c A cs Es) (hpe : p < e) (hl : c.1 p = true) (hN : gC M N n) (h2 : rok N 147 (kS (swQ m) (c.2.1 p)).1 (fun j => c.2.2 p ((kS (swQ m) (c.2.1 p)).2 j))) (hM1 : M1 = chg N p nx kp (c.2.1 p) (kS (swQ m) (c.2.1 p)).1 (c.2.2 p) (fun j => c.2.2 p ((kS (swQ m) (c.2.1 p)).2 j))) (hN2 : frM M1 N2) (hM2 : M2 = ptM N2 n e fa kp p (szF c p) m (szF c) c.2.2) : IvX M2 := by
  have h12 := h.e12
  have hp12 : p < 12 := by omega
  have hs := szF_live hl
  have hx := h.1.a.2.1
  have hpk := h.2.2.1
  have hok := h.2.2.2.1
  have hCN := cI_gC h.1 hN
  have hrp := hCN.r hp12
  obtain ⟨har, hcf, e6⟩ := hN.1.a1
  rw [hs] at hM2
  have hkl := kS_le (swQ m) (c.2.1 p)
  have hkt := kS_lt (swQ m) (c.2.1 p)
  have h8 : (kS (swQ m) (c.2.1 p)).1 ≤ 8 := Nat.le_trans hkl hrp.2
  generalize hl2 : (kS (swQ m) (c.2.1 p)).1 = l2 at *
  generalize hr2 : (fun j => c.2.2 p ((kS (swQ m) (c.2.1 p)).2 j)) = r2 at *
  have hrr : ∀ j, r2 j = c.2.2 p ((kS (swQ m) (c.2.1 p)).2 j) := fun j => by rw [← hr2]
  have hnew : ∀ i, i < l2 → r2 i < n ∧ ((∃ j, j < c.2.1 p ∧ c.2.2 p j = r2 i) ∨ M 6 (r2 i) = -1 ∨ ∃ g j, (none : Option Nat) = some g ∧ c.1 g = true ∧ j < c.2.1 g ∧ c.2.2 g j = r2 i) := fun i hi => by
    rw [hrr]
    exact ⟨(hpk.2.1 p hp12).2 _ (hkt i hi), Or.inl ⟨_, hkt i hi, rfl⟩⟩
  obtain ⟨o1, o2, o3⟩ := chg_own N (p := p) (nx := nx) (kp := kp) (l := c.2.1 p) (l2 := l2) (r := c.2.2 p) (r2 := r2) hp12 hx
  rw [← hM1] at o1 o2 o3
  rw [e6] at o3
  have hown := own_upd (F := M 6) (H := M1 6) (sw := none) h12 hpk hok hl h8 (fun g z => by cases z) hnew o1 o2 o3
  have hh : hiE M M1 := by rw [hM1]; exact hN.1.hi.trans (chg_hi hp12 hx)
  have k15 : ∀ a b, 150 ≤ a → a ≤ 158 → mKP N2 fa kp a b = M a b := fun a b z1 z2 => by
    rw [mKP_o _ _ _ _ (by omega) (by omega), hN2 a b (by omega) (by omega), hh a (by omega)]
  have hoz := oz_ok (K := g_st (cpM (mKP N2 fa kp) p (swQ m) (c.2.1 p)) 156 p (nI l2)) (c := upP c none p l2 r2) (sz := fun q => if q = p then l2 else szF c q) (rr := fun q => if q = p then r2 else c.2.2 q) hown.1 (fun q => (szF_up hl).symm) (fun q i _ => rfl) h12
  have hM2' : M2 = oz (ow1 (g_st (cpM (mKP N2 fa kp) p (swQ m) (c.2.1 p)) 156 p (nI l2)) n) (fun q => if q = p then l2 else szF c q) (fun q => if q = p then r2 else c.2.2 q) e := by
    rw [hM2]
    unfold ptM
    rw [hl2, hr2]
  have m2 : ∀ a b, a ≠ 154 → M2 a b = g_st (cpM (mKP N2 fa kp) p (swQ m) (c.2.1 p)) 156 p (nI l2) a b := fun a b z => by rw [hM2', oz_o _ _ _ _ z, ow1_o _ _ _ z]
  rw [← hM2'] at hoz
  have hcI := chg_cI (p := p) (l2 := l2) (r2 := r2) hCN.j h2 hpe h8
  rw [← hM1] at hcI
  refine act_fin (c2 := upP c none p l2 r2) (a := (p, c.2.1 p, c.2.2 p, false, none)) (N := N2) (M1 := M1) h hh hN2 hcI und_up ⟨hp12, (h.1.r hp12).2, ?_, (fun z => by cases z), fun g z => by cases z⟩ (Nat.le_refl e) hown.1 hown.2 ?_ (fun j hj hne => ?_) ?_ ?_ (fun a b z1 z2 => ?_) ?_ ?_ (fun q hq => ?_) (fun q hq => ?_)
  · show (if (none : Option Nat) = some p then false else c.1 p) = true
    rw [if_neg (by simp)]; exact hl
  · rw [hM1]; exact chg_act hp12 hx hrp.1
  · rw [hM1]
    obtain ⟨y1, y2, y3⟩ := chg_old (N := N) (kp := kp) (p := p) (l := c.2.1 p) (l2 := l2) (r := c.2.2 p) (r2 := r2) hp12 hx hj hne
    obtain ⟨w1, w2, w3⟩ := hN.1.act hj
    exact ⟨y1.trans w1, y2.trans w2, y3.trans w3⟩
  · rw [hM1, chg_o N (by omega) (by omega) (by omega) (by omega) (by omega) (by omega) (by omega) (by omega), chg_o N (by omega) (by omega) (by omega) (by omega) (by omega) (by omega) (by omega) (by omega)]; exact hcf
  · rw [hM1, chg_o N (by omega) (by omega) (by omega) (by omega) (by omega) (by omega) (by omega) (by omega), chg_o N (by omega) (by omega) (by omega) (by omega) (by omega) (by omega) (by omega) (by omega), chg_o N (by omega) (by omega) (by omega) (by omega) (by omega) (by omega) (by omega) (by omega), chg_o N (by omega) (by omega) (by omega) (by omega) (by omega) (by omega) (by omega) (by omega)]; exact har
  · rw [m2 a b (by omega), g_st_ap, if_neg (by omega), cpM_o _ _ _ _ _ (by omega)]
  · rw [m2 149 1 (by decide), g_st_ap, if_neg (by omega), cpM_o _ _ _ _ _ (by decide), mKP_149, if_neg (by decide), if_neg (by decide), hN2 149 1 (by decide) (by decide), hh 149 (by decide)]
    exact h.2.1.1.2.1
  · refine (oOK_eq hoz.1 hown.2 (fun d hd => ?_))
    have n1 : ∀ q, q < l2 → r2 q ≠ d := fun q hq => by have := (hnew q hq).1; omega
    have n2 : ∀ q, q < c.2.1 p → c.2.2 p q ≠ d := fun q hq => by have := (hpk.2.1 p hp12).2 q hq; omega
    rw [hoz.2 d hd, g_st_ap, if_neg (by omega), cpM_o _ _ _ _ _ (by decide), k15 154 d (by omega) (by omega), h.2.1.2.2.1.2.2.2.2, o3 d n1 n2]
  · have ew : M1 (18 + 3 * q) = M (18 + 3 * q) := by rw [hM1, chg_o N (by omega) (by omega) (by omega) (by omega) (by omega) (by omega) (by omega) (by omega)]; exact hN.1.wan hq
    rw [ew, goF_up, m2 155 q (by decide), m2 158 q (by decide), g_st_ap, if_neg (by omega), g_st_ap, if_neg (by omega), cpM_o _ _ _ _ _ (by decide), cpM_o _ _ _ _ _ (by decide), k15 155 q (by omega) (by omega), k15 158 q (by omega) (by omega)]
    exact h.2.1.2.2.2.2.1 q hq
  · obtain ⟨f1, f2⟩ := h.2.1.2.2.2.2.2 q hq
    rw [szF_up hl]
    by_cases hqp : q = p
    · subst hqp
      rw [if_pos rfl]
      rw [hs] at f1 f2
      have er : (upP c none q l2 r2).2.2 q = r2 := if_pos rfl
      rw [er]
      refine ⟨by rw [m2 156 q (by decide), g_st_ap, if_pos ⟨rfl, rfl⟩], fun i hi => ?_⟩
      rw [m2 157 _ (by decide), g_st_ap, if_neg (by omega)]
      unfold cpM
      rw [hl2, if_pos ⟨rfl, by omega, by omega⟩, Nat.add_sub_cancel_left, k15 157 _ (by omega) (by omega), hrr]
      exact f2 _ (hkt i hi)
    · rw [if_neg hqp]
      have h8q := (szF_le hpk hq).1
      have er : (upP c none p l2 r2).2.2 q = c.2.2 q := if_neg hqp
      rw [er]
      refine ⟨by rw [m2 156 q (by decide), g_st_ap, if_neg (by omega), cpM_o _ _ _ _ _ (by decide), k15 156 q (by omega) (by omega)]; exact f1, fun i hi => ?_⟩
      rw [m2 157 _ (by decide), g_st_ap, if_neg (by omega)]
      unfold cpM
      rw [hl2, if_neg (by omega), k15 157 _ (by omega) (by omega)]
      exact f2 i hi
set_option maxHeartbeats 2000000 in
theorem h_part {M M1 : g_M} {L L1 : g_L} {v1 : Int32} {x1 : Int32} {n e nx kp fa : Nat} {c : pS} {A : Nat → aR} {cs : Nat → pS} {Es : Nat → Nat} (h : Iv M n e nx kp fa c A cs Es) (P1 : L = L1 ∧ ((cHas M x1 = false ∧ v1 = -1 ∧ gC M M1 n) ∨ ∃ p, p < e ∧ x1 = nI p ∧ M (18 + 3 * p) 1 = 0 ∧ ((ptB M (c.2.2 p) (c.2.1 p) = 0 ∧ v1 = 0 ∧ gC M M1 n) ∨ (¬ ptB M (c.2.2 p) (c.2.1 p) = 0 ∧ v1 = nI (c.2.1 p - ptN M (c.2.2 p) (c.2.1 p)) ∧ ∃ N, gC M N n ∧ rok N 147 (ptN M (c.2.2 p) (c.2.1 p)) (ptR M (c.2.2 p) (c.2.1 p)) ∧ M1 = chg N p nx kp (c.2.1 p) (ptN M (c.2.2 p) (c.2.1 p)) (c.2.2 p) (ptR M (c.2.2 p) (c.2.1 p)))))) : hiE M M1 := by
  have h12 := h.e12
  obtain ⟨-, ⟨-, -, hg⟩ | ⟨p, hp, rfl, hg0, ⟨-, -, hg⟩ | ⟨-, -, N, hg, -, rfl⟩⟩⟩ := P1
  · exact hg.1.hi
  · exact hg.1.hi
  · exact hg.1.hi.trans (chg_hi (by omega) h.1.a.2.1)
set_option maxHeartbeats 2000000 in
theorem s_part {M M1 : g_M} {L L1 : g_L} {v1 : Int32} {x1 : Int32} {n e nx kp fa : Nat} {c : pS} {A : Nat → aR} {cs : Nat → pS} {Es : Nat → Nat} (h : Iv M n e nx kp fa c A cs Es) {M2 : g_M} {L2 : g_L} {v2 : Int32} (P1 : L = L1 ∧ ((cHas M x1 = false ∧ v1 = -1 ∧ gC M M1 n) ∨ ∃ p, p < e ∧ x1 = nI p ∧ M (18 + 3 * p) 1 = 0 ∧ ((ptB M (c.2.2 p) (c.2.1 p) = 0 ∧ v1 = 0 ∧ gC M M1 n) ∨ (¬ ptB M (c.2.2 p) (c.2.1 p) = 0 ∧ v1 = nI (c.2.1 p - ptN M (c.2.2 p) (c.2.1 p)) ∧ ∃ N, gC M N n ∧ rok N 147 (ptN M (c.2.2 p) (c.2.1 p)) (ptR M (c.2.2 p) (c.2.1 p)) ∧ M1 = chg N p nx kp (c.2.1 p) (ptN M (c.2.2 p) (c.2.1 p)) (c.2.2 p) (ptR M (c.2.2 p) (c.2.1 p)))))) (P2 : L1 = L2 ∧ ((mHas M1 e x1 = false ∧ v2 = -1 ∧ frM M1 M2) ∨ ∃ p, p < e ∧ x1 = nI p ∧ M1 158 p = 0 ∧ (((mpB M1 (c.2.2 p) ((szF c) p)) = 0 ∧ v2 = 0 ∧ frM M1 M2) ∨ (¬ (mpB M1 (c.2.2 p) ((szF c) p)) = 0 ∧ v2 = nI (pop8 (mpB M1 (c.2.2 p) ((szF c) p))) ∧ ∃ N, frM M1 N ∧ M2 = ptM N n e fa kp p ((szF c) p) (mpB M1 (c.2.2 p) ((szF c) p)) (szF c) c.2.2)))) : v1 = v2 ∧ IvX M2 := by
  have hh := h_part h P1
  have h12 := h.e12
  obtain ⟨-, P1⟩ := P1
  obtain ⟨-, P2⟩ := P2
  rw [h.has hh] at P2
  rcases P1 with ⟨hc, rfl, hg⟩ | ⟨p, hp, rfl, hg0, P1⟩
  · rcases P2 with ⟨-, rfl, hf⟩ | ⟨p, hp, rfl, hg0, -⟩
    · exact ⟨rfl, h.x hg hf⟩
    · rw [h.p0 hh hp] at hg0
      rw [cHas_p h.1.e.1 h12 hp hg0] at hc
      cases hc
  rcases P2 with ⟨hc2, -⟩ | ⟨p2, hp2, he, -, P2⟩
  · rw [cHas_p h.1.e.1 h12 hp hg0] at hc2
    cases hc2
  have hpp := nIe hp hp2 (by omega) he
  subst hpp
  have hs := h.sz hp hg0
  have h8 : c.2.1 p < 9 := by have := (h.1.r (p := p) (by omega)).2; omega
  obtain ⟨q1, q2⟩ := h.pt hh (r := c.2.2 p) h8
  obtain ⟨c1, c2, c3, c4, c5⟩ := rv_b0 (c.2.1 p) h8
  obtain ⟨w1, w2, w3, -⟩ := rv_ok (c.2.1 p) h8 _ q2
  have eK := kS_cg (stQ_sw h8 q2)
  rw [hs, q1] at P2
  rcases P1 with ⟨h1, rfl, hg⟩ | ⟨h1, rfl, N, hg, hr, hM1⟩
  · rcases P2 with ⟨-, rfl, hf⟩ | ⟨h3, -⟩
    · exact ⟨rfl, h.x hg hf⟩
    · exact absurd (by rw [h1, c2]) h3
  rcases P2 with ⟨h3, -⟩ | ⟨-, rfl, N2, hf, hM2⟩
  · exact absurd (by rw [← w2, h3, c2]) h1
  have eN : ptN M (c.2.2 p) (c.2.1 p) = (kS (swQ (rv (c.2.1 p) (ptB M (c.2.2 p) (c.2.1 p)))) (c.2.1 p)).1 := by
    unfold ptN
    rw [eK]
  have eR : ptR M (c.2.2 p) (c.2.1 p) = fun j => c.2.2 p ((kS (swQ (rv (c.2.1 p) (ptB M (c.2.2 p) (c.2.1 p)))) (c.2.1 p)).2 j) := by
    unfold ptR
    rw [eK]
  rw [eN, eR] at hr hM1
  refine ⟨?_, tie_pt h hp (h.live hp hg0) hg hr hM1 hf (by rw [hs]; exact hM2)⟩
  have hpop := kS_pop h8 w1
  rw [eN]
  congr 1
  omega
