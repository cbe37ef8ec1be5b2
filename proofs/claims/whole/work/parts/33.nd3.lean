/-! ===== NightDots: begin, lengthen, joinGroup, gatherBoth, lay ===== -/
theorem rpl_o (M : g_M) {p l l2 : Nat} {r r2 : Nat → Nat} {f : Nat → Int32} {a : Nat} (h1 : a ≠ 6) (h2 : a ≠ 19 + 3 * p) (h3 : a ≠ 20 + 3 * p) : rpl M p l l2 r r2 f a = M a := by
  funext b
  unfold rpl
  rw [pa_out _ _ _ _ h1, g_sr_out _ _ _ _ _ h2 (by omega), pa_out _ _ _ _ h1]
theorem chg_o (M : g_M) {p nx kp l l2 : Nat} {r r2 : Nat → Nat} {a : Nat} (h0 : a ≠ 9) (h1 : a ≠ 6) (h2 : a ≠ 19 + 3 * p) (h3 : a ≠ 20 + 3 * p) (h4 : a ≠ 54) (h5 : a ≠ 56 + 3 * nx) (h6 : a ≠ 57 + 3 * nx) (h7 : a ≠ 58 + 3 * nx) : chg M p nx kp l l2 r r2 a = M a := by
  funext b
  unfold chg
  rw [g_st_ap, if_neg (by omega), rpl_o _ h1 h2 h3, actK_o _ h4 h5 h6 h7]
def bgn (M : g_M) (e : Nat) (nm : Int32) (nx kp l2 : Nat) (r r2 : Nat → Nat) : g_M := g_st (chg (g_st (g_st M (18 + 3 * e) 0 nm) 16 2 (nI (e + 1))) e nx kp 0 l2 r r2) (56 + 3 * nx) 1 1
theorem st2_o (M : g_M) {e : Nat} {x y : Int32} {a : Nat} (h1 : a ≠ 18 + 3 * e) (h2 : a ≠ 16) : g_st (g_st M (18 + 3 * e) 0 x) 16 2 y a = M a := by
  funext b
  rw [g_st_ap, if_neg (by omega), g_st_ap, if_neg (by omega)]

set_option maxHeartbeats 4000000 in
set_option maxRecDepth 100000 in
theorem t_X10_begin (G : g_G) (M : g_M) (L : g_L) (nm : Int32) {e nx kp l2 : Nat} {r r2 : Nat → Nat} (he : M 16 2 = nI e) (h12 : e ≤ 12) (hA : acO M nx kp) (h1 : e < 12 → rok M (19 + 3 * e) 0 r) (h2 : rok M 147 l2 r2) : mt G yX10_begin (Cond.code yX10_begin cX10_begin 4 (some .int)) 5 [.ref (G.1 + 0), .int nm] M L (qI fun v M' L' => L = L' ∧ (e = 12 ∧ v = -4 ∧ M = M' ∨ e < 12 ∧ v = nI e ∧ M' = bgn M e nm nx kp l2 r r2)) := by
  refine mt_of (by decide) rfl (Nat.le_of_ble_eq_true rfl) [(0, .ref (G.1 + 0)), (1, .int nm)] rfl (fun X hG C hQ => ?_)
  subst hG
  refine wx_aload_n C 0 dX10_begin_0 rfl rfl ?_
  refine gf_X10_46 C dX10_begin_1 ?_
  refine wx_iload_n C 1 dX10_begin_4 rfl rfl ?_
  refine ca_X10_312 C (rest := []) (t_X9_add X.1 M L nm he h12) (by decide) rfl (by decide) rfl rfl (Nat.le_of_ble_eq_true rfl) dX10_begin_5 (kI fun r5 M5 L5 q5 => ?_)
  obtain ⟨rfl, h5⟩ := q5
  rcases h5 with ⟨e5, rfl, rfl⟩ | ⟨e5, rfl, rfl⟩
  · refine wx_istore_n C [1, 2, 0] [(0, .ref (X.1.1 + 0)), (1, .int nm), (2, .int (-4))] dX10_begin_8 rfl (by decide) rfl ?_
    refine wx_iload_n C 2 dX10_begin_9 rfl rfl ?_
    refine wx_bipush C (-4) dX10_begin_10 (by decide) ?_
    refine wx_icmp_eq C 26 dX10_begin_12 (by decide) (fun c12 => ?_) (fun c12 => absurd c12 (fun z => z rfl))
    refine wx_iload_n C 2 dX10_begin_26 rfl rfl ?_
    refine wx_iret C hQ dX10_begin_27 ?_
    exact ⟨_, rfl, rfl, Or.inl ⟨e5, rfl, rfl⟩⟩
  · refine wx_istore_n C [1, 2, 0] [(0, .ref (X.1.1 + 0)), (1, .int nm), (2, .int (nI e))] dX10_begin_8 rfl (by decide) rfl ?_
    refine wx_iload_n C 2 dX10_begin_9 rfl rfl ?_
    refine wx_bipush C (-4) dX10_begin_10 (by decide) ?_
    refine wx_icmp_eq C 26 dX10_begin_12 (by decide) (fun c12 => absurd c12 (fun z => absurd (congrArg Int32.toInt z) (by rw [nI_toInt (by omega)]; show ¬ (e : Int) = -4; omega))) (fun c12 => ?_)
    refine wx_aload_n C 0 dX10_begin_15 rfl rfl ?_
    refine wx_iload_n C 2 dX10_begin_16 rfl rfl ?_
    refine ca_X10_260 C (rest := []) (t_X10_changeRow X.1 (g_st (g_st M (18 + 3 * e) 0 nm) 16 2 (nI (e + 1))) L (p := e) rfl e5 ⟨(congrFun (st2_o M (by omega) (by omega)) 1).trans hA.1, hA.2.1, (congrFun (st2_o M (by omega) (by omega)) 2).trans hA.2.2.1, hA.2.2.2⟩ ((h1 e5).cg (st2_o M (by omega) (by omega)) (st2_o M (by omega) (by omega))) (h2.cg (st2_o M (by omega) (by omega)) (st2_o M (by omega) (by omega)))) (by decide) rfl (by decide) rfl rfl (Nat.le_of_ble_eq_true rfl) dX10_begin_17 (kR fun r17 M17 L17 q17 => ?_)
    obtain ⟨rfl, rfl, rfl⟩ := q17
    refine wx_astore_n C [1, 2, 3, 0] [(0, .ref (X.1.1 + 0)), (1, .int nm), (2, .int (nI e)), (3, .ref (X.1.1 + (56 + 3 * nx)))] dX10_begin_20 rfl (by decide) rfl ?_
    refine wx_aload_n C 3 dX10_begin_21 rfl rfl ?_
    refine wx_iconst C 1 dX10_begin_22 (by decide) ?_
    refine pf_X10_294 C hA.2.1 (by decide) (by decide) dX10_begin_23 ?_
    refine wx_iload_n C 2 dX10_begin_26 rfl rfl ?_
    refine wx_iret C hQ dX10_begin_27 ?_
    exact ⟨_, rfl, rfl, Or.inr ⟨e5, rfl, rfl⟩⟩
set_option maxHeartbeats 4000000 in
set_option maxRecDepth 100000 in
theorem t_X10_lengthen (G : g_G) (M : g_M) (L : g_L) {x : Int32} {p nx kp l l2 : Nat} {r r2 : Nat → Nat} (hx : x = nI p) (hp : p < 12) (hA : acO M nx kp) (h1 : rok M (19 + 3 * p) l r) (h2 : rok M 147 l2 r2) : mt G yX10_lengthen (Cond.code yX10_lengthen cX10_lengthen 2 (some .int)) 5 [.ref (G.1 + 0), .int x] M L (qI fun v M' L' => L = L' ∧ v = nI l2 ∧ M' = chg M p nx kp l l2 r r2) := by
  refine mt_of (by decide) rfl (Nat.le_of_ble_eq_true rfl) [(0, .ref (G.1 + 0)), (1, .int x)] rfl (fun X hG C hQ => ?_)
  subst hG
  refine wx_aload_n C 0 dX10_lengthen_0 rfl rfl ?_
  refine wx_iload_n C 1 dX10_lengthen_1 rfl rfl ?_
  refine ca_X10_260 C (rest := []) (t_X10_changeRow X.1 M L hx hp hA h1 h2) (by decide) rfl (by decide) rfl rfl (Nat.le_of_ble_eq_true rfl) dX10_lengthen_2 (kR fun r2 M2 L2 q2 => ?_)
  obtain ⟨rfl, rfl, rfl⟩ := q2
  have hnx := hA.2.1
  refine wx_pop C dX10_lengthen_5 rfl ?_
  refine wx_aload_n C 0 dX10_lengthen_6 rfl rfl ?_
  refine gf_X10_67 C dX10_lengthen_7 ?_
  refine gf_X10_183 C rw_147 dX10_lengthen_10 ?_
  refine wx_iret C hQ dX10_lengthen_13 ?_
  exact ⟨_, rfl, rfl, (congrFun (chg_o M (by omega) (by omega) (by omega) (by omega) (by omega) (by omega) (by omega) (by omega)) 1).trans h2.2.1, rfl⟩
set_option maxHeartbeats 4000000 in
set_option maxRecDepth 100000 in
theorem t_X10_joinGroup (G : g_G) (M : g_M) (L : g_L) {x : Int32} {p nx kp l l2 : Nat} {r r2 : Nat → Nat} (hx : x = nI p) (hp : p < 12) (hA : acO M nx kp) (h1 : rok M (19 + 3 * p) l r) (h2 : rok M 147 l2 r2) (hg : 1 ≤ (M 7 1).toInt) : mt G yX10_joinGroup (Cond.code yX10_joinGroup cX10_joinGroup 2 (some .int)) 6 [.ref (G.1 + 0), .int x] M L (qI fun v M' L' => L = L' ∧ ∃ a b, (snd M r2 l2 = false ∧ v = -3 ∧ M' = nt M a b) ∨ (snd M r2 l2 = true ∧ 8 < l2 ∧ v = -4 ∧ M' = nt M a b) ∨ (snd M r2 l2 = true ∧ l2 ≤ 8 ∧ v = nI l2 ∧ M' = chg (nt M a b) p nx kp l l2 r r2)) := by
  refine mt_of (by decide) rfl (Nat.le_of_ble_eq_true rfl) [(0, .ref (G.1 + 0)), (1, .int x)] rfl (fun X hG C hQ => ?_)
  subst hG
  refine wx_aload_n C 0 dX10_joinGroup_0 rfl rfl ?_
  refine gf_X10_23 C dX10_joinGroup_1 ?_
  refine wx_aload_n C 0 dX10_joinGroup_4 rfl rfl ?_
  refine gf_X10_67 C dX10_joinGroup_5 ?_
  refine ca_X10_162 C (rest := []) (t_X4_isSound X.1 M L h2 hg) (by decide) rfl (by decide) rfl rfl (Nat.le_of_ble_eq_true rfl) dX10_joinGroup_8 (kI fun r8 M8 L8 q8 => ?_)
  obtain ⟨rfl, rfl, a8, b8, rfl⟩ := q8
  refine wx_if_ne C 17 dX10_joinGroup_11 (by decide) (fun c11 => ?_) (fun c11 => ?_)
  · refine wx_aload_n C 0 dX10_joinGroup_17 rfl rfl ?_
    refine gf_X10_67 C dX10_joinGroup_18 ?_
    refine gf_X10_183 C rw_147 dX10_joinGroup_21 ?_
    refine wx_bipush C 8 dX10_joinGroup_24 (by decide) ?_
    refine wx_icmp_le C 34 dX10_joinGroup_26 (by decide) (fun c26 => ?_) (fun c26 => ?_)
    · have h8 : l2 ≤ 8 := by
        have e : nt M a8 b8 147 1 = nI l2 := h2.2.1
        rw [e] at c26
        have := h2.2.2.1
        exact (nI_leI (a := l2) (b := 8) (by omega) (by decide)).mp c26
      refine wx_aload_n C 0 dX10_joinGroup_34 rfl rfl ?_
      refine wx_iload_n C 1 dX10_joinGroup_35 rfl rfl ?_
      refine ca_X10_186 C (rest := []) (t_X10_lengthen X.1 (nt M a8 b8) L hx hp hA (h1.nt a8 b8) (h2.nt a8 b8)) (by decide) rfl (by decide) rfl rfl (Nat.le_of_ble_eq_true rfl) dX10_joinGroup_36 (kI fun r36 M36 L36 q36 => ?_)
      obtain ⟨rfl, rfl, rfl⟩ := q36
      refine wx_iret C hQ dX10_joinGroup_39 ?_
      exact ⟨_, rfl, rfl, a8, b8, Or.inr (Or.inr ⟨bI_n0.mp c11, h8, rfl, rfl⟩)⟩
    · have h8 : 8 < l2 := by
        have e : nt M a8 b8 147 1 = nI l2 := h2.2.1
        rw [e] at c26
        have := h2.2.2.1
        exact Nat.lt_of_not_le (fun z => c26 ((nI_leI (a := l2) (b := 8) (by omega) (by decide)).mpr z))
      refine wx_bipush C (-4) dX10_joinGroup_29 (by decide) ?_
      refine wx_goto C 39 dX10_joinGroup_31 (by decide) ?_
      refine wx_iret C hQ dX10_joinGroup_39 ?_
      exact ⟨_, rfl, rfl, a8, b8, Or.inr (Or.inl ⟨bI_n0.mp c11, h8, rfl, rfl⟩)⟩
  · refine wx_bipush C (-3) dX10_joinGroup_14 (by decide) ?_
    refine wx_iret C hQ dX10_joinGroup_16 ?_
    exact ⟨_, rfl, rfl, a8, b8, Or.inl ⟨bI_0.mp c11, rfl, rfl⟩⟩
/-- the group is row p, then row q -/
def gb (M : g_M) (p q la lb : Nat) : g_M := g_sr M 147 (la + lb) (fun i => if i < la then M (20 + 3 * p) i else M (20 + 3 * q) (i - la))
theorem gb_eq {M : g_M} {p q la lb : Nat} (hp : p < 12) (hq : q < 12) : aa (g_sr M 147 la (M (19 + 3 * p + 1))) 147 (19 + 3 * q) la lb = gb M p q la lb := by
  unfold aa gb
  rw [g_sr_sr _ _ _ _ _ _ (by omega)]
  refine g_sr_cong _ _ _ (fun i hi => ?_)
  by_cases h : i < la
  · rw [if_pos h, if_pos h, g_sr_at M 147 la _ h, show 19 + 3 * p + 1 = 20 + 3 * p by omega]
  · rw [if_neg h, if_neg h, g_sr_out _ _ _ _ _ (by omega) (by omega), show 19 + 3 * q + 1 = 20 + 3 * q by omega]
theorem rok_gb {M : g_M} {p q la lb : Nat} {r s : Nat → Nat} (h1 : rok M (19 + 3 * p) la r) (h2 : rok M (19 + 3 * q) lb s) (h : la + lb ≤ 16) : rok (gb M p q la lb) 147 (la + lb) (fun i => if i < la then r i else s (i - la)) := by
  refine ⟨rw_147, g_sr_len _ _ _ _, h, fun i hi => ?_⟩
  unfold gb
  rw [g_sr_at M 147 _ _ hi]
  by_cases hh : i < la
  · simp only [if_pos hh]
    have := h1.2.2.2 i hh
    rwa [show 19 + 3 * p + 1 = 20 + 3 * p by omega] at this
  · simp only [if_neg hh]
    have := h2.2.2.2 (i - la) (by omega)
    rwa [show 19 + 3 * q + 1 = 20 + 3 * q by omega] at this
set_option maxHeartbeats 4000000 in
set_option maxRecDepth 100000 in
theorem t_X10_gatherBoth (G : g_G) (M : g_M) (L : g_L) {x y : Int32} {p q la lb : Nat} {r s : Nat → Nat} (hx : x = nI p) (hp : p < 12) (hy : y = nI q) (hq : q < 12) (h1 : rok M (19 + 3 * p) la r) (h2 : rok M (19 + 3 * q) lb s) (h16 : la + lb ≤ 16) : mt G yX10_gatherBoth (Cond.code yX10_gatherBoth cX10_gatherBoth 3 none) 3 [.ref (G.1 + 0), .int x, .int y] M L (qV fun M' L' => L = L' ∧ M' = gb M p q la lb) := by
  refine mt_of (by decide) rfl (Nat.le_of_ble_eq_true rfl) [(0, .ref (G.1 + 0)), (1, .int x), (2, .int y)] rfl (fun X hG C hQ => ?_)
  subst hG
  refine wx_aload_n C 0 dX10_gatherBoth_0 rfl rfl ?_
  refine gf_X10_67 C dX10_gatherBoth_1 ?_
  refine wx_aload_n C 0 dX10_gatherBoth_4 rfl rfl ?_
  refine gf_X10_46 C dX10_gatherBoth_5 ?_
  refine gf_X10_167 C dX10_gatherBoth_8 ?_
  refine wx_iload_n C 1 dX10_gatherBoth_11 rfl rfl ?_
  refine wx_aaldW C p dX10_gatherBoth_12 hx hp ?_
  refine gf_X10_171 C hp dX10_gatherBoth_13 ?_
  refine ca_X10_176 C (rest := []) (t_X6_become X.1 M L rw_147 h1.1 (by omega) h1.2.1 h1.2.2.1) (g_row_lt1 rw_147) (sh_row rw_147 _ _) (by decide) rfl rfl (Nat.le_of_ble_eq_true rfl) dX10_gatherBoth_16 (kV fun M16 L16 q16 => ?_)
  obtain ⟨rfl, rfl⟩ := q16
  refine wx_aload_n C 0 dX10_gatherBoth_19 rfl rfl ?_
  refine gf_X10_67 C dX10_gatherBoth_20 ?_
  refine wx_aload_n C 0 dX10_gatherBoth_23 rfl rfl ?_
  refine gf_X10_46 C dX10_gatherBoth_24 ?_
  refine gf_X10_167 C dX10_gatherBoth_27 ?_
  refine wx_iload_n C 2 dX10_gatherBoth_30 rfl rfl ?_
  refine wx_aaldW C q dX10_gatherBoth_31 hy hq ?_
  refine gf_X10_171 C hq dX10_gatherBoth_32 ?_
  refine ca_X10_318 C (rest := []) (t_X6_addAll X.1 (g_sr M 147 la (M (19 + 3 * p + 1))) L rw_147 h2.1 (by omega) (g_sr_len _ _ _ _) (by rw [g_sr_out _ _ _ _ _ (by omega) (by omega)]; exact h2.2.1) h16) (g_row_lt1 rw_147) (sh_row rw_147 _ _) (by decide) rfl rfl (Nat.le_of_ble_eq_true rfl) dX10_gatherBoth_35 (kV fun M35 L35 q35 => ?_)
  obtain ⟨rfl, rfl⟩ := q35
  refine wx_vret C hQ dX10_gatherBoth_38 ?_
  exact ⟨rfl, rfl, gb_eq hp hq⟩
set_option maxHeartbeats 4000000 in
set_option maxRecDepth 100000 in
theorem t_X10_lay (G : g_G) (M : g_M) (L : g_L) {x : Int32} (ax : Int32) {e : Nat} {ln : Nat → Nat} {rwf : Nat → Nat → Nat} (he : M 16 2 = nI e) (h12 : e ≤ 12) (hr : ∀ p, p < 12 → rok M (19 + 3 * p) (ln p) (rwf p)) : mt G yX10_lay (Cond.code yX10_lay cX10_lay 3 (some .boolean)) 2 [.ref (G.1 + 0), .int x, .int ax] M L (qI fun v M' L' => M = M' ∧ (((cHas M x = false ∨ inW ax 0 1 = false) ∧ v = 0 ∧ L = L') ∨ ∃ p, p < e ∧ x = nI p ∧ M (18 + 3 * p) 1 = 0 ∧ inW ax 0 1 = true ∧ v = bI (decide (0 < spB (M 2) (rwf p) (ln p))) ∧ L' = lnF L (M 2) (plc (M 3) (M 4) ax) (rwf p) (ln p))) := by
  refine mt_of (by decide) rfl (Nat.le_of_ble_eq_true rfl) [(0, .ref (G.1 + 0)), (1, .int x), (2, .int ax)] rfl (fun X hG C hQ => ?_)
  subst hG
  refine wx_aload_n C 0 dX10_lay_0 rfl rfl ?_
  refine gf_X10_46 C dX10_lay_1 ?_
  refine wx_iload_n C 1 dX10_lay_4 rfl rfl ?_
  refine ca_X10_166 C (rest := []) (t_X9_has X.1 M L (x := x) he h12) (by decide) rfl (by decide) rfl rfl (Nat.le_of_ble_eq_true rfl) dX10_lay_5 (kI fun r5 M5 L5 q5 => ?_)
  obtain ⟨rfl, rfl, rfl⟩ := q5
  refine wx_if_eq C 51 dX10_lay_8 (by decide) (fun c8 => ?_) (fun c8 => ?_)
  · refine wx_iconst C 0 dX10_lay_51 (by decide) ?_
    refine wx_zret C hQ dX10_lay_52 (by decide) ?_
    first
    | exact ⟨_, rfl, rfl, Or.inl ⟨Or.inl (bI_0.mp c8), rfl, rfl⟩⟩
    | exact ⟨_, rfl, rfl, Or.inl ⟨Or.inr (bI_0.mp c17), rfl, rfl⟩⟩
    | exact ⟨_, rfl, rfl, Or.inr ⟨p, hp, rfl, hgo, bI_n0.mp c17, by rw [bI_0.mp c44]; rfl, rfl⟩⟩
  · refine wx_iload_n C 2 dX10_lay_11 rfl rfl ?_
    refine wx_iconst C 0 dX10_lay_12 (by decide) ?_
    refine wx_iconst C 1 dX10_lay_13 (by decide) ?_
    refine ca_X10_71 C (rest := []) (t_X10_isWithin X.1 M L ax 0 1) (by decide) rfl rfl (Nat.le_of_ble_eq_true rfl) dX10_lay_14 (kI fun r14 M14 L14 q14 => ?_)
    obtain ⟨rfl, rfl, rfl⟩ := q14
    refine wx_if_eq C 51 dX10_lay_17 (by decide) (fun c17 => ?_) (fun c17 => ?_)
    · refine wx_iconst C 0 dX10_lay_51 (by decide) ?_
      refine wx_zret C hQ dX10_lay_52 (by decide) ?_
      first
      | exact ⟨_, rfl, rfl, Or.inl ⟨Or.inl (bI_0.mp c8), rfl, rfl⟩⟩
      | exact ⟨_, rfl, rfl, Or.inl ⟨Or.inr (bI_0.mp c17), rfl, rfl⟩⟩
      | exact ⟨_, rfl, rfl, Or.inr ⟨p, hp, rfl, hgo, bI_n0.mp c17, by rw [bI_0.mp c44]; rfl, rfl⟩⟩
    · obtain ⟨p, hp, rfl, hgo⟩ := cHas_t he h12 (bI_n0.mp c8)
      refine wx_aload_n C 0 dX10_lay_20 rfl rfl ?_
      refine gf_X10_60 C dX10_lay_21 ?_
      refine wx_aload_n C 0 dX10_lay_24 rfl rfl ?_
      refine gf_X10_14 C dX10_lay_25 ?_
      refine wx_aload_n C 0 dX10_lay_28 rfl rfl ?_
      refine gf_X10_46 C dX10_lay_29 ?_
      refine gf_X10_167 C dX10_lay_32 ?_
      refine wx_iload_n C 1 dX10_lay_35 rfl rfl ?_
      refine wx_aaldW C p dX10_lay_36 rfl (by omega) ?_
      refine gf_X10_171 C (by omega) dX10_lay_37 ?_
      refine wx_iload_n C 2 dX10_lay_40 rfl rfl ?_
      refine ca_X10_321 C (rest := []) (t_X3_through X.1 M L (hr p (by omega)) ax) (by decide) rfl (by decide) rfl rfl (Nat.le_of_ble_eq_true rfl) dX10_lay_41 (kI fun r41 M41 L41 q41 => ?_)
      obtain ⟨rfl, rfl, rfl⟩ := q41
      refine wx_if_eq C 51 dX10_lay_44 (by decide) (fun c44 => ?_) (fun c44 => ?_)
      · refine wx_iconst C 0 dX10_lay_51 (by decide) ?_
        refine wx_zret C hQ dX10_lay_52 (by decide) ?_
        first
        | exact ⟨_, rfl, rfl, Or.inl ⟨Or.inl (bI_0.mp c8), rfl, rfl⟩⟩
        | exact ⟨_, rfl, rfl, Or.inl ⟨Or.inr (bI_0.mp c17), rfl, rfl⟩⟩
        | exact ⟨_, rfl, rfl, Or.inr ⟨p, hp, rfl, hgo, bI_n0.mp c17, by rw [bI_0.mp c44]; rfl, rfl⟩⟩
      · refine wx_iconst C 1 dX10_lay_47 (by decide) ?_
        refine wx_goto C 52 dX10_lay_48 (by decide) ?_
        refine wx_zret C hQ dX10_lay_52 (by decide) ?_
        exact ⟨_, rfl, rfl, Or.inr ⟨p, hp, rfl, hgo, bI_n0.mp c17, by rw [bI_n0.mp c44]; rfl, rfl⟩⟩
