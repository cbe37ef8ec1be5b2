/-! ===== NightDots: join, joinBit, force ===== -/
/-- a dot behind a row -/
def rad (r : Nat → Nat) (l d : Nat) : Nat → Nat := fun i => if i < l then r i else d
theorem rok_ad {M : g_M} {p l d : Nat} {r : Nat → Nat} (h : rok M (19 + 3 * p) l r) (h8 : l ≤ 8) (hd : d < 60) : rok (g_sr M 147 (l + 1) (upd (M (19 + 3 * p + 1)) l (nI d))) 147 (l + 1) (rad r l d) := by
  refine ⟨rw_147, g_sr_len _ _ _ _, by omega, fun i hi => ?_⟩
  rw [g_sr_at M 147 _ _ hi]
  unfold upd rad
  by_cases hh : i = l
  · rw [if_pos hh, if_neg (by omega)]
    exact ⟨rfl, hd⟩
  · rw [if_neg hh, if_pos (by omega)]
    exact h.2.2.2 i (by omega)
theorem rok_ad2 {M : g_M} {p l d d2 : Nat} {r : Nat → Nat} (h : rok M (19 + 3 * p) l r) (h8 : l ≤ 8) (hd : d < 60) (hd2 : d2 < 60) : rok (g_sr M 147 (l + 1 + 1) (upd (upd (M (19 + 3 * p + 1)) l (nI d)) (l + 1) (nI d2))) 147 (l + 1 + 1) (rad (rad r l d) (l + 1) d2) := by
  refine ⟨rw_147, g_sr_len _ _ _ _, by omega, fun i hi => ?_⟩
  rw [g_sr_at M 147 _ _ hi]
  unfold upd rad
  by_cases h2 : i = l + 1
  · rw [if_pos h2, if_neg (by omega)]
    exact ⟨rfl, hd2⟩
  · rw [if_neg h2, if_pos (show i < l + 1 by omega)]
    by_cases hh : i = l
    · rw [if_pos hh, if_neg (by omega)]
      exact ⟨rfl, hd⟩
    · rw [if_neg hh, if_pos (by omega)]
      exact h.2.2.2 i (by omega)
/-- a row is lengthened, or refused -/
def jnP (M : g_M) (n nx kp p : Nat) (ln : Nat → Nat) (rf : Nat → Nat → Nat) (l2 : Nat) (r2 : Nat → Nat) (v : Int32) (M' : g_M) : Prop := (snd M r2 l2 = false ∧ v = -3 ∧ gC M M' n) ∨ (snd M r2 l2 = true ∧ ((8 < l2 ∧ v = -4 ∧ gC M M' n) ∨ (l2 ≤ 8 ∧ v = nI l2 ∧ ∃ N, gC M N n ∧ rok N 147 l2 r2 ∧ M' = chg N p nx kp (ln p) l2 (rf p) r2)))
theorem t_joinGroup2 (G : g_G) (M N : g_M) (L : g_L) {x : Int32} {n e nx kp p l2 : Nat} {ln : Nat → Nat} {rf : Nat → Nat → Nat} {r2 : Nat → Nat} (hC : cI M n e nx kp ln rf) (hx : x = nI p) (hp : p < 12) (hN : gC M N n) (h2 : rok N 147 l2 r2) : mt G yX10_joinGroup (Cond.code yX10_joinGroup cX10_joinGroup 2 (some .int)) 6 [.ref (G.1 + 0), .int x] N L (qI fun v M' L' => L = L' ∧ jnP M n nx kp p ln rf l2 r2 v M') := by
  refine mt_mono (t_X10_joinGroup G N L hx hp (hN.1.a hC.a) (hN.1.w hp (hC.r hp).1) h2 (hN.1.g hC.g)) (fun r M1 L1 h => ?_)
  obtain ⟨v, e1, h1, a, b, h3⟩ := h
  rw [hN.1.eS] at h3
  have hN2 := hN.D (frG_nt N a b).toD
  refine ⟨v, e1, h1, ?_⟩
  rcases h3 with ⟨c, d, rfl⟩ | ⟨c, d, f, rfl⟩ | ⟨c, d, f, g⟩
  · exact Or.inl ⟨c, d, hN2⟩
  · exact Or.inr ⟨c, Or.inl ⟨d, f, hN2⟩⟩
  · exact Or.inr ⟨c, Or.inr ⟨d, f, _, hN2, h2.nt a b, g⟩⟩
set_option maxHeartbeats 4000000 in
set_option maxRecDepth 100000 in
theorem t_X10_join (G : g_G) (M : g_M) (L : g_L) (x y : Int32) {n e nx kp : Nat} {ln : Nat → Nat} {rf : Nat → Nat → Nat} (hC : cI M n e nx kp ln rf) : mt G yX10_join (Cond.code yX10_join cX10_join 3 (some .int)) 7 [.ref (G.1 + 0), .int x, .int y] M L (qI fun v M' L' => L = L' ∧ (((cHas M x = false ∨ dHas n y = false) ∧ v = -1 ∧ gC M M' n) ∨ ∃ p d, p < e ∧ x = nI p ∧ M (18 + 3 * p) 1 = 0 ∧ d < n ∧ y = nI d ∧ ((¬ M 6 d = -1 ∧ v = -3 ∧ gC M M' n) ∨ (M 6 d = -1 ∧ jnP M n nx kp p ln rf (ln p + 1) (rad (rf p) (ln p) d) v M')))) := by
  refine mt_of (by decide) rfl (Nat.le_of_ble_eq_true rfl) [(0, .ref (G.1 + 0)), (1, .int x), (2, .int y)] rfl (fun X hG C hQ => ?_)
  subst hG
  refine wx_aload_n C 0 dX10_join_0 rfl rfl ?_
  refine gf_X10_46 C dX10_join_1 ?_
  refine wx_iload_n C 1 dX10_join_4 rfl rfl ?_
  refine ca_X10_166 C (rest := []) (t_X9_has X.1 M L (x := x) hC.e.1 hC.e.2) (by decide) rfl (by decide) rfl rfl (Nat.le_of_ble_eq_true rfl) dX10_join_5 (kI fun r5 M5 L5 q5 => ?_)
  obtain ⟨rfl, rfl, rfl⟩ := q5
  refine wx_if_eq C 22 dX10_join_8 (by decide) (fun c8 => ?_) (fun c8 => ?_)
  · refine wx_iconst C (-1) dX10_join_22 (by decide) ?_
    refine wx_iret C hQ dX10_join_23 ?_
    exact ⟨_, rfl, rfl, Or.inl ⟨by
      first
      | exact Or.inl (bI_0.mp c8)
      | (refine Or.inr ?_; unfold dHas; rw [← hC.n.1]; exact bI_0.mp c19), rfl, hC.gC⟩⟩
  · refine wx_aload_n C 0 dX10_join_11 rfl rfl ?_
    refine gf_X10_14 C dX10_join_12 ?_
    refine wx_iload_n C 2 dX10_join_15 rfl rfl ?_
    refine ca_X10_99 C (rest := []) (t_X7_has X.1 M L y) (by decide) rfl (by decide) rfl rfl (Nat.le_of_ble_eq_true rfl) dX10_join_16 (kI fun r16 M16 L16 q16 => ?_)
    obtain ⟨rfl, rfl, rfl⟩ := q16
    refine wx_if_ne C 24 dX10_join_19 (by decide) (fun c19 => ?_) (fun c19 => ?_)
    · obtain ⟨p, hp, rfl, hgo⟩ := cHas_t hC.e.1 hC.e.2 (bI_n0.mp c8)
      have h12 := hC.e.2
      have hp12 : p < 12 := by omega
      have hh := of_decide_eq_true (bI_n0.mp c19)
      rw [hC.n.1] at hh
      have h60 := hC.n.2
      obtain ⟨d, hd, rfl⟩ := in_of (by omega) hh.1 hh.2
      obtain ⟨hrp, h8⟩ := hC.r hp12
      refine wx_aload_n C 0 dX10_join_24 rfl rfl ?_
      refine gf_X10_14 C dX10_join_25 ?_
      refine wx_iload_n C 2 dX10_join_28 rfl rfl ?_
      refine ca_X10_159 C (rest := []) (t_X7_isFree X.1 M L (e := d) rfl (by omega)) (by decide) rfl (by decide) rfl rfl (Nat.le_of_ble_eq_true rfl) dX10_join_29 (kI fun r29 M29 L29 q29 => ?_)
      obtain ⟨rfl, rfl, rfl⟩ := q29
      refine wx_if_ne C 38 dX10_join_32 (by decide) (fun c32 => ?_) (fun c32 => ?_)
      · refine wx_aload_n C 0 dX10_join_38 rfl rfl ?_
        refine gf_X10_67 C dX10_join_39 ?_
        refine wx_aload_n C 0 dX10_join_42 rfl rfl ?_
        refine gf_X10_46 C dX10_join_43 ?_
        refine gf_X10_167 C dX10_join_46 ?_
        refine wx_iload_n C 1 dX10_join_49 rfl rfl ?_
        refine wx_aaldW C p dX10_join_50 rfl hp12 ?_
        refine gf_X10_171 C hp12 dX10_join_51 ?_
        refine ca_X10_176 C (rest := []) (t_X6_become X.1 M L rw_147 hrp.1 (by omega) hrp.2.1 hrp.2.2.1) (g_row_lt1 rw_147) (sh_row rw_147 _ _) (by decide) rfl rfl (Nat.le_of_ble_eq_true rfl) dX10_join_54 (kV fun M54 L54 q54 => ?_)
        obtain ⟨rfl, rfl⟩ := q54
        refine wx_aload_n C 0 dX10_join_57 rfl rfl ?_
        refine gf_X10_67 C dX10_join_58 ?_
        refine wx_iload_n C 2 dX10_join_61 rfl rfl ?_
        refine ca_X10_156 C (rest := []) (t_X6_add X.1 (g_sr M 147 (ln p) (M (19 + 3 * p + 1))) L rw_147 (l := ln p) (g_sr_len _ _ _ _) (by omega) _) (g_row_lt1 rw_147) (sh_row rw_147 _ _) (by decide) rfl rfl (Nat.le_of_ble_eq_true rfl) dX10_join_62 (kV fun M62 L62 q62 => ?_)
        obtain ⟨rfl, rfl⟩ := q62
        rw [g_sr_add M 147 (ln p)]
        have hN : gC M (g_sr M 147 (ln p + 1) (upd (M (19 + 3 * p + 1)) (ln p) (nI d))) n := hC.gC.D (frG_sr _ _ _).toD
        have h2 := rok_ad hrp h8 (show d < 60 by omega)
        refine wx_aload_n C 0 dX10_join_65 rfl rfl ?_
        refine wx_iload_n C 1 dX10_join_66 rfl rfl ?_
        refine ca_X10_180 C (rest := []) (t_joinGroup2 X.1 M (g_sr M 147 (ln p + 1) (upd (M (19 + 3 * p + 1)) (ln p) (nI d))) L hC rfl hp12 hN h2) (by decide) rfl (by decide) rfl rfl (Nat.le_of_ble_eq_true rfl) dX10_join_67 (kI fun r67 M67 L67 q67 => ?_)
        obtain ⟨rfl, hj⟩ := q67
        refine wx_iret C hQ dX10_join_70 ?_
        exact ⟨_, rfl, rfl, Or.inr ⟨p, d, hp, rfl, hgo, hd, rfl, Or.inr ⟨of_decide_eq_true (bI_n0.mp c32), hj⟩⟩⟩
      · refine wx_bipush C (-3) dX10_join_35 (by decide) ?_
        refine wx_iret C hQ dX10_join_37 ?_
        exact ⟨_, rfl, rfl, Or.inr ⟨p, d, hp, rfl, hgo, hd, rfl, Or.inl ⟨of_decide_eq_false (bI_0.mp c32), rfl, hC.gC⟩⟩⟩
    · refine wx_iconst C (-1) dX10_join_22 (by decide) ?_
      refine wx_iret C hQ dX10_join_23 ?_
      exact ⟨_, rfl, rfl, Or.inl ⟨by
        first
        | exact Or.inl (bI_0.mp c8)
        | (refine Or.inr ?_; unfold dHas; rw [← hC.n.1]; exact bI_0.mp c19), rfl, hC.gC⟩⟩
set_option maxHeartbeats 4000000 in
set_option maxRecDepth 100000 in
theorem t_X10_force (G : g_G) (M : g_M) (L : g_L) (x y : Int32) {n e nx kp : Nat} {ln : Nat → Nat} {rf : Nat → Nat → Nat} (hC : cI M n e nx kp ln rf) : mt G yX10_force (Cond.code yX10_force cX10_force 3 (some .int)) 6 [.ref (G.1 + 0), .int x, .int y] M L (qI fun v M' L' => L = L' ∧ (((cHas M x = false ∨ dHas n y = false) ∧ v = -1 ∧ gC M M' n) ∨ ∃ p d, p < e ∧ x = nI p ∧ M (18 + 3 * p) 1 = 0 ∧ d < n ∧ y = nI d ∧ ((¬ M 6 d = -1 ∧ v = -3 ∧ gC M M' n) ∨ (M 6 d = -1 ∧ ((8 < ln p + 1 ∧ v = -4 ∧ gC M M' n) ∨ (ln p + 1 ≤ 8 ∧ v = nI (ln p + 1) ∧ ∃ N, gC M N n ∧ rok N 147 (ln p + 1) (rad (rf p) (ln p) d) ∧ M' = chg N p nx kp (ln p) (ln p + 1) (rf p) (rad (rf p) (ln p) d))))))) := by
  refine mt_of (by decide) rfl (Nat.le_of_ble_eq_true rfl) [(0, .ref (G.1 + 0)), (1, .int x), (2, .int y)] rfl (fun X hG C hQ => ?_)
  subst hG
  refine wx_aload_n C 0 dX10_force_0 rfl rfl ?_
  refine gf_X10_46 C dX10_force_1 ?_
  refine wx_iload_n C 1 dX10_force_4 rfl rfl ?_
  refine ca_X10_166 C (rest := []) (t_X9_has X.1 M L (x := x) hC.e.1 hC.e.2) (by decide) rfl (by decide) rfl rfl (Nat.le_of_ble_eq_true rfl) dX10_force_5 (kI fun r5 M5 L5 q5 => ?_)
  obtain ⟨rfl, rfl, rfl⟩ := q5
  refine wx_if_eq C 22 dX10_force_8 (by decide) (fun c8 => ?_) (fun c8 => ?_)
  · refine wx_iconst C (-1) dX10_force_22 (by decide) ?_
    refine wx_iret C hQ dX10_force_23 ?_
    exact ⟨_, rfl, rfl, Or.inl ⟨by
      first
      | exact Or.inl (bI_0.mp c8)
      | (refine Or.inr ?_; unfold dHas; rw [← hC.n.1]; exact bI_0.mp c19), rfl, hC.gC⟩⟩
  · refine wx_aload_n C 0 dX10_force_11 rfl rfl ?_
    refine gf_X10_14 C dX10_force_12 ?_
    refine wx_iload_n C 2 dX10_force_15 rfl rfl ?_
    refine ca_X10_99 C (rest := []) (t_X7_has X.1 M L y) (by decide) rfl (by decide) rfl rfl (Nat.le_of_ble_eq_true rfl) dX10_force_16 (kI fun r16 M16 L16 q16 => ?_)
    obtain ⟨rfl, rfl, rfl⟩ := q16
    refine wx_if_ne C 24 dX10_force_19 (by decide) (fun c19 => ?_) (fun c19 => ?_)
    · obtain ⟨p, hp, rfl, hgo⟩ := cHas_t hC.e.1 hC.e.2 (bI_n0.mp c8)
      have h12 := hC.e.2
      have hp12 : p < 12 := by omega
      have hh := of_decide_eq_true (bI_n0.mp c19)
      rw [hC.n.1] at hh
      have h60 := hC.n.2
      obtain ⟨d, hd, rfl⟩ := in_of (by omega) hh.1 hh.2
      obtain ⟨hrp, h8⟩ := hC.r hp12
      refine wx_aload_n C 0 dX10_force_24 rfl rfl ?_
      refine gf_X10_14 C dX10_force_25 ?_
      refine wx_iload_n C 2 dX10_force_28 rfl rfl ?_
      refine ca_X10_159 C (rest := []) (t_X7_isFree X.1 M L (e := d) rfl (by omega)) (by decide) rfl (by decide) rfl rfl (Nat.le_of_ble_eq_true rfl) dX10_force_29 (kI fun r29 M29 L29 q29 => ?_)
      obtain ⟨rfl, rfl, rfl⟩ := q29
      refine wx_if_ne C 38 dX10_force_32 (by decide) (fun c32 => ?_) (fun c32 => ?_)
      · refine wx_aload_n C 0 dX10_force_38 rfl rfl ?_
        refine gf_X10_67 C dX10_force_39 ?_
        refine wx_aload_n C 0 dX10_force_42 rfl rfl ?_
        refine gf_X10_46 C dX10_force_43 ?_
        refine gf_X10_167 C dX10_force_46 ?_
        refine wx_iload_n C 1 dX10_force_49 rfl rfl ?_
        refine wx_aaldW C p dX10_force_50 rfl hp12 ?_
        refine gf_X10_171 C hp12 dX10_force_51 ?_
        refine ca_X10_176 C (rest := []) (t_X6_become X.1 M L rw_147 hrp.1 (by omega) hrp.2.1 hrp.2.2.1) (g_row_lt1 rw_147) (sh_row rw_147 _ _) (by decide) rfl rfl (Nat.le_of_ble_eq_true rfl) dX10_force_54 (kV fun M54 L54 q54 => ?_)
        obtain ⟨rfl, rfl⟩ := q54
        refine wx_aload_n C 0 dX10_force_57 rfl rfl ?_
        refine gf_X10_67 C dX10_force_58 ?_
        refine wx_iload_n C 2 dX10_force_61 rfl rfl ?_
        refine ca_X10_156 C (rest := []) (t_X6_add X.1 (g_sr M 147 (ln p) (M (19 + 3 * p + 1))) L rw_147 (l := ln p) (g_sr_len _ _ _ _) (by omega) _) (g_row_lt1 rw_147) (sh_row rw_147 _ _) (by decide) rfl rfl (Nat.le_of_ble_eq_true rfl) dX10_force_62 (kV fun M62 L62 q62 => ?_)
        obtain ⟨rfl, rfl⟩ := q62
        rw [g_sr_add M 147 (ln p)]
        have hN : gC M (g_sr M 147 (ln p + 1) (upd (M (19 + 3 * p + 1)) (ln p) (nI d))) n := hC.gC.D (frG_sr _ _ _).toD
        have h2 := rok_ad hrp h8 (show d < 60 by omega)
        refine wx_aload_n C 0 dX10_force_65 rfl rfl ?_
        refine gf_X10_67 C dX10_force_66 ?_
        refine gf_X10_183 C rw_147 dX10_force_69 ?_
        refine wx_bipush C 8 dX10_force_72 (by decide) ?_
        refine wx_icmp_le C 82 dX10_force_74 (by decide) (fun c74 => ?_) (fun c74 => ?_)
        · have h9 : ln p + 1 ≤ 8 := by
            rw [g_sr_len] at c74
            exact (nI_leI (a := ln p + 1) (b := 8) (by omega) (by decide)).mp c74
          refine wx_aload_n C 0 dX10_force_82 rfl rfl ?_
          refine wx_iload_n C 1 dX10_force_83 rfl rfl ?_
          refine ca_X10_186 C (rest := []) (t_X10_lengthen X.1 (g_sr M 147 (ln p + 1) (upd (M (19 + 3 * p + 1)) (ln p) (nI d))) L rfl hp12 (hN.1.a hC.a) (hN.1.w hp12 hrp) h2) (by decide) rfl (by decide) rfl rfl (Nat.le_of_ble_eq_true rfl) dX10_force_84 (kI fun r84 M84 L84 q84 => ?_)
          obtain ⟨rfl, rfl, rfl⟩ := q84
          refine wx_iret C hQ dX10_force_87 ?_
          exact ⟨_, rfl, rfl, Or.inr ⟨p, d, hp, rfl, hgo, hd, rfl, Or.inr ⟨of_decide_eq_true (bI_n0.mp c32), Or.inr ⟨h9, rfl, _, hN, h2, rfl⟩⟩⟩⟩
        · have h9 : 8 < ln p + 1 := by
            rw [g_sr_len] at c74
            exact Nat.lt_of_not_le (fun z => c74 ((nI_leI (a := ln p + 1) (b := 8) (by omega) (by decide)).mpr z))
          refine wx_bipush C (-4) dX10_force_77 (by decide) ?_
          refine wx_goto C 87 dX10_force_79 (by decide) ?_
          refine wx_iret C hQ dX10_force_87 ?_
          exact ⟨_, rfl, rfl, Or.inr ⟨p, d, hp, rfl, hgo, hd, rfl, Or.inr ⟨of_decide_eq_true (bI_n0.mp c32), Or.inl ⟨h9, rfl, hN⟩⟩⟩⟩
      · refine wx_bipush C (-3) dX10_force_35 (by decide) ?_
        refine wx_iret C hQ dX10_force_37 ?_
        exact ⟨_, rfl, rfl, Or.inr ⟨p, d, hp, rfl, hgo, hd, rfl, Or.inl ⟨of_decide_eq_false (bI_0.mp c32), rfl, hC.gC⟩⟩⟩
    · refine wx_iconst C (-1) dX10_force_22 (by decide) ?_
      refine wx_iret C hQ dX10_force_23 ?_
      exact ⟨_, rfl, rfl, Or.inl ⟨by
        first
        | exact Or.inl (bI_0.mp c8)
        | (refine Or.inr ?_; unfold dHas; rw [← hC.n.1]; exact bI_0.mp c19), rfl, hC.gC⟩⟩
set_option maxHeartbeats 4000000 in
set_option maxRecDepth 100000 in
theorem t_X10_joinBit (G : g_G) (M : g_M) (L : g_L) (x y : Int32) {n e nx kp : Nat} {ln : Nat → Nat} {rf : Nat → Nat → Nat} (hC : cI M n e nx kp ln rf) : mt G yX10_joinBit (Cond.code yX10_joinBit cX10_joinBit 3 (some .int)) 7 [.ref (G.1 + 0), .int x, .int y] M L (qI fun v M' L' => L = L' ∧ (((cHas M x = false ∨ getP (bl (cB M) n n) y = none) ∧ v = -1 ∧ gC M M' n) ∨ ∃ p e0, p < e ∧ x = nI p ∧ M (18 + 3 * p) 1 = 0 ∧ getP (bl (cB M) n n) y = some e0 ∧ jnP M n nx kp p ln rf (ln p + 1 + 1) (rad (rad (rf p) (ln p) e0.1) (ln p + 1) e0.2) v M')) := by
  refine mt_of (by decide) rfl (Nat.le_of_ble_eq_true rfl) [(0, .ref (G.1 + 0)), (1, .int x), (2, .int y)] rfl (fun X hG C hQ => ?_)
  subst hG
  refine wx_aload_n C 0 dX10_joinBit_0 rfl rfl ?_
  refine gf_X10_46 C dX10_joinBit_1 ?_
  refine wx_iload_n C 1 dX10_joinBit_4 rfl rfl ?_
  refine ca_X10_166 C (rest := []) (t_X9_has X.1 M L (x := x) hC.e.1 hC.e.2) (by decide) rfl (by decide) rfl rfl (Nat.le_of_ble_eq_true rfl) dX10_joinBit_5 (kI fun r5 M5 L5 q5 => ?_)
  obtain ⟨rfl, rfl, rfl⟩ := q5
  refine wx_if_eq C 22 dX10_joinBit_8 (by decide) (fun c8 => ?_) (fun c8 => ?_)
  · refine wx_iconst C (-1) dX10_joinBit_22 (by decide) ?_
    refine wx_iret C hQ dX10_joinBit_23 ?_
    exact ⟨_, rfl, rfl, Or.inl ⟨Or.inl (bI_0.mp c8), rfl, hC.gC⟩⟩
  · refine wx_aload_n C 0 dX10_joinBit_11 rfl rfl ?_
    refine gf_X10_30 C dX10_joinBit_12 ?_
    refine wx_iload_n C 2 dX10_joinBit_15 rfl rfl ?_
    refine ca_X10_127 C (rest := []) (t_X2_seek X.1 M L y hC.n.1 hC.n.2) (by decide) rfl (by decide) rfl rfl (Nat.le_of_ble_eq_true rfl) dX10_joinBit_16 (kI fun r16 M16 L16 q16 => ?_)
    obtain ⟨rfl, h5⟩ := q16
    rcases h5 with ⟨rfl, q, e0, hq, rfl, hbe, rfl⟩ | ⟨rfl, rfl, hno⟩
    · refine wx_if_ne C 24 dX10_joinBit_19 (by decide) (fun c19 => ?_) (fun c19 => absurd c19 (by decide))
      obtain ⟨p, hp, rfl, hgo⟩ := cHas_t hC.e.1 hC.e.2 (bI_n0.mp c8)
      have h12 := hC.e.2
      have hp12 : p < 12 := by omega
      have h60 := hC.n.2
      obtain ⟨hrp, h8⟩ := hC.r hp12
      have hm := bl_mem (Nat.le_refl n) e0 (List.mem_of_getElem? hbe)
      have hNB : gC M (g_st (g_st M 8 2 (nI e0.1)) 8 3 (nI e0.2)) n := hC.gC.D (frD_bt M _ _)
      have hrB := hNB.1.w hp12 hrp
      refine wx_aload_n C 0 dX10_joinBit_24 rfl rfl ?_
      refine gf_X10_67 C dX10_joinBit_25 ?_
      refine wx_aload_n C 0 dX10_joinBit_28 rfl rfl ?_
      refine gf_X10_46 C dX10_joinBit_29 ?_
      refine gf_X10_167 C dX10_joinBit_32 ?_
      refine wx_iload_n C 1 dX10_joinBit_35 rfl rfl ?_
      refine wx_aaldW C p dX10_joinBit_36 rfl hp12 ?_
      refine gf_X10_171 C hp12 dX10_joinBit_37 ?_
      refine ca_X10_176 C (rest := []) (t_X6_become X.1 (g_st (g_st M 8 2 (nI e0.1)) 8 3 (nI e0.2)) L rw_147 hrB.1 (by omega) hrB.2.1 hrB.2.2.1) (g_row_lt1 rw_147) (sh_row rw_147 _ _) (by decide) rfl rfl (Nat.le_of_ble_eq_true rfl) dX10_joinBit_40 (kV fun M40 L40 q40 => ?_)
      obtain ⟨rfl, rfl⟩ := q40
      refine wx_aload_n C 0 dX10_joinBit_43 rfl rfl ?_
      refine gf_X10_67 C dX10_joinBit_44 ?_
      refine wx_aload_n C 0 dX10_joinBit_47 rfl rfl ?_
      refine gf_X10_30 C dX10_joinBit_48 ?_
      refine gf_X10_130 C dX10_joinBit_51 ?_
      refine ca_X10_156 C (rest := []) (t_X6_add X.1 (g_sr (g_st (g_st M 8 2 (nI e0.1)) 8 3 (nI e0.2)) 147 (ln p) ((g_st (g_st M 8 2 (nI e0.1)) 8 3 (nI e0.2)) (19 + 3 * p + 1))) L rw_147 (l := ln p) (g_sr_len _ _ _ _) (by omega) _) (g_row_lt1 rw_147) (sh_row rw_147 _ _) (by decide) rfl rfl (Nat.le_of_ble_eq_true rfl) dX10_joinBit_54 (kV fun M54 L54 q54 => ?_)
      obtain ⟨rfl, rfl⟩ := q54
      rw [g_sr_add (g_st (g_st M 8 2 (nI e0.1)) 8 3 (nI e0.2)) 147 (ln p)]
      rw [show (g_sr (g_st (g_st M 8 2 (nI e0.1)) 8 3 (nI e0.2)) 147 (ln p) ((g_st (g_st M 8 2 (nI e0.1)) 8 3 (nI e0.2)) (19 + 3 * p + 1))) 8 2 = nI e0.1 by rw [g_sr_out _ _ _ _ _ (by decide) (by decide)]; rfl]
      refine wx_aload_n C 0 dX10_joinBit_57 rfl rfl ?_
      refine gf_X10_67 C dX10_joinBit_58 ?_
      refine wx_aload_n C 0 dX10_joinBit_61 rfl rfl ?_
      refine gf_X10_30 C dX10_joinBit_62 ?_
      refine gf_X10_133 C dX10_joinBit_65 ?_
      refine ca_X10_156 C (rest := []) (t_X6_add X.1 (g_sr (g_st (g_st M 8 2 (nI e0.1)) 8 3 (nI e0.2)) 147 (ln p + 1) (upd ((g_st (g_st M 8 2 (nI e0.1)) 8 3 (nI e0.2)) (19 + 3 * p + 1)) (ln p) (nI e0.1))) L rw_147 (l := ln p + 1) (g_sr_len _ _ _ _) (by omega) _) (g_row_lt1 rw_147) (sh_row rw_147 _ _) (by decide) rfl rfl (Nat.le_of_ble_eq_true rfl) dX10_joinBit_68 (kV fun M68 L68 q68 => ?_)
      obtain ⟨rfl, rfl⟩ := q68
      rw [g_sr_add (g_st (g_st M 8 2 (nI e0.1)) 8 3 (nI e0.2)) 147 (ln p + 1)]
      rw [show (g_sr (g_st (g_st M 8 2 (nI e0.1)) 8 3 (nI e0.2)) 147 (ln p + 1) (upd ((g_st (g_st M 8 2 (nI e0.1)) 8 3 (nI e0.2)) (19 + 3 * p + 1)) (ln p) (nI e0.1))) 8 3 = nI e0.2 by rw [g_sr_out _ _ _ _ _ (by decide) (by decide)]; rfl]
      have hN : gC M (g_sr (g_st (g_st M 8 2 (nI e0.1)) 8 3 (nI e0.2)) 147 (ln p + 1 + 1) (upd (upd ((g_st (g_st M 8 2 (nI e0.1)) 8 3 (nI e0.2)) (19 + 3 * p + 1)) (ln p) (nI e0.1)) (ln p + 1) (nI e0.2))) n := hNB.D (frG_sr _ _ _).toD
      have h2 := rok_ad2 hrB h8 (show e0.1 < 60 by omega) (show e0.2 < 60 by omega)
      refine wx_aload_n C 0 dX10_joinBit_71 rfl rfl ?_
      refine wx_iload_n C 1 dX10_joinBit_72 rfl rfl ?_
      refine ca_X10_180 C (rest := []) (t_joinGroup2 X.1 M (g_sr (g_st (g_st M 8 2 (nI e0.1)) 8 3 (nI e0.2)) 147 (ln p + 1 + 1) (upd (upd ((g_st (g_st M 8 2 (nI e0.1)) 8 3 (nI e0.2)) (19 + 3 * p + 1)) (ln p) (nI e0.1)) (ln p + 1) (nI e0.2))) L hC rfl hp12 hN h2) (by decide) rfl (by decide) rfl rfl (Nat.le_of_ble_eq_true rfl) dX10_joinBit_73 (kI fun r73 M73 L73 q73 => ?_)
      obtain ⟨rfl, hj⟩ := q73
      refine wx_iret C hQ dX10_joinBit_76 ?_
      exact ⟨_, rfl, rfl, Or.inr ⟨p, e0, hp, rfl, hgo, by rw [getP_n hq]; exact hbe, hj⟩⟩
    · refine wx_if_ne C 24 dX10_joinBit_19 (by decide) (fun c19 => absurd c19 (fun z => z rfl)) (fun c19 => ?_)
      refine wx_iconst C (-1) dX10_joinBit_22 (by decide) ?_
      refine wx_iret C hQ dX10_joinBit_23 ?_
      exact ⟨_, rfl, rfl, Or.inl ⟨Or.inr (getP_no hno), rfl, hC.gC⟩⟩
