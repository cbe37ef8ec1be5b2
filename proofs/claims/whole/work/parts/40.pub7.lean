/-! ===== NightDots: part, same, merge, undo ===== -/
/-- the set that leaves by the parting, as the class counts it; what stays -/
def ptB (M : g_M) (r : Nat → Nat) (l : Nat) : Nat := ptL (ptS M r l) (2 ^ l) (2 ^ l - 1)
def ptN (M : g_M) (r : Nat → Nat) (l : Nat) : Nat := (kS (stQ (nI (ptB M r l)) l) l).1
def ptR (M : g_M) (r : Nat → Nat) (l : Nat) : Nat → Nat := fun j => r ((kS (stQ (nI (ptB M r l)) l) l).2 j)
theorem ptL_lt {S : Nat → Bool} : ∀ {n b : Nat}, n ≤ 256 → b < 256 → ptL S n b < 256
  | 0, b, _, h => h
  | n + 1, b, h1, h2 => by
    rw [ptL]
    refine ptL_lt (by omega) ?_
    split <;> omega
theorem ptB_lt {M : g_M} {r : Nat → Nat} {l : Nat} (h : l ≤ 8) : ptB M r l < 256 := by
  obtain ⟨-, -, e3, e4⟩ := pow_l l (by omega)
  exact ptL_lt e3 (by omega)
set_option maxHeartbeats 4000000 in
set_option maxRecDepth 100000 in
theorem t_X10_part (G : g_G) (M : g_M) (L : g_L) (x : Int32) {n e nx kp : Nat} {ln : Nat → Nat} {rf : Nat → Nat → Nat} (hC : cI M n e nx kp ln rf) : mt G yX10_part (Cond.code yX10_part cX10_part 5 (some .int)) 5 [.ref (G.1 + 0), .int x] M L (qI fun v M' L' => L = L' ∧ ((cHas M x = false ∧ v = -1 ∧ gC M M' n) ∨ ∃ p, p < e ∧ x = nI p ∧ M (18 + 3 * p) 1 = 0 ∧ ((ptB M (rf p) (ln p) = 0 ∧ v = 0 ∧ gC M M' n) ∨ (¬ ptB M (rf p) (ln p) = 0 ∧ v = nI (ln p - ptN M (rf p) (ln p)) ∧ ∃ N, gC M N n ∧ rok N 147 (ptN M (rf p) (ln p)) (ptR M (rf p) (ln p)) ∧ M' = chg N p nx kp (ln p) (ptN M (rf p) (ln p)) (rf p) (ptR M (rf p) (ln p)))))) := by
  refine mt_of (by decide) rfl (Nat.le_of_ble_eq_true rfl) [(0, .ref (G.1 + 0)), (1, .int x)] rfl (fun X hG C hQ => ?_)
  subst hG
  refine wx_aload_n C 0 dX10_part_0 rfl rfl ?_
  refine gf_X10_46 C dX10_part_1 ?_
  refine wx_iload_n C 1 dX10_part_4 rfl rfl ?_
  refine ca_X10_166 C (rest := []) (t_X9_has X.1 M L (x := x) hC.e.1 hC.e.2) (by decide) rfl (by decide) rfl rfl (Nat.le_of_ble_eq_true rfl) dX10_part_5 (kI fun r5 M5 L5 q5 => ?_)
  obtain ⟨rfl, rfl, rfl⟩ := q5
  refine wx_if_ne C 13 dX10_part_8 (by decide) (fun c8 => ?_) (fun c8 => ?_)
  · obtain ⟨p, hp, rfl, hgo⟩ := cHas_t hC.e.1 hC.e.2 (bI_n0.mp c8)
    have h12 := hC.e.2
    have hp12 : p < 12 := by omega
    obtain ⟨hrp, h8⟩ := hC.r hp12
    refine wx_aload_n C 0 dX10_part_13 rfl rfl ?_
    refine gf_X10_46 C dX10_part_14 ?_
    refine gf_X10_167 C dX10_part_17 ?_
    refine wx_iload_n C 1 dX10_part_20 rfl rfl ?_
    refine wx_aaldW C p dX10_part_21 rfl hp12 ?_
    refine gf_X10_171 C hp12 dX10_part_22 ?_
    refine wx_astore_n C [1, 2, 0] [(0, .ref (X.1.1 + 0)), (1, .int (nI p)), (2, .ref (X.1.1 + (19 + 3 * p)))] dX10_part_25 rfl (by decide) rfl ?_
    refine wx_aload_n C 0 dX10_part_26 rfl rfl ?_
    refine wx_aload_n C 2 dX10_part_27 rfl rfl ?_
    refine ca_X10_252 C (rest := []) (t_X10_parting X.1 M L hrp h8 (by omega) hC.g) (by decide) rfl (by decide) rfl rfl (Nat.le_of_ble_eq_true rfl) dX10_part_28 (kI fun r28 M28 L28 q28 => ?_)
    obtain ⟨rfl, hG, rfl⟩ := q28
    have hN := hC.gC.D hG.toD
    have hrN := hrp.fG hG (by omega)
    have hbl := ptB_lt (M := M) (r := rf p) h8
    refine wx_istore_n C [1, 2, 3, 0] [(0, .ref (X.1.1 + 0)), (1, .int (nI p)), (2, .ref (X.1.1 + (19 + 3 * p))), (3, .int (nI (ptB M (rf p) (ln p))))] dX10_part_31 rfl (by decide) rfl ?_
    refine wx_iload_n C 3 dX10_part_32 rfl rfl ?_
    refine wx_if_ne C 38 dX10_part_33 (by decide) (fun c33 => ?_) (fun c33 => ?_)
    · refine wx_aload_n C 2 dX10_part_38 rfl rfl ?_
      refine gf_X10_183 C (rw_w hp12) dX10_part_39 ?_
      refine wx_istore C [1, 2, 3, 4, 0] [(0, .ref (X.1.1 + 0)), (1, .int (nI p)), (2, .ref (X.1.1 + (19 + 3 * p))), (3, .int (nI (ptB M (rf p) (ln p)))), (4, .int (M28 (19 + 3 * p) 1))] dX10_part_42 (by decide) rfl ?_
      refine wx_aload_n C 0 dX10_part_44 rfl rfl ?_
      refine wx_aload_n C 2 dX10_part_45 rfl rfl ?_
      refine wx_iload_n C 3 dX10_part_46 rfl rfl ?_
      refine ca_X10_256 C (rest := []) (t_X10_keepStaying X.1 M28 L hrN.1 hrN.2.1 hrN.2.2.1 (by omega) (nI (ptB M (rf p) (ln p)))) (by decide) rfl (by decide) rfl rfl (Nat.le_of_ble_eq_true rfl) dX10_part_47 (kV fun M47 L47 q47 => ?_)
      obtain ⟨rfl, rfl⟩ := q47
      have hN2 : gC M (ksM M28 (19 + 3 * p) (stQ (nI (ptB M (rf p) (ln p))) (ln p)) (ln p)) n := hN.D (frG_sr _ _ _).toD
      have h2 : rok (ksM M28 (19 + 3 * p) (stQ (nI (ptB M (rf p) (ln p))) (ln p)) (ln p)) 147 (ptN M (rf p) (ln p)) (ptR M (rf p) (ln p)) := rok_ks hrN _
      refine wx_aload_n C 0 dX10_part_50 rfl rfl ?_
      refine wx_iload_n C 1 dX10_part_51 rfl rfl ?_
      refine ca_X10_260 C (rest := []) (t_X10_changeRow X.1 (ksM M28 (19 + 3 * p) (stQ (nI (ptB M (rf p) (ln p))) (ln p)) (ln p)) L rfl hp12 (hN2.1.a hC.a) (hN2.1.w hp12 hrp) h2) (by decide) rfl (by decide) rfl rfl (Nat.le_of_ble_eq_true rfl) dX10_part_52 (kR fun r52 M52 L52 q52 => ?_)
      obtain ⟨rfl, rfl, rfl⟩ := q52
      have hnx := hC.a.2.1
      refine wx_pop C dX10_part_55 rfl ?_
      refine wx_iload C 4 dX10_part_56 rfl ?_
      refine wx_aload_n C 0 dX10_part_58 rfl rfl ?_
      refine gf_X10_67 C dX10_part_59 ?_
      refine gf_X10_183 C rw_147 dX10_part_62 ?_
      refine wx_isub C dX10_part_65 ?_
      refine wx_iret C hQ dX10_part_66 ?_
      refine ⟨_, rfl, rfl, Or.inr ⟨p, hp, rfl, hgo, Or.inr ⟨fun z => c33 (by rw [z]; rfl), ?_, _, hN2, h2, rfl⟩⟩⟩
      rw [hrN.2.1, (congrFun (chg_o _ (by omega) (by omega) (by omega) (by omega) (by omega) (by omega) (by omega) (by omega)) 1).trans h2.2.1]
      exact pk_sub (kS_le _ _)
    · refine wx_iconst C 0 dX10_part_36 (by decide) ?_
      refine wx_iret C hQ dX10_part_37 ?_
      exact ⟨_, rfl, rfl, Or.inr ⟨p, hp, rfl, hgo, Or.inl ⟨nI_inj (by omega) (by decide) c33, rfl, hN⟩⟩⟩
  · refine wx_iconst C (-1) dX10_part_11 (by decide) ?_
    refine wx_iret C hQ dX10_part_12 ?_
    exact ⟨_, rfl, rfl, Or.inl ⟨bI_0.mp c8, rfl, hC.gC⟩⟩
/-- the dots of both rows -/
def rbo (ln : Nat → Nat) (rf : Nat → Nat → Nat) (p q : Nat) : Nat → Nat := fun i => if i < ln p then rf p i else rf q (i - ln p)
set_option maxHeartbeats 4000000 in
set_option maxRecDepth 100000 in
theorem t_X10_same (G : g_G) (M : g_M) (L : g_L) (x y : Int32) {n e nx kp : Nat} {ln : Nat → Nat} {rf : Nat → Nat → Nat} (hC : cI M n e nx kp ln rf) : mt G yX10_same (Cond.code yX10_same cX10_same 3 (some .int)) 6 [.ref (G.1 + 0), .int x, .int y] M L (qI fun v M' L' => L = L' ∧ (((cHas M x = false ∨ cHas M y = false) ∧ v = -1 ∧ gC M M' n) ∨ ∃ p q, p < e ∧ x = nI p ∧ M (18 + 3 * p) 1 = 0 ∧ q < e ∧ y = nI q ∧ M (18 + 3 * q) 1 = 0 ∧ ((p = q ∧ v = -2 ∧ gC M M' n) ∨ (p ≠ q ∧ v = bI (snd M (rbo ln rf p q) (ln p + ln q)) ∧ gC M M' n)))) := by
  refine mt_of (by decide) rfl (Nat.le_of_ble_eq_true rfl) [(0, .ref (G.1 + 0)), (1, .int x), (2, .int y)] rfl (fun X hG C hQ => ?_)
  subst hG
  refine wx_aload_n C 0 dX10_same_0 rfl rfl ?_
  refine gf_X10_46 C dX10_same_1 ?_
  refine wx_iload_n C 1 dX10_same_4 rfl rfl ?_
  refine ca_X10_166 C (rest := []) (t_X9_has X.1 M L (x := x) hC.e.1 hC.e.2) (by decide) rfl (by decide) rfl rfl (Nat.le_of_ble_eq_true rfl) dX10_same_5 (kI fun r5 M5 L5 q5 => ?_)
  obtain ⟨rfl, rfl, rfl⟩ := q5
  refine wx_if_eq C 22 dX10_same_8 (by decide) (fun c8 => ?_) (fun c8 => ?_)
  · refine wx_iconst C (-1) dX10_same_22 (by decide) ?_
    refine wx_iret C hQ dX10_same_23 ?_
    refine ⟨_, rfl, rfl, Or.inl ⟨?_, rfl, hC.gC⟩⟩
    first
    | exact Or.inl (bI_0.mp c8)
    | exact Or.inr (bI_0.mp c19)
  · refine wx_aload_n C 0 dX10_same_11 rfl rfl ?_
    refine gf_X10_46 C dX10_same_12 ?_
    refine wx_iload_n C 2 dX10_same_15 rfl rfl ?_
    refine ca_X10_166 C (rest := []) (t_X9_has X.1 M L (x := y) hC.e.1 hC.e.2) (by decide) rfl (by decide) rfl rfl (Nat.le_of_ble_eq_true rfl) dX10_same_16 (kI fun r16 M16 L16 q16 => ?_)
    obtain ⟨rfl, rfl, rfl⟩ := q16
    refine wx_if_ne C 24 dX10_same_19 (by decide) (fun c19 => ?_) (fun c19 => ?_)
    · obtain ⟨p, hp, rfl, hgo⟩ := cHas_t hC.e.1 hC.e.2 (bI_n0.mp c8)
      obtain ⟨q, hq, rfl, hgq⟩ := cHas_t hC.e.1 hC.e.2 (bI_n0.mp c19)
      have h12 := hC.e.2
      have hp12 : p < 12 := by omega
      have hq12 : q < 12 := by omega
      obtain ⟨hrp, h8⟩ := hC.r hp12
      obtain ⟨hrq, h8q⟩ := hC.r hq12
      refine wx_iload_n C 1 dX10_same_24 rfl rfl ?_
      refine wx_iload_n C 2 dX10_same_25 rfl rfl ?_
      refine wx_icmp_ne C 32 dX10_same_26 (by decide) (fun c26 => ?_) (fun c26 => ?_)
      · refine wx_aload_n C 0 dX10_same_32 rfl rfl ?_
        refine wx_iload_n C 1 dX10_same_33 rfl rfl ?_
        refine wx_iload_n C 2 dX10_same_34 rfl rfl ?_
        refine ca_X10_264 C (rest := []) (t_X10_gatherBoth X.1 M L rfl hp12 rfl hq12 hrp hrq (by omega)) (by decide) rfl (by decide) rfl rfl (Nat.le_of_ble_eq_true rfl) dX10_same_35 (kV fun M35 L35 q35 => ?_)
        obtain ⟨rfl, rfl⟩ := q35
        have hN : gC M (gb M p q (ln p) (ln q)) n := hC.gC.D (frG_sr _ _ _).toD
        have h2 : rok (gb M p q (ln p) (ln q)) 147 (ln p + ln q) (rbo ln rf p q) := rok_gb hrp hrq (by omega)
        refine wx_aload_n C 0 dX10_same_38 rfl rfl ?_
        refine gf_X10_23 C dX10_same_39 ?_
        refine wx_aload_n C 0 dX10_same_42 rfl rfl ?_
        refine gf_X10_67 C dX10_same_43 ?_
        refine ca_X10_162 C (rest := []) (t_X4_isSound X.1 (gb M p q (ln p) (ln q)) L h2 (hN.1.g hC.g)) (by decide) rfl (by decide) rfl rfl (Nat.le_of_ble_eq_true rfl) dX10_same_46 (kI fun r46 M46 L46 q46 => ?_)
        obtain ⟨rfl, rfl, a46, b46, rfl⟩ := q46
        rw [hN.1.eS]
        refine wx_if_eq C 56 dX10_same_49 (by decide) (fun c49 => ?_) (fun c49 => ?_)
        · refine wx_iconst C 0 dX10_same_56 (by decide) ?_
          refine wx_iret C hQ dX10_same_57 ?_
          exact ⟨_, rfl, rfl, Or.inr ⟨p, q, hp, rfl, hgo, hq, rfl, hgq, Or.inr ⟨fun z => c26 (by rw [z]), by rw [bI_0.mp c49]; rfl, hN.D (frG_nt _ _ _).toD⟩⟩⟩
        · refine wx_iconst C 1 dX10_same_52 (by decide) ?_
          refine wx_goto C 57 dX10_same_53 (by decide) ?_
          refine wx_iret C hQ dX10_same_57 ?_
          exact ⟨_, rfl, rfl, Or.inr ⟨p, q, hp, rfl, hgo, hq, rfl, hgq, Or.inr ⟨fun z => c26 (by rw [z]), by rw [bI_n0.mp c49]; rfl, hN.D (frG_nt _ _ _).toD⟩⟩⟩
      · refine wx_bipush C (-2) dX10_same_29 (by decide) ?_
        refine wx_iret C hQ dX10_same_31 ?_
        exact ⟨_, rfl, rfl, Or.inr ⟨p, q, hp, rfl, hgo, hq, rfl, hgq, Or.inl ⟨nI_inj (by omega) (by omega) c26, rfl, hC.gC⟩⟩⟩
    · refine wx_iconst C (-1) dX10_same_22 (by decide) ?_
      refine wx_iret C hQ dX10_same_23 ?_
      refine ⟨_, rfl, rfl, Or.inl ⟨?_, rfl, hC.gC⟩⟩
      first
      | exact Or.inl (bI_0.mp c8)
      | exact Or.inr (bI_0.mp c19)
theorem mn_nI {p q : Nat} (hp : p < 12) (hq : q < 12) : (if nI q < nI p then nI q else nI p) = nI (min p q) ∧ (if nI p < nI q then nI q else nI p) = nI (max p q) := by
  by_cases h : q < p
  · rw [if_pos (nI_lt h (by omega)), if_neg (nI_nlt (by omega) (by omega)), Nat.min_eq_right (by omega), Nat.max_eq_left (by omega)]
    exact ⟨rfl, rfl⟩
  · rw [if_neg (nI_nlt (by omega) (by omega)), Nat.min_eq_left (by omega)]
    refine ⟨rfl, ?_⟩
    by_cases h2 : p < q
    · rw [if_pos (nI_lt h2 (by omega)), Nat.max_eq_right (by omega)]
    · rw [if_neg (nI_nlt (by omega) (by omega)), Nat.max_eq_left (by omega)]
set_option maxHeartbeats 4000000 in
set_option maxRecDepth 100000 in
theorem t_X10_merge (G : g_G) (M : g_M) (L : g_L) (x y : Int32) {n e nx kp : Nat} {ln : Nat → Nat} {rf : Nat → Nat → Nat} (hC : cI M n e nx kp ln rf) : mt G yX10_merge (Cond.code yX10_merge cX10_merge 6 (some .int)) 6 [.ref (G.1 + 0), .int x, .int y] M L (qI fun v M' L' => L = L' ∧ (((cHas M x = false ∨ cHas M y = false) ∧ v = -1 ∧ gC M M' n) ∨ ∃ p q, p < e ∧ x = nI p ∧ M (18 + 3 * p) 1 = 0 ∧ q < e ∧ y = nI q ∧ M (18 + 3 * q) 1 = 0 ∧ ((p = q ∧ v = -2 ∧ gC M M' n) ∨ (p ≠ q ∧ ∃ s g, s = min p q ∧ g = max p q ∧ ((snd M (rbo ln rf s g) (ln s + ln g) = false ∧ v = -3 ∧ gC M M' n) ∨ (snd M (rbo ln rf s g) (ln s + ln g) = true ∧ ((8 < ln s + ln g ∧ v = -4 ∧ gC M M' n) ∨ (ln s + ln g ≤ 8 ∧ v = nI s ∧ ∃ N, gC M N n ∧ rok N 147 (ln s + ln g) (rbo ln rf s g) ∧ M' = g_st (g_st (chg N s nx kp (ln s) (ln s + ln g) (rf s) (rbo ln rf s g)) (56 + 3 * nx) 2 (nI g)) (18 + 3 * g) 1 1)))))))) := by
  refine mt_of (by decide) rfl (Nat.le_of_ble_eq_true rfl) [(0, .ref (G.1 + 0)), (1, .int x), (2, .int y)] rfl (fun X hG C hQ => ?_)
  subst hG
  refine wx_aload_n C 0 dX10_merge_0 rfl rfl ?_
  refine gf_X10_46 C dX10_merge_1 ?_
  refine wx_iload_n C 1 dX10_merge_4 rfl rfl ?_
  refine ca_X10_166 C (rest := []) (t_X9_has X.1 M L (x := x) hC.e.1 hC.e.2) (by decide) rfl (by decide) rfl rfl (Nat.le_of_ble_eq_true rfl) dX10_merge_5 (kI fun r5 M5 L5 q5 => ?_)
  obtain ⟨rfl, rfl, rfl⟩ := q5
  refine wx_if_eq C 22 dX10_merge_8 (by decide) (fun c8 => ?_) (fun c8 => ?_)
  · refine wx_iconst C (-1) dX10_merge_22 (by decide) ?_
    refine wx_iret C hQ dX10_merge_23 ?_
    refine ⟨_, rfl, rfl, Or.inl ⟨?_, rfl, hC.gC⟩⟩
    first
    | exact Or.inl (bI_0.mp c8)
    | exact Or.inr (bI_0.mp c19)
  · refine wx_aload_n C 0 dX10_merge_11 rfl rfl ?_
    refine gf_X10_46 C dX10_merge_12 ?_
    refine wx_iload_n C 2 dX10_merge_15 rfl rfl ?_
    refine ca_X10_166 C (rest := []) (t_X9_has X.1 M L (x := y) hC.e.1 hC.e.2) (by decide) rfl (by decide) rfl rfl (Nat.le_of_ble_eq_true rfl) dX10_merge_16 (kI fun r16 M16 L16 q16 => ?_)
    obtain ⟨rfl, rfl, rfl⟩ := q16
    refine wx_if_ne C 24 dX10_merge_19 (by decide) (fun c19 => ?_) (fun c19 => ?_)
    · obtain ⟨p, hp, rfl, hgo⟩ := cHas_t hC.e.1 hC.e.2 (bI_n0.mp c8)
      obtain ⟨q, hq, rfl, hgq⟩ := cHas_t hC.e.1 hC.e.2 (bI_n0.mp c19)
      have h12 := hC.e.2
      have hp12 : p < 12 := by omega
      have hq12 : q < 12 := by omega
      obtain ⟨hrp, h8⟩ := hC.r hp12
      obtain ⟨hrq, h8q⟩ := hC.r hq12
      refine wx_iload_n C 1 dX10_merge_24 rfl rfl ?_
      refine wx_iload_n C 2 dX10_merge_25 rfl rfl ?_
      refine wx_icmp_ne C 32 dX10_merge_26 (by decide) (fun c26 => ?_) (fun c26 => ?_)
      · obtain ⟨s, hs⟩ : ∃ s, s = min p q := ⟨_, rfl⟩
        obtain ⟨g, hg⟩ : ∃ g, g = max p q := ⟨_, rfl⟩
        have hne : p ≠ q := fun z => c26 (by rw [z])
        have hs12 : s < 12 := by omega
        have hg12 : g < 12 := by omega
        have hsg : s ≠ g := by omega
        obtain ⟨hrs, h8s⟩ := hC.r hs12
        obtain ⟨hrg, h8g⟩ := hC.r hg12
        have emn := (mn_nI hp12 hq12).1
        have emx := (mn_nI hp12 hq12).2
        rw [← hs] at emn
        rw [← hg] at emx
        refine wx_iload_n C 1 dX10_merge_32 rfl rfl ?_
        refine wx_iload_n C 2 dX10_merge_33 rfl rfl ?_
        refine wx_mmin C w3_163 w2_196 w1_13 w2_197 (by decide) (Nat.le_of_ble_eq_true rfl) dX10_merge_34 ?_
        rw [emn]
        refine wx_istore_n C [1, 2, 3, 0] [(0, .ref (X.1.1 + 0)), (1, .int (nI p)), (2, .int (nI q)), (3, .int (nI s))] dX10_merge_37 rfl (by decide) rfl ?_
        refine wx_iload_n C 1 dX10_merge_38 rfl rfl ?_
        refine wx_iload_n C 2 dX10_merge_39 rfl rfl ?_
        refine wx_mmax C w3_164 w2_193 w1_13 w2_194 (by decide) (Nat.le_of_ble_eq_true rfl) dX10_merge_40 ?_
        rw [emx]
        refine wx_istore C [1, 2, 3, 4, 0] [(0, .ref (X.1.1 + 0)), (1, .int (nI p)), (2, .int (nI q)), (3, .int (nI s)), (4, .int (nI g))] dX10_merge_43 (by decide) rfl ?_
        refine wx_aload_n C 0 dX10_merge_45 rfl rfl ?_
        refine wx_iload_n C 3 dX10_merge_46 rfl rfl ?_
        refine wx_iload C 4 dX10_merge_47 rfl ?_
        refine ca_X10_264 C (rest := []) (t_X10_gatherBoth X.1 M L rfl hs12 rfl hg12 hrs hrg (by omega)) (by decide) rfl (by decide) rfl rfl (Nat.le_of_ble_eq_true rfl) dX10_merge_49 (kV fun M49 L49 q49 => ?_)
        obtain ⟨rfl, rfl⟩ := q49
        have hN : gC M (gb M s g (ln s) (ln g)) n := hC.gC.D (frG_sr _ _ _).toD
        have h2 : rok (gb M s g (ln s) (ln g)) 147 (ln s + ln g) (rbo ln rf s g) := rok_gb hrs hrg (by omega)
        refine wx_aload_n C 0 dX10_merge_52 rfl rfl ?_
        refine gf_X10_23 C dX10_merge_53 ?_
        refine wx_aload_n C 0 dX10_merge_56 rfl rfl ?_
        refine gf_X10_67 C dX10_merge_57 ?_
        refine ca_X10_162 C (rest := []) (t_X4_isSound X.1 (gb M s g (ln s) (ln g)) L h2 (hN.1.g hC.g)) (by decide) rfl (by decide) rfl rfl (Nat.le_of_ble_eq_true rfl) dX10_merge_60 (kI fun r60 M60 L60 q60 => ?_)
        obtain ⟨rfl, rfl, a60, b60, rfl⟩ := q60
        rw [hN.1.eS]
        have hN2 := hN.D (frG_nt (gb M s g (ln s) (ln g)) a60 b60).toD
        have h3 := h2.nt a60 b60
        refine wx_if_ne C 69 dX10_merge_63 (by decide) (fun c63 => ?_) (fun c63 => ?_)
        · refine wx_aload_n C 0 dX10_merge_69 rfl rfl ?_
          refine gf_X10_67 C dX10_merge_70 ?_
          refine gf_X10_183 C rw_147 dX10_merge_73 ?_
          refine wx_bipush C 8 dX10_merge_76 (by decide) ?_
          refine wx_icmp_le C 84 dX10_merge_78 (by decide) (fun c78 => ?_) (fun c78 => ?_)
          · have h9 : ln s + ln g ≤ 8 := by
              have e : nt (gb M s g (ln s) (ln g)) a60 b60 147 1 = nI (ln s + ln g) := h3.2.1
              rw [e] at c78
              exact (nI_leI (a := ln s + ln g) (b := 8) (by omega) (by decide)).mp c78
            refine wx_aload_n C 0 dX10_merge_84 rfl rfl ?_
            refine wx_iload_n C 3 dX10_merge_85 rfl rfl ?_
            refine ca_X10_260 C (rest := []) (t_X10_changeRow X.1 (nt (gb M s g (ln s) (ln g)) a60 b60) L rfl hs12 (hN2.1.a hC.a) (hN2.1.w hs12 hrs) h3) (by decide) rfl (by decide) rfl rfl (Nat.le_of_ble_eq_true rfl) dX10_merge_86 (kR fun r86 M86 L86 q86 => ?_)
            obtain ⟨rfl, rfl, rfl⟩ := q86
            have hnx := hC.a.2.1
            refine wx_astore C [1, 2, 3, 4, 5, 0] [(0, .ref (X.1.1 + 0)), (1, .int (nI p)), (2, .int (nI q)), (3, .int (nI s)), (4, .int (nI g)), (5, .ref (X.1.1 + (56 + 3 * nx)))] dX10_merge_89 (by decide) rfl ?_
            refine wx_aload C 5 dX10_merge_91 rfl ?_
            refine wx_iload C 4 dX10_merge_93 rfl ?_
            refine pf_X10_276 C hC.a.2.1 dX10_merge_95 ?_
            refine wx_aload_n C 0 dX10_merge_98 rfl rfl ?_
            refine gf_X10_46 C dX10_merge_99 ?_
            refine gf_X10_167 C dX10_merge_102 ?_
            refine wx_iload C 4 dX10_merge_105 rfl ?_
            refine wx_aaldW C g dX10_merge_107 rfl hg12 ?_
            refine wx_iconst C 1 dX10_merge_108 (by decide) ?_
            refine pf_X10_195 C hg12 (by decide) (by decide) dX10_merge_109 ?_
            refine wx_iload_n C 3 dX10_merge_112 rfl rfl ?_
            refine wx_iret C hQ dX10_merge_113 ?_
            exact ⟨_, rfl, rfl, Or.inr ⟨p, q, hp, rfl, hgo, hq, rfl, hgq, Or.inr ⟨hne, s, g, hs, hg, Or.inr ⟨bI_n0.mp c63, Or.inr ⟨h9, rfl, _, hN2, h3, rfl⟩⟩⟩⟩⟩
          · have h9 : 8 < ln s + ln g := by
              have e : nt (gb M s g (ln s) (ln g)) a60 b60 147 1 = nI (ln s + ln g) := h3.2.1
              rw [e] at c78
              exact Nat.lt_of_not_le (fun z => c78 ((nI_leI (a := ln s + ln g) (b := 8) (by omega) (by decide)).mpr z))
            refine wx_bipush C (-4) dX10_merge_81 (by decide) ?_
            refine wx_iret C hQ dX10_merge_83 ?_
            exact ⟨_, rfl, rfl, Or.inr ⟨p, q, hp, rfl, hgo, hq, rfl, hgq, Or.inr ⟨hne, s, g, hs, hg, Or.inr ⟨bI_n0.mp c63, Or.inl ⟨h9, rfl, hN2⟩⟩⟩⟩⟩
        · refine wx_bipush C (-3) dX10_merge_66 (by decide) ?_
          refine wx_iret C hQ dX10_merge_68 ?_
          exact ⟨_, rfl, rfl, Or.inr ⟨p, q, hp, rfl, hgo, hq, rfl, hgq, Or.inr ⟨hne, s, g, hs, hg, Or.inl ⟨bI_0.mp c63, rfl, hN2⟩⟩⟩⟩
      · refine wx_bipush C (-2) dX10_merge_29 (by decide) ?_
        refine wx_iret C hQ dX10_merge_31 ?_
        exact ⟨_, rfl, rfl, Or.inr ⟨p, q, hp, rfl, hgo, hq, rfl, hgq, Or.inl ⟨nI_inj (by omega) (by omega) c26, rfl, hC.gC⟩⟩⟩
    · refine wx_iconst C (-1) dX10_merge_22 (by decide) ?_
      refine wx_iret C hQ dX10_merge_23 ?_
      refine ⟨_, rfl, rfl, Or.inl ⟨?_, rfl, hC.gC⟩⟩
      first
      | exact Or.inl (bI_0.mp c8)
      | exact Or.inr (bI_0.mp c19)
