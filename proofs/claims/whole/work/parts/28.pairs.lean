/-! ===== PairList ===== -/
/-- the bits that are kept -/
def fbM (M : g_M) (l : List (Nat × Nat)) : g_M := fun a b => if a = 9 ∧ b = 8 then nI l.length else if a = 12 ∧ b < 40 then ((l[b]?).map (fun e => nI e.1)).getD (M a b) else if a = 13 ∧ b < 40 then ((l[b]?).map (fun e => nI e.2)).getD (M a b) else M a b
theorem fbM_o (M : g_M) (l : List (Nat × Nat)) {a : Nat} (h1 : a ≠ 9) (h2 : a ≠ 12) (h3 : a ≠ 13) : fbM M l a = M a := by
  funext b
  unfold fbM
  rw [if_neg (by omega), if_neg (by omega), if_neg (by omega)]
theorem fbM_cB (M : g_M) (l : List (Nat × Nat)) : cB (fbM M l) = cB M := by
  unfold cB
  rw [fbM_o M l (by decide) (by decide) (by decide), fbM_o M l (by decide) (by decide) (by decide), fbM_o M l (by decide) (by decide) (by decide), fbM_o M l (by decide) (by decide) (by decide), fbM_o M l (by decide) (by decide) (by decide)]
theorem fbM_0 (M : g_M) : g_st M 9 8 0 = fbM M [] := by
  funext a b
  rw [g_st_ap]
  unfold fbM
  simp
  rfl
theorem fbM_len (M : g_M) (l : List (Nat × Nat)) : fbM M l 9 8 = nI l.length := by simp [fbM]
theorem fbM_1 (M : g_M) (l : List (Nat × Nat)) (x y : Nat) (h : l.length < 40) : g_st (g_st (g_st (fbM M l) 12 l.length (nI x)) 13 l.length (nI y)) 9 8 (nI (l.length + 1)) = fbM M (l ++ [(x, y)]) := by
  funext a b
  simp only [g_st_ap, fbM, List.length_append, List.length_singleton, List.getElem?_append, List.getElem?_singleton]
  by_cases h1 : b < l.length
  · have hb : b ≠ l.length := by omega
    simp [h1, hb]
    (repeat' split) <;> first | rfl | (exfalso; omega)
  · by_cases h2 : b = l.length
    · subst h2
      simp [h]
      (repeat' split) <;> first | rfl | (exfalso; omega) | simp_all
    · have h3 : l[b]? = none := List.getElem?_eq_none (by omega)
      have h4 : ¬ b - l.length = 0 := by omega
      simp [h1, h2, h3, h4]
      (repeat' split) <;> first | rfl | (exfalso; omega)
theorem fbM_2 (M : g_M) (l : List (Nat × Nat)) (x y : Nat) (h : ¬ l.length < 40) : g_st (fbM M l) 9 8 (nI (l.length + 1)) = fbM M (l ++ [(x, y)]) := by
  funext a b
  simp only [g_st_ap, fbM, List.length_append, List.length_singleton, List.getElem?_append]
  by_cases h1 : b < 40
  · have hb : b < l.length := by omega
    simp [hb]
    split <;> rfl
  · simp [h1]
    split <;> rfl
set_option maxHeartbeats 4000000 in
set_option maxRecDepth 100000 in
theorem t_X5_forget (G : g_G) (M : g_M) (L : g_L)  : mt G yX5_forget (Cond.code yX5_forget cX5_forget 1 none) 0 [.ref (G.1 + 9)] M L (qV fun M' L' => L = L' ∧ M' = g_st M 9 10 0) := by
  refine mt_of (by decide) rfl (Nat.le_of_ble_eq_true rfl) [(0, .ref (G.1 + 9))] rfl (fun X hG C hQ => ?_)
  subst hG
  refine wx_aload_n C 0 dX5_forget_0 rfl rfl ?_
  refine wx_iconst C 0 dX5_forget_1 (by decide) ?_
  refine pf_X5_43 C (by decide) (by decide) dX5_forget_2 ?_
  refine wx_vret C hQ dX5_forget_5 ?_
  exact ⟨rfl, rfl, rfl⟩
set_option maxHeartbeats 4000000 in
set_option maxRecDepth 100000 in
theorem t_X5_keepBit (G : g_G) (M : g_M) (L : g_L) {x y : Int32} {l : List (Nat × Nat)} {a b : Nat} (hx : x = nI a) (hy : y = nI b) (hl : l.length < 2 ^ 30) : mt G yX5_keepBit (Cond.code yX5_keepBit cX5_keepBit 3 none) 0 [.ref (G.1 + 9), .int x, .int y] (fbM M l) L (qV fun M' L' => L = L' ∧ M' = fbM M (l ++ [(a, b)])) := by
  refine mt_of (by decide) rfl (Nat.le_of_ble_eq_true rfl) [(0, .ref (G.1 + 9)), (1, .int x), (2, .int y)] rfl (fun X hG C hQ => ?_)
  subst hG
  refine wx_aload_n C 0 dX5_keepBit_0 rfl rfl ?_
  refine gf_X5_53 C dX5_keepBit_1 ?_
  refine wx_bipush C 40 dX5_keepBit_4 (by decide) ?_
  refine wx_icmp_ge C 29 dX5_keepBit_6 (by decide) (fun c6 => ?_) (fun c6 => ?_)
  · refine wx_aload_n C 0 dX5_keepBit_29 rfl rfl ?_
    refine wx_dup C dX5_keepBit_30 rfl ?_
    refine gf_X5_53 C dX5_keepBit_31 ?_
    refine wx_iconst C 1 dX5_keepBit_34 (by decide) ?_
    refine wx_iadd C dX5_keepBit_35 ?_
    refine pf_X5_53 C dX5_keepBit_36 ?_
    refine wx_vret C hQ dX5_keepBit_39 ?_
    refine ⟨rfl, rfl, ?_⟩
    first
    | (have e1 : g_st (g_st (fbM M l) 12 l.length x) 13 l.length y 9 8 = nI l.length := by rw [g_st_ap, if_neg (by omega), g_st_ap, if_neg (by omega)]; exact fbM_len M l
       rw [e1, nI_1, hx, hy]
       exact fbM_1 M l a b h40)
    | (have h40 : ¬ l.length < 40 := by
        rw [fbM_len] at c6
        have := (nI_leI (a := 40) (b := l.length) (by decide) (by omega)).mp c6
        omega
       rw [fbM_len, nI_1]
       exact fbM_2 M l a b h40)
  · have h40 : l.length < 40 := by
      rw [fbM_len] at c6
      exact Nat.lt_of_not_le (fun h => c6 ((nI_leI (a := 40) (b := l.length) (by decide) (by omega)).mpr h))
    refine wx_aload_n C 0 dX5_keepBit_9 rfl rfl ?_
    refine gf_X5_18 C dX5_keepBit_10 ?_
    refine wx_aload_n C 0 dX5_keepBit_13 rfl rfl ?_
    refine gf_X5_53 C dX5_keepBit_14 ?_
    refine wx_iload_n C 1 dX5_keepBit_17 rfl rfl ?_
    refine wx_iast C 12 l.length (by decide) (fun _ _ => rfl) (by decide) dX5_keepBit_18 (fbM_len M l) h40 ?_
    refine wx_aload_n C 0 dX5_keepBit_19 rfl rfl ?_
    refine gf_X5_21 C dX5_keepBit_20 ?_
    refine wx_aload_n C 0 dX5_keepBit_23 rfl rfl ?_
    refine gf_X5_53 C dX5_keepBit_24 ?_
    refine wx_iload_n C 2 dX5_keepBit_27 rfl rfl ?_
    refine wx_iast C 13 l.length (by decide) (fun _ _ => rfl) (by decide) dX5_keepBit_28 (by rw [g_st_ap, if_neg (by omega)]; exact fbM_len M l) h40 ?_
    refine wx_aload_n C 0 dX5_keepBit_29 rfl rfl ?_
    refine wx_dup C dX5_keepBit_30 rfl ?_
    refine gf_X5_53 C dX5_keepBit_31 ?_
    refine wx_iconst C 1 dX5_keepBit_34 (by decide) ?_
    refine wx_iadd C dX5_keepBit_35 ?_
    refine pf_X5_53 C dX5_keepBit_36 ?_
    refine wx_vret C hQ dX5_keepBit_39 ?_
    refine ⟨rfl, rfl, ?_⟩
    first
    | (have e1 : g_st (g_st (fbM M l) 12 l.length x) 13 l.length y 9 8 = nI l.length := by rw [g_st_ap, if_neg (by omega), g_st_ap, if_neg (by omega)]; exact fbM_len M l
       rw [e1, nI_1, hx, hy]
       exact fbM_1 M l a b h40)
    | (have h40 : ¬ l.length < 40 := by
        rw [fbM_len] at c6
        have := (nI_leI (a := 40) (b := l.length) (by decide) (by omega)).mp c6
        omega
       rw [fbM_len, nI_1]
       exact fbM_2 M l a b h40)
set_option maxHeartbeats 4000000 in
set_option maxRecDepth 100000 in
theorem lp_X5_findBits_i {X : g_X} {Qr : Option Value → g_M → g_L → Prop} (C : Cx X cX5_findBits 3 RX5 none 2) (hQ : Rx X Qr) {M : g_M} {L : g_L} {b a : Nat} (hb : M 1 5 = nI b) (h60 : b ≤ 60) (ha : a < b) (K : wx X (fbM M (bl (cB M) b (a + 1))) L 7 [(0, .ref (X.1.1 + 9)), (1, .int (nI (a + 1)))] []) : ∀ (n i : Nat), i ≤ b → b < i + n → wx X (fbM M (bl (cB M) b a ++ rowl (cB M) a i)) L 20 [(0, .ref (X.1.1 + 9)), (1, .int (nI a)), (2, .int (nI i))] [] := by
  intro n
  induction n with
  | zero =>
    intro i h1 h2
    exact absurd h2 (by omega)
  | succ n ih =>
    intro i hi0 hin
    have hb0 : fbM M (bl (cB M) b a ++ rowl (cB M) a i) 1 5 = nI b := by rw [fbM_o _ _ (by decide) (by decide) (by decide)]; exact hb
    have hsm := bl_small (P := cB M) h60 (Nat.le_of_lt ha) hi0
    refine wx_iload_n C 2 dX5_findBits_20 rfl rfl ?_
    refine wx_aload_n C 0 dX5_findBits_21 rfl rfl ?_
    refine gf_X5_31 C dX5_findBits_22 ?_
    refine gf_X5_67 C dX5_findBits_25 ?_
    refine wx_icmp_ge C 55 dX5_findBits_28 (by decide) (fun c28 => ?_) (fun c28 => ?_)
    · have hib : i = b := by
        rw [hb0] at c28
        exact Nat.le_antisymm hi0 ((nI_leI (by omega) (by omega)).mp c28)
      refine wx_iinc C (v := (nI (a + 1))) 1 [1, 0, 2] [(0, .ref (X.1.1 + 9)), (1, .int (nI (a + 1))), (2, .int (nI i))] dX5_findBits_55 rfl (nI_1 _) (by decide) rfl ?_
      refine wx_goto C 7 dX5_findBits_58 (by decide) ?_
      rw [hib]
      exact wx_sub [0, 1] rfl K
    · have hi : i < b := by
        rw [hb0] at c28
        exact Nat.lt_of_not_le (fun h => c28 ((nI_leI (by omega) (by omega)).mpr h))
      refine wx_aload_n C 0 dX5_findBits_31 rfl rfl ?_
      refine gf_X5_39 C dX5_findBits_32 ?_
      refine wx_iload_n C 1 dX5_findBits_35 rfl rfl ?_
      refine wx_iload_n C 2 dX5_findBits_36 rfl rfl ?_
      refine ca_X5_72 C (rest := []) (t_X2_isBit X.1 (fbM M (bl (cB M) b a ++ rowl (cB M) a i)) L (a := a) (b := i) rfl (by omega) rfl (by omega)) (by decide) rfl (by decide) rfl rfl (Nat.le_of_ble_eq_true rfl) dX5_findBits_37 (kI fun r37 M37 L37 q37 => ?_)
      obtain ⟨rfl, rfl, rfl⟩ := q37
      rw [fbM_cB]
      refine wx_if_eq C 49 dX5_findBits_40 (by decide) (fun c40 => ?_) (fun c40 => ?_)
      · refine wx_iinc C (v := (nI (i + 1))) 2 [1, 2, 0] [(0, .ref (X.1.1 + 9)), (1, .int (nI a)), (2, .int (nI (i + 1)))] dX5_findBits_49 rfl (nI_1 _) (by decide) rfl ?_
        refine wx_goto C 20 dX5_findBits_52 (by decide) ?_
        have h := ih (i + 1) (by omega) (by omega)
        rw [rowl, if_neg (by rw [bI_0] at c40; simp [c40]), List.append_nil] at h
        exact h
      · refine wx_aload_n C 0 dX5_findBits_43 rfl rfl ?_
        refine wx_iload_n C 1 dX5_findBits_44 rfl rfl ?_
        refine wx_iload_n C 2 dX5_findBits_45 rfl rfl ?_
        refine ca_X5_78 C (rest := []) (t_X5_keepBit X.1 M L (l := bl (cB M) b a ++ rowl (cB M) a i) (a := a) (b := i) rfl rfl (by rw [List.length_append]; omega)) (by decide) rfl (by decide) rfl rfl (Nat.le_of_ble_eq_true rfl) dX5_findBits_46 (kV fun M46 L46 q46 => ?_)
        obtain ⟨rfl, rfl⟩ := q46
        refine wx_iinc C (v := (nI (i + 1))) 2 [1, 2, 0] [(0, .ref (X.1.1 + 9)), (1, .int (nI a)), (2, .int (nI (i + 1)))] dX5_findBits_49 rfl (nI_1 _) (by decide) rfl ?_
        refine wx_goto C 20 dX5_findBits_52 (by decide) ?_
        have h := ih (i + 1) (by omega) (by omega)
        rw [rowl, if_pos (bI_n0.mp c40), ← List.append_assoc] at h
        exact h
set_option maxHeartbeats 4000000 in
set_option maxRecDepth 100000 in
theorem lp_X5_findBits {X : g_X} {Qr : Option Value → g_M → g_L → Prop} (C : Cx X cX5_findBits 3 RX5 none 2) (hQ : Rx X Qr) {M : g_M} {L : g_L} {b : Nat} (hb : M 1 5 = nI b) (h60 : b ≤ 60) (hp : Qr none (fbM M (bl (cB M) b b)) L) : ∀ (n i : Nat), i ≤ b → b < i + n → wx X (fbM M (bl (cB M) b i)) L 7 [(0, .ref (X.1.1 + 9)), (1, .int (nI i))] [] := by
  intro n
  induction n with
  | zero =>
    intro i h1 h2
    exact absurd h2 (by omega)
  | succ n ih =>
    intro i hi0 hin
    have hb0 : fbM M (bl (cB M) b i) 1 5 = nI b := by rw [fbM_o _ _ (by decide) (by decide) (by decide)]; exact hb
    refine wx_iload_n C 1 dX5_findBits_7 rfl rfl ?_
    refine wx_aload_n C 0 dX5_findBits_8 rfl rfl ?_
    refine gf_X5_31 C dX5_findBits_9 ?_
    refine gf_X5_67 C dX5_findBits_12 ?_
    refine wx_icmp_ge C 61 dX5_findBits_15 (by decide) (fun c15 => ?_) (fun c15 => ?_)
    · have hib : i = b := by
        rw [hb0] at c15
        exact Nat.le_antisymm hi0 ((nI_leI (by omega) (by omega)).mp c15)
      refine wx_vret C hQ dX5_findBits_61 ?_
      rw [hib]
      exact hp
    · have hi : i < b := by
        rw [hb0] at c15
        exact Nat.lt_of_not_le (fun h => c15 ((nI_leI (by omega) (by omega)).mpr h))
      refine wx_iconst C 0 dX5_findBits_18 (by decide) ?_
      refine wx_istore_n C [1, 2, 0] [(0, .ref (X.1.1 + 9)), (1, .int (nI i)), (2, .int 0)] dX5_findBits_19 rfl (by decide) rfl ?_
      have h := lp_X5_findBits_i C hQ hb h60 hi (ih (i + 1) (by omega) (by omega)) (b + 1) 0 (by omega) (by omega)
      rw [rowl, List.append_nil] at h
      exact h
set_option maxHeartbeats 4000000 in
set_option maxRecDepth 100000 in
theorem t_X5_findBits (G : g_G) (M : g_M) (L : g_L) {b : Nat} (hb : M 1 5 = nI b) (h60 : b ≤ 60) : mt G yX5_findBits (Cond.code yX5_findBits cX5_findBits 3 none) 2 [.ref (G.1 + 9)] M L (qV fun M' L' => L = L' ∧ M' = fbM M (bl (cB M) b b)) := by
  refine mt_of (by decide) rfl (Nat.le_of_ble_eq_true rfl) [(0, .ref (G.1 + 9))] rfl (fun X hG C hQ => ?_)
  subst hG
  refine wx_aload_n C 0 dX5_findBits_0 rfl rfl ?_
  refine wx_iconst C 0 dX5_findBits_1 (by decide) ?_
  refine pf_X5_53 C dX5_findBits_2 ?_
  refine wx_iconst C 0 dX5_findBits_5 (by decide) ?_
  refine wx_istore_n C [1, 0] [(0, .ref (X.1.1 + 9)), (1, .int 0)] dX5_findBits_6 rfl (by decide) rfl ?_
  rw [fbM_0]
  exact lp_X5_findBits C hQ hb h60 ⟨rfl, rfl, rfl⟩ (b + 1) 0 (by omega) (by omega)
/-- four dots of two bits -/
def f4 (M : g_M) (a b : Nat) : Nat → Int32 := fun i => if i = 0 then M 12 a else if i = 1 then M 13 a else if i = 2 then M 12 b else M 13 b
theorem g_row_12 {k : Nat} (h : g_row k) : (12 ≠ k ∧ 12 ≠ k + 1) ∧ (13 ≠ k ∧ 13 ≠ k + 1) := by
  rcases h with rfl | rfl | ⟨p, hp, rfl⟩ | ⟨i, hi, rfl⟩ <;> omega
theorem f4_eq (M : g_M) (k a b : Nat) : g_sr M k 4 (upd (upd (upd (upd (fun _ => 0) 0 (M 12 a)) 1 (M 13 a)) 2 (M 12 b)) 3 (M 13 b)) = g_sr M k 4 (f4 M a b) := by
  refine g_sr_cong _ _ _ (fun i hi => ?_)
  rcases (show i = 0 ∨ i = 1 ∨ i = 2 ∨ i = 3 by omega) with rfl | rfl | rfl | rfl <;> rfl
set_option maxHeartbeats 4000000 in
set_option maxRecDepth 100000 in
theorem t_X5_gather (G : g_G) (M : g_M) (L : g_L) {x y : Int32} {k a b : Nat} (hk : g_row k) (hx : x = nI a) (ha : a < 40) (hy : y = nI b) (hb : b < 40) : mt G yX5_gather (Cond.code yX5_gather cX5_gather 4 none) 1 [.ref (G.1 + 9), .int x, .int y, .ref (G.1 + k)] M L (qV fun M' L' => L = L' ∧ M' = g_sr M k 4 (f4 M a b)) := by
  refine mt_of (by decide) rfl (Nat.le_of_ble_eq_true rfl) [(0, .ref (G.1 + 9)), (1, .int x), (2, .int y), (3, .ref (G.1 + k))] rfl (fun X hG C hQ => ?_)
  subst hG
  have h12 := g_row_12 hk
  refine wx_aload_n C 3 dX5_gather_0 rfl rfl ?_
  refine ca_X5_60 C (rest := []) (t_X6_clear X.1 M L hk) (g_row_lt1 hk) (sh_row hk _ _) (by decide) rfl rfl (Nat.le_of_ble_eq_true rfl) dX5_gather_1 (kV fun M1 L1 q1 => ?_)
  obtain ⟨rfl, rfl⟩ := q1
  rw [g_sr_0 M k (fun _ => 0)]
  refine wx_aload_n C 3 dX5_gather_4 rfl rfl ?_
  refine wx_aload_n C 0 dX5_gather_5 rfl rfl ?_
  refine gf_X5_18 C dX5_gather_6 ?_
  refine wx_iload_n C 1 dX5_gather_9 rfl rfl ?_
  refine wx_iald C 12 a (by decide) (fun _ _ => rfl) (by decide) dX5_gather_10 hx ha ?_
  refine ca_X5_63 C (rest := []) (t_X6_add X.1 (g_sr M k 0 (fun _ => 0)) L hk (l := 0) (g_sr_len _ _ _ _) (by decide) _) (g_row_lt1 hk) (sh_row hk _ _) (by decide) rfl rfl (Nat.le_of_ble_eq_true rfl) dX5_gather_11 (kV fun M11 L11 q11 => ?_)
  obtain ⟨rfl, rfl⟩ := q11
  rw [g_sr_add, g_sr_out _ _ _ _ _ h12.1.1 h12.1.2]
  refine wx_aload_n C 3 dX5_gather_14 rfl rfl ?_
  refine wx_aload_n C 0 dX5_gather_15 rfl rfl ?_
  refine gf_X5_21 C dX5_gather_16 ?_
  refine wx_iload_n C 1 dX5_gather_19 rfl rfl ?_
  refine wx_iald C 13 a (by decide) (fun _ _ => rfl) (by decide) dX5_gather_20 hx ha ?_
  refine ca_X5_63 C (rest := []) (t_X6_add X.1 (g_sr M k 1 (upd (fun _ => 0) 0 (M 12 a))) L hk (l := 1) (g_sr_len _ _ _ _) (by decide) _) (g_row_lt1 hk) (sh_row hk _ _) (by decide) rfl rfl (Nat.le_of_ble_eq_true rfl) dX5_gather_21 (kV fun M21 L21 q21 => ?_)
  obtain ⟨rfl, rfl⟩ := q21
  rw [g_sr_add, g_sr_out _ _ _ _ _ h12.2.1 h12.2.2]
  refine wx_aload_n C 3 dX5_gather_24 rfl rfl ?_
  refine wx_aload_n C 0 dX5_gather_25 rfl rfl ?_
  refine gf_X5_18 C dX5_gather_26 ?_
  refine wx_iload_n C 2 dX5_gather_29 rfl rfl ?_
  refine wx_iald C 12 b (by decide) (fun _ _ => rfl) (by decide) dX5_gather_30 hy hb ?_
  refine ca_X5_63 C (rest := []) (t_X6_add X.1 (g_sr M k 2 (upd (upd (fun _ => 0) 0 (M 12 a)) 1 (M 13 a))) L hk (l := 2) (g_sr_len _ _ _ _) (by decide) _) (g_row_lt1 hk) (sh_row hk _ _) (by decide) rfl rfl (Nat.le_of_ble_eq_true rfl) dX5_gather_31 (kV fun M31 L31 q31 => ?_)
  obtain ⟨rfl, rfl⟩ := q31
  rw [g_sr_add, g_sr_out _ _ _ _ _ h12.1.1 h12.1.2]
  refine wx_aload_n C 3 dX5_gather_34 rfl rfl ?_
  refine wx_aload_n C 0 dX5_gather_35 rfl rfl ?_
  refine gf_X5_21 C dX5_gather_36 ?_
  refine wx_iload_n C 2 dX5_gather_39 rfl rfl ?_
  refine wx_iald C 13 b (by decide) (fun _ _ => rfl) (by decide) dX5_gather_40 hy hb ?_
  refine ca_X5_63 C (rest := []) (t_X6_add X.1 (g_sr M k 3 (upd (upd (upd (fun _ => 0) 0 (M 12 a)) 1 (M 13 a)) 2 (M 12 b))) L hk (l := 3) (g_sr_len _ _ _ _) (by decide) _) (g_row_lt1 hk) (sh_row hk _ _) (by decide) rfl rfl (Nat.le_of_ble_eq_true rfl) dX5_gather_41 (kV fun M41 L41 q41 => ?_)
  obtain ⟨rfl, rfl⟩ := q41
  rw [g_sr_add, g_sr_out _ _ _ _ _ h12.2.1 h12.2.2]
  refine wx_vret C hQ dX5_gather_44 ?_
  exact ⟨rfl, rfl, f4_eq M k a b⟩
set_option maxHeartbeats 4000000 in
set_option maxRecDepth 100000 in
theorem t_X5_areOfUnlikeNights (G : g_G) (M : g_M) (L : g_L) {x y : Int32} {a b c e : Nat} (hx : x = nI a) (ha : a < 40) (hy : y = nI b) (hb : b < 40) (h1 : M 12 a = nI c) (hc : c < 60) (h2 : M 12 b = nI e) (he : e < 60) : mt G yX5_areOfUnlikeNights (Cond.code yX5_areOfUnlikeNights cX5_areOfUnlikeNights 3 (some .boolean)) 1 [.ref (G.1 + 9), .int x, .int y] M L (qI fun v M' L' => v = bI (decide (¬ M 2 c / 24 = M 2 e / 24)) ∧ M = M' ∧ L = L') := by
  refine mt_of (by decide) rfl (Nat.le_of_ble_eq_true rfl) [(0, .ref (G.1 + 9)), (1, .int x), (2, .int y)] rfl (fun X hG C hQ => ?_)
  subst hG
  refine wx_aload_n C 0 dX5_areOfUnlikeNights_0 rfl rfl ?_
  refine gf_X5_31 C dX5_areOfUnlikeNights_1 ?_
  refine wx_aload_n C 0 dX5_areOfUnlikeNights_4 rfl rfl ?_
  refine gf_X5_18 C dX5_areOfUnlikeNights_5 ?_
  refine wx_iload_n C 1 dX5_areOfUnlikeNights_8 rfl rfl ?_
  refine wx_iald C 12 a (by decide) (fun _ _ => rfl) (by decide) dX5_areOfUnlikeNights_9 hx ha ?_
  refine ca_X5_98 C (rest := []) (t_X7_nightOf X.1 M L h1 hc) (by decide) rfl (by decide) rfl rfl (Nat.le_of_ble_eq_true rfl) dX5_areOfUnlikeNights_10 (kI fun r10 M10 L10 q10 => ?_)
  obtain ⟨rfl, rfl, rfl⟩ := q10
  refine wx_aload_n C 0 dX5_areOfUnlikeNights_13 rfl rfl ?_
  refine gf_X5_31 C dX5_areOfUnlikeNights_14 ?_
  refine wx_aload_n C 0 dX5_areOfUnlikeNights_17 rfl rfl ?_
  refine gf_X5_18 C dX5_areOfUnlikeNights_18 ?_
  refine wx_iload_n C 2 dX5_areOfUnlikeNights_21 rfl rfl ?_
  refine wx_iald C 12 b (by decide) (fun _ _ => rfl) (by decide) dX5_areOfUnlikeNights_22 hy hb ?_
  refine ca_X5_98 C (rest := [.int (M 2 c / 24)]) (t_X7_nightOf X.1 M L h2 he) (by decide) rfl (by decide) rfl rfl (Nat.le_of_ble_eq_true rfl) dX5_areOfUnlikeNights_23 (kI fun r23 M23 L23 q23 => ?_)
  obtain ⟨rfl, rfl, rfl⟩ := q23
  refine wx_icmp_eq C 33 dX5_areOfUnlikeNights_26 (by decide) (fun c26 => ?_) (fun c26 => ?_)
  · refine wx_iconst C 0 dX5_areOfUnlikeNights_33 (by decide) ?_
    refine wx_zret C hQ dX5_areOfUnlikeNights_34 (by decide) ?_
    exact ⟨_, rfl, by rw [decide_eq_false (fun z => z c26)]; rfl, rfl, rfl⟩
  · refine wx_iconst C 1 dX5_areOfUnlikeNights_29 (by decide) ?_
    refine wx_goto C 34 dX5_areOfUnlikeNights_30 (by decide) ?_
    refine wx_zret C hQ dX5_areOfUnlikeNights_34 (by decide) ?_
    exact ⟨_, rfl, by rw [decide_eq_true c26]; rfl, rfl, rfl⟩
set_option maxHeartbeats 4000000 in
set_option maxRecDepth 100000 in
theorem t_X5_keepPair (G : g_G) (M : g_M) (L : g_L) {x y : Int32} {n : Nat} (hn : M 9 9 = nI n) (h780 : n < 780) : mt G yX5_keepPair (Cond.code yX5_keepPair cX5_keepPair 3 none) 0 [.ref (G.1 + 9), .int x, .int y] M L (qV fun M' L' => L = L' ∧ M' = g_st (g_st (g_st M 10 n x) 11 n y) 9 9 (nI (n + 1))) := by
  refine mt_of (by decide) rfl (Nat.le_of_ble_eq_true rfl) [(0, .ref (G.1 + 9)), (1, .int x), (2, .int y)] rfl (fun X hG C hQ => ?_)
  subst hG
  refine wx_aload_n C 0 dX5_keepPair_0 rfl rfl ?_
  refine gf_X5_57 C dX5_keepPair_1 ?_
  refine wx_sipush C 780 dX5_keepPair_4 (by decide) ?_
  refine wx_icmp_ge C 40 dX5_keepPair_7 (by decide) (fun c7 => absurd c7 (by rw [hn]; exact nI_ge h780 (by decide))) (fun c7 => ?_)
  refine wx_aload_n C 0 dX5_keepPair_10 rfl rfl ?_
  refine gf_X5_9 C dX5_keepPair_11 ?_
  refine wx_aload_n C 0 dX5_keepPair_14 rfl rfl ?_
  refine gf_X5_57 C dX5_keepPair_15 ?_
  refine wx_iload_n C 1 dX5_keepPair_18 rfl rfl ?_
  refine wx_iast C 10 n (by decide) (fun _ _ => rfl) (by decide) dX5_keepPair_19 hn h780 ?_
  refine wx_aload_n C 0 dX5_keepPair_20 rfl rfl ?_
  refine gf_X5_15 C dX5_keepPair_21 ?_
  refine wx_aload_n C 0 dX5_keepPair_24 rfl rfl ?_
  refine gf_X5_57 C dX5_keepPair_25 ?_
  refine wx_iload_n C 2 dX5_keepPair_28 rfl rfl ?_
  refine wx_iast C 11 n (by decide) (fun _ _ => rfl) (by decide) dX5_keepPair_29 (by rw [g_st_ap, if_neg (by omega)]; exact hn) h780 ?_
  refine wx_aload_n C 0 dX5_keepPair_30 rfl rfl ?_
  refine wx_dup C dX5_keepPair_31 rfl ?_
  refine gf_X5_57 C dX5_keepPair_32 ?_
  refine wx_iconst C 1 dX5_keepPair_35 (by decide) ?_
  refine wx_iadd C dX5_keepPair_36 ?_
  refine pf_X5_57 C dX5_keepPair_37 ?_
  refine wx_vret C hQ dX5_keepPair_40 ?_
  refine ⟨rfl, rfl, ?_⟩
  have e1 : g_st (g_st M 10 n x) 11 n y 9 9 = nI n := by rw [g_st_ap, if_neg (by omega), g_st_ap, if_neg (by omega)]; exact hn
  rw [e1, nI_1]
