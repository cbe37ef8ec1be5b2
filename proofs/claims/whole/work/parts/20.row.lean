/-! ===== numbers and rows ===== -/
theorem wx_sub {X : g_X} {M : g_M} {L : g_L} {pc : Nat} {lv lv' : List (Nat × Value)} {st : List Value} (ks : List Nat) (h : lv_pick lv ks = lv') (k : wx X M L pc lv' st) : wx X M L pc lv st := fun H locs ls hH hS hl => k H locs ls hH hS (lv_sub hl ks h)
def bI (b : Bool) : Int32 := if b then 1 else 0
theorem bI_0 {b : Bool} : bI b = 0 ↔ b = false := by cases b <;> decide
theorem bI_n0 {b : Bool} : ¬ bI b = 0 ↔ b = true := by cases b <;> decide
theorem bI_nar (b : Bool) : narrow .boolean (.int (bI b)) = .int (bI b) := by cases b <;> rfl
theorem i_le (a b : Int32) : a ≤ b ↔ a.toInt ≤ b.toInt := Int32.le_iff_toInt_le
theorem i_lt (a b : Int32) : a < b ↔ a.toInt < b.toInt := Int32.lt_iff_toInt_lt
theorem i_eq (a b : Int32) : a = b ↔ a.toInt = b.toInt := Int32.toInt_inj.symm
theorem j_le (a b : Int64) : a ≤ b ↔ a.toInt ≤ b.toInt := Int64.le_iff_toInt_le
theorem j_lt (a b : Int64) : a < b ↔ a.toInt < b.toInt := Int64.lt_iff_toInt_lt
theorem j_eq (a b : Int64) : a = b ↔ a.toInt = b.toInt := Int64.toInt_inj.symm
theorem nI_inj {a b : Nat} (ha : a < 2 ^ 31) (hb : b < 2 ^ 31) (h : nI a = nI b) : a = b := (nI_eq ha hb).mp h
/-- a row k is told anew: its length, its first entries -/
def g_sr (M : g_M) (k l : Nat) (f : Nat → Int32) : g_M := fun a b => if a = k ∧ b = 1 then nI l else if a = k + 1 ∧ b < l then f b else M a b
theorem g_sr_0 (M : g_M) (k : Nat) (f : Nat → Int32) : g_st M k 1 0 = g_sr M k 0 f := by
  funext a b
  simp only [g_st_ap, g_sr]
  (repeat' split) <;> first | rfl | (exfalso; omega)
theorem g_sr_add (M : g_M) (k l : Nat) (f : Nat → Int32) (x : Int32) : g_st (g_st (g_sr M k l f) (k + 1) l x) k 1 (nI (l + 1)) = g_sr M k (l + 1) (upd f l x) := by
  funext a b
  simp only [g_st_ap, g_sr, upd]
  (repeat' split) <;> first | rfl | (exfalso; omega)
theorem g_sr_cong (M : g_M) (k l : Nat) {f g : Nat → Int32} (h : ∀ i, i < l → f i = g i) : g_sr M k l f = g_sr M k l g := by
  funext a b
  simp only [g_sr]
  (repeat' split) <;> first | rfl | (exfalso; omega) | exact h b (by omega)
theorem g_sr_sr (M : g_M) (k l l2 : Nat) (f g : Nat → Int32) (h : l ≤ l2) : g_sr (g_sr M k l f) k l2 g = g_sr M k l2 g := by
  funext a b
  simp only [g_sr]
  (repeat' split) <;> first | rfl | (exfalso; omega)
theorem g_sr_len (M : g_M) (k l : Nat) (f : Nat → Int32) : g_sr M k l f k 1 = nI l := by simp [g_sr]
theorem g_sr_at (M : g_M) (k l : Nat) (f : Nat → Int32) {i : Nat} (h : i < l) : g_sr M k l f (k + 1) i = f i := by
  unfold g_sr
  rw [if_neg (show ¬ (k + 1 = k ∧ i = 1) by omega), if_pos ⟨rfl, h⟩]
theorem g_sr_out (M : g_M) (k l : Nat) (f : Nat → Int32) {a : Nat} (b : Nat) (h1 : a ≠ k) (h2 : a ≠ k + 1) : g_sr M k l f a b = M a b := by
  simp only [g_sr]
  (repeat' split) <;> first | rfl | (exfalso; omega)
theorem g_row_ne {k j : Nat} (hk : g_row k) (hj : g_row j) : j ≠ k + 1 := by
  rcases hk with rfl | rfl | ⟨p, hp, rfl⟩ | ⟨i, hi, rfl⟩ <;> rcases hj with rfl | rfl | ⟨q, hq, rfl⟩ | ⟨u, hu, rfl⟩ <;> omega
/-! ===== Row ===== -/
set_option maxHeartbeats 4000000 in
set_option maxRecDepth 100000 in
theorem t_X6_clear (G : g_G) (M : g_M) (L : g_L) {k : Nat} (hk : g_row k) : mt G yX6_clear (Cond.code yX6_clear cX6_clear 1 none) 0 [.ref (G.1 + k)] M L (qV fun M' L' => M' = g_st M k 1 0 ∧ L = L') := by
  refine mt_of (by decide) rfl (Nat.le_of_ble_eq_true rfl) [(0, .ref (G.1 + k))] rfl (fun X hG C hQ => ?_)
  subst hG
  refine wx_aload_n C 0 dX6_clear_0 rfl rfl ?_
  refine wx_iconst C 0 dX6_clear_1 (by decide) ?_
  refine pf_X6_15 C hk dX6_clear_2 ?_
  refine wx_vret C hQ dX6_clear_5 ?_
  exact ⟨rfl, rfl, rfl⟩
set_option maxHeartbeats 4000000 in
set_option maxRecDepth 100000 in
theorem t_X6_add (G : g_G) (M : g_M) (L : g_L) {k l : Nat} (hk : g_row k) (hl : M k 1 = nI l) (h16 : l < 16) (x : Int32) : mt G yX6_add (Cond.code yX6_add cX6_add 2 none) 0 [.ref (G.1 + k), .int x] M L (qV fun M' L' => M' = g_st (g_st M (k + 1) l x) k 1 (nI (l + 1)) ∧ L = L') := by
  refine mt_of (by decide) rfl (Nat.le_of_ble_eq_true rfl) [(0, .ref (G.1 + k)), (1, .int x)] rfl (fun X hG C hQ => ?_)
  subst hG
  refine wx_aload_n C 0 dX6_add_0 rfl rfl ?_
  refine gf_X6_15 C hk dX6_add_1 ?_
  refine wx_bipush C 16 dX6_add_4 (by decide) ?_
  refine wx_icmp_ge C 29 dX6_add_6 (by decide) (fun c6 => absurd c6 (by rw [hl]; exact nI_ge h16 (by decide))) (fun c6 => ?_)
  refine wx_aload_n C 0 dX6_add_9 rfl rfl ?_
  refine gf_X6_11 C hk dX6_add_10 ?_
  refine wx_aload_n C 0 dX6_add_13 rfl rfl ?_
  refine gf_X6_15 C hk dX6_add_14 ?_
  refine wx_iload_n C 1 dX6_add_17 rfl rfl ?_
  refine wx_iast C (k + 1) l (g_row_lt2 hk) (sh_rowD hk) (by decide) dX6_add_18 hl h16 ?_
  refine wx_aload_n C 0 dX6_add_19 rfl rfl ?_
  refine wx_dup C dX6_add_20 rfl ?_
  refine gf_X6_15 C hk dX6_add_21 ?_
  refine wx_iconst C 1 dX6_add_24 (by decide) ?_
  refine wx_iadd C dX6_add_25 ?_
  refine pf_X6_15 C hk dX6_add_26 ?_
  refine wx_vret C hQ dX6_add_29 ?_
  refine ⟨rfl, ?_, rfl⟩
  have e : g_st M (k + 1) l x k 1 = nI l := by rw [g_st_ap, if_neg (by omega)]; exact hl
  rw [e, nI_1]
/-- row j behind the first a entries of row k, i of it so far -/
def aa (M : g_M) (k j a i : Nat) : g_M := g_sr M k (a + i) (fun q => if q < a then M (k + 1) q else M (j + 1) (q - a))
theorem aa_len {M : g_M} {k j a i : Nat} (h1 : j ≠ k) (h2 : j ≠ k + 1) : aa M k j a i j 1 = M j 1 := g_sr_out _ _ _ _ _ h1 h2
theorem aa_at {M : g_M} {k j a i q : Nat} (h1 : j + 1 ≠ k) (h2 : j + 1 ≠ k + 1) : aa M k j a i (j + 1) q = M (j + 1) q := g_sr_out _ _ _ _ _ h1 h2
theorem aa_upd {M : g_M} {k j a i : Nat} (h1 : j + 1 ≠ k) (h2 : j + 1 ≠ k + 1) : g_st (g_st (aa M k j a i) (k + 1) (a + i) (aa M k j a i (j + 1) i)) k 1 (nI (a + i + 1)) = aa M k j a (i + 1) := by
  rw [aa_at h1 h2]
  unfold aa
  rw [g_sr_add, show a + (i + 1) = a + i + 1 by omega]
  refine g_sr_cong _ _ _ (fun q hq => ?_)
  simp only [upd]
  by_cases h : q = a + i
  · rw [if_pos h, if_neg (show ¬ q < a by omega), show q - a = i by omega]
  · rw [if_neg h]
theorem aa_0 (M : g_M) (k j a : Nat) (h : M k 1 = nI a) : aa M k j a 0 = M := by
  funext x y
  simp only [aa, g_sr]
  by_cases h1 : x = k ∧ y = 1
  · rw [if_pos h1, h1.1, h1.2, h, Nat.add_zero]
  · rw [if_neg h1]
    by_cases h2 : x = k + 1 ∧ y < a + 0
    · rw [if_pos h2, if_pos (show y < a by omega), h2.1]
    · rw [if_neg h2]
set_option maxHeartbeats 4000000 in
set_option maxRecDepth 100000 in
theorem lp_X6_addAll {X : g_X} {Qr : Option Value → g_M → g_L → Prop} (C : Cx X cX6_addAll 3 RX6 none 1) (hQ : Rx X Qr) {M : g_M} {L : g_L} {k j a b : Nat} (hk : g_row k) (hj : g_row j) (hkj : j ≠ k) (hb : M j 1 = nI b) (h16 : a + b ≤ 16) (hp : Qr none (aa M k j a b) L) : ∀ (n i : Nat), i ≤ b → b < i + n → wx X (aa M k j a i) L 2 [(0, .ref (X.1.1 + k)), (1, .ref (X.1.1 + j)), (2, .int (nI i))] [] := by
  have hkj1 : j ≠ k + 1 := g_row_ne hk hj
  have hkj2 : j + 1 ≠ k := fun h => g_row_ne hj hk h.symm
  have hkj3 : j + 1 ≠ k + 1 := by omega
  intro n
  induction n with
  | zero =>
    intro i h1 h2
    exact absurd h2 (by omega)
  | succ n ih =>
    intro i hi0 hin
    refine wx_iload_n C 2 dX6_addAll_2 rfl rfl ?_
    refine wx_aload_n C 1 dX6_addAll_3 rfl rfl ?_
    refine gf_X6_15 C hj dX6_addAll_4 ?_
    refine wx_icmp_ge C 26 dX6_addAll_7 (by decide) (fun c7 => ?_) (fun c7 => ?_)
    · obtain rfl : i = b := by
        rw [aa_len hkj hkj1, hb] at c7
        exact Nat.le_antisymm hi0 ((nI_leI (by omega) (by omega)).mp c7)
      refine wx_vret C hQ dX6_addAll_26 ?_
      exact hp
    · have hi : i < b := by
        rw [aa_len hkj hkj1, hb] at c7
        exact Nat.lt_of_not_le (fun h => c7 ((nI_leI (by omega) (by omega)).mpr h))
      refine wx_aload_n C 0 dX6_addAll_10 rfl rfl ?_
      refine wx_aload_n C 1 dX6_addAll_11 rfl rfl ?_
      refine gf_X6_11 C hj dX6_addAll_12 ?_
      refine wx_iload_n C 2 dX6_addAll_15 rfl rfl ?_
      refine wx_iald C (j + 1) i (g_row_lt2 hj) (sh_rowD hj) (by decide) dX6_addAll_16 rfl (by omega) ?_
      refine ca_X6_19 C (rest := []) (t_X6_add X.1 (aa M k j a i) L hk (l := a + i) (g_sr_len _ _ _ _) (by omega) _) (g_row_lt1 hk) (sh_row hk _ _) (by decide) rfl rfl (Nat.le_of_ble_eq_true rfl) dX6_addAll_17 (kV fun M17 L17 q17 => ?_)
      obtain ⟨rfl, rfl⟩ := q17
      rw [aa_upd hkj2 hkj3]
      refine wx_iinc C (v := (nI (i + 1))) 2 [1, 2, 0] [(0, .ref (X.1.1 + k)), (1, .ref (X.1.1 + j)), (2, .int (nI (i + 1)))] dX6_addAll_20 rfl (nI_1 _) (by decide) rfl ?_
      refine wx_goto C 2 dX6_addAll_23 (by decide) ?_
      exact ih (i + 1) (by omega) (by omega)
set_option maxHeartbeats 4000000 in
set_option maxRecDepth 100000 in
theorem t_X6_addAll (G : g_G) (M : g_M) (L : g_L) {k j a b : Nat} (hk : g_row k) (hj : g_row j) (hkj : j ≠ k) (ha : M k 1 = nI a) (hb : M j 1 = nI b) (h16 : a + b ≤ 16) : mt G yX6_addAll (Cond.code yX6_addAll cX6_addAll 3 none) 1 [.ref (G.1 + k), .ref (G.1 + j)] M L (qV fun M' L' => M' = aa M k j a b ∧ L = L') := by
  refine mt_of (by decide) rfl (Nat.le_of_ble_eq_true rfl) [(0, .ref (G.1 + k)), (1, .ref (G.1 + j))] rfl (fun X hG C hQ => ?_)
  subst hG
  refine wx_iconst C 0 dX6_addAll_0 (by decide) ?_
  refine wx_istore_n C [1, 2, 0] [(0, .ref (X.1.1 + k)), (1, .ref (X.1.1 + j)), (2, .int 0)] dX6_addAll_1 rfl (by decide) rfl ?_
  have h := lp_X6_addAll C hQ (M := M) (L := L) hk hj hkj hb h16 ⟨rfl, rfl, rfl⟩ (b + 1) 0 (by omega) (by omega)
  rw [aa_0 M k j a ha] at h
  exact h
/-- row k becomes as row j -/
theorem be_eq {M : g_M} {k j b : Nat} (hkj : j ≠ k) (hkj2 : j + 1 ≠ k) : aa (g_st M k 1 0) k j 0 b = g_sr M k b (M (j + 1)) := by
  rw [g_sr_0 M k (M (j + 1))]
  unfold aa
  rw [Nat.zero_add, g_sr_sr _ _ _ _ _ _ (Nat.zero_le _)]
  refine g_sr_cong _ _ _ (fun q hq => ?_)
  rw [if_neg (show ¬ q < 0 by omega), Nat.sub_zero]
  unfold g_sr
  by_cases h : j + 1 = k ∧ q = 1
  · exact absurd h.1 hkj2
  · rw [if_neg h, if_neg (show ¬ (j + 1 = k + 1 ∧ q < 0) by omega)]
set_option maxHeartbeats 4000000 in
set_option maxRecDepth 100000 in
theorem t_X6_become (G : g_G) (M : g_M) (L : g_L) {k j b : Nat} (hk : g_row k) (hj : g_row j) (hkj : j ≠ k) (hb : M j 1 = nI b) (h16 : b ≤ 16) : mt G yX6_become (Cond.code yX6_become cX6_become 2 none) 2 [.ref (G.1 + k), .ref (G.1 + j)] M L (qV fun M' L' => M' = g_sr M k b (M (j + 1)) ∧ L = L') := by
  refine mt_of (by decide) rfl (Nat.le_of_ble_eq_true rfl) [(0, .ref (G.1 + k)), (1, .ref (G.1 + j))] rfl (fun X hG C hQ => ?_)
  subst hG
  refine wx_aload_n C 0 dX6_become_0 rfl rfl ?_
  refine ca_X6_23 C (rest := []) (t_X6_clear X.1 M L hk) (g_row_lt1 hk) (sh_row hk _ _) (by decide) rfl rfl (Nat.le_of_ble_eq_true rfl) dX6_become_1 (kV fun M1 L1 q1 => ?_)
  obtain ⟨rfl, rfl⟩ := q1
  refine wx_aload_n C 0 dX6_become_4 rfl rfl ?_
  refine wx_aload_n C 1 dX6_become_5 rfl rfl ?_
  refine ca_X6_26 C (rest := []) (t_X6_addAll X.1 (g_st M k 1 0) L hk hj hkj (a := 0) (b := b) (by rw [g_st_ap]; simp; rfl) (by rw [g_st_ap, if_neg (by omega)]; exact hb) (by omega)) (g_row_lt1 hk) (sh_row hk _ _) (by decide) rfl rfl (Nat.le_of_ble_eq_true rfl) dX6_become_6 (kV fun M6 L6 q6 => ?_)
  obtain ⟨rfl, rfl⟩ := q6
  refine wx_vret C hQ dX6_become_9 ?_
  exact ⟨rfl, be_eq hkj (fun h => g_row_ne hj hk h.symm), rfl⟩
