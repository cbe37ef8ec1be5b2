/-! ===== Sky ===== -/
theorem in_of {x : Int32} {n : Nat} (hn : n < 2 ^ 31) (h0 : 0 ≤ x) (h : x < nI n) : ∃ d, d < n ∧ x = nI d := by
  rw [i_lt, nI_toInt hn] at h
  have h1 : ¬ x < 0 := by
    rw [i_lt]; rw [i_le] at h0
    omega
  obtain ⟨j, hj, e⟩ := nI_of h1
  subst e
  rw [nI_toInt hj] at h
  exact ⟨j, by omega, rfl⟩
/-- the first i of n with P, from i on -/
def sf (P : Nat → Bool) : Nat → Nat → Int32
  | _, 0 => -1
  | i, n + 1 => if P i then nI i else sf P (i + 1) n
/-- how many below n have P -/
def cn (P : Nat → Bool) : Nat → Nat
  | 0 => 0
  | n + 1 => cn P n + (if P n then 1 else 0)
theorem cn_le (P : Nat → Bool) : ∀ n, cn P n ≤ n
  | 0 => Nat.le_refl 0
  | n + 1 => by
    have h := cn_le P n
    simp only [cn]
    split <;> omega
def plc (x y : Nat → Int32) (ax : Int32) (d : Nat) : Int32 := if ax = 0 then x d else y d
/-- the dots of a row, i of them, are put into a path -/
def pa (M : g_M) (r : Nat → Nat) (v : Int32) : Nat → g_M
  | 0 => M
  | i + 1 => g_st (pa M r v i) 6 (r i) v
theorem pa_out (M : g_M) (r : Nat → Nat) (v : Int32) {a : Nat} (b : Nat) (h : a ≠ 6) : ∀ i, pa M r v i a b = M a b
  | 0 => rfl
  | i + 1 => by
    rw [pa, g_st_ap, if_neg (by omega)]
    exact pa_out M r v b h i
theorem pa_in (M : g_M) (r : Nat → Nat) (v : Int32) {b : Nat} : ∀ i, (∃ q, q < i ∧ r q = b) → pa M r v i 6 b = v
  | 0, h => by obtain ⟨q, hq, -⟩ := h; omega
  | i + 1, h => by
    rw [pa, g_st_ap]
    by_cases e : b = r i
    · rw [if_pos ⟨rfl, e⟩]
    · rw [if_neg (fun q => e q.2)]
      obtain ⟨q, hq, e2⟩ := h
      have : q ≠ i := fun z => e (by rw [← e2, z])
      exact pa_in M r v i ⟨q, by omega, e2⟩
theorem pa_no (M : g_M) (r : Nat → Nat) (v : Int32) {b : Nat} : ∀ i, (∀ q, q < i → r q ≠ b) → pa M r v i 6 b = M 6 b
  | 0, _ => rfl
  | i + 1, h => by
    rw [pa, g_st_ap, if_neg (fun q => h i (by omega) q.2.symm)]
    exact pa_no M r v i (fun q hq => h q (by omega))
set_option maxHeartbeats 4000000 in
set_option maxRecDepth 100000 in
theorem t_X7_has (G : g_G) (M : g_M) (L : g_L) (x : Int32) : mt G yX7_has (Cond.code yX7_has cX7_has 2 (some .boolean)) 0 [.ref (G.1 + 1), .int x] M L (qI fun v M' L' => v = bI (decide (0 ≤ x ∧ x < M 1 5)) ∧ M = M' ∧ L = L') := by
  refine mt_of (by decide) rfl (Nat.le_of_ble_eq_true rfl) [(0, .ref (G.1 + 1)), (1, .int x)] rfl (fun X hG C hQ => ?_)
  subst hG
  refine wx_iload_n C 1 dX7_has_0 rfl rfl ?_
  refine wx_if_lt C 16 dX7_has_1 (by decide) (fun c1 => ?_) (fun c1 => ?_)
  · refine wx_iconst C 0 dX7_has_16 (by decide) ?_
    refine wx_zret C hQ dX7_has_17 (by decide) ?_
    refine ⟨_, rfl, ?_, rfl, rfl⟩
    rw [decide_eq_false]
    · rfl
    · intro h
      first | exact c9 (Int32.not_le.mpr h.2) | (exact absurd c9 (Int32.not_le.mpr h.2)) | (exact absurd c1 (Int32.not_lt.mpr h.1))
  · refine wx_iload_n C 1 dX7_has_4 rfl rfl ?_
    refine wx_aload_n C 0 dX7_has_5 rfl rfl ?_
    refine gf_X7_27 C dX7_has_6 ?_
    refine wx_icmp_ge C 16 dX7_has_9 (by decide) (fun c9 => ?_) (fun c9 => ?_)
    · refine wx_iconst C 0 dX7_has_16 (by decide) ?_
      refine wx_zret C hQ dX7_has_17 (by decide) ?_
      refine ⟨_, rfl, ?_, rfl, rfl⟩
      rw [decide_eq_false]
      · rfl
      · intro h
        first | exact c9 (Int32.not_le.mpr h.2) | (exact absurd c9 (Int32.not_le.mpr h.2)) | (exact absurd c1 (Int32.not_lt.mpr h.1))
    · refine wx_iconst C 1 dX7_has_12 (by decide) ?_
      refine wx_goto C 17 dX7_has_13 (by decide) ?_
      refine wx_zret C hQ dX7_has_17 (by decide) ?_
      refine ⟨_, rfl, ?_, rfl, rfl⟩
      rw [decide_eq_true]
      · rfl
      · exact ⟨Int32.not_lt.mp c1, Int32.not_le.mp c9⟩
set_option maxHeartbeats 4000000 in
set_option maxRecDepth 100000 in
theorem t_X7_isFree (G : g_G) (M : g_M) (L : g_L) {x : Int32} {e : Nat} (hx : x = nI e) (he : e < 60) : mt G yX7_isFree (Cond.code yX7_isFree cX7_isFree 2 (some .boolean)) 0 [.ref (G.1 + 1), .int x] M L (qI fun v M' L' => v = bI (decide (M 6 e = -1)) ∧ M = M' ∧ L = L') := by
  refine mt_of (by decide) rfl (Nat.le_of_ble_eq_true rfl) [(0, .ref (G.1 + 1)), (1, .int x)] rfl (fun X hG C hQ => ?_)
  subst hG
  refine wx_aload_n C 0 dX7_isFree_0 rfl rfl ?_
  refine gf_X7_24 C dX7_isFree_1 ?_
  refine wx_iload_n C 1 dX7_isFree_4 rfl rfl ?_
  refine wx_iald C 6 e (by decide) (fun _ _ => rfl) (by decide) dX7_isFree_5 hx he ?_
  refine wx_iconst C (-1) dX7_isFree_6 (by decide) ?_
  refine wx_icmp_ne C 14 dX7_isFree_7 (by decide) (fun c7 => ?_) (fun c7 => ?_)
  · refine wx_iconst C 0 dX7_isFree_14 (by decide) ?_
    refine wx_zret C hQ dX7_isFree_15 (by decide) ?_
    refine ⟨_, rfl, ?_, rfl, rfl⟩
    rw [decide_eq_false]
    · rfl
    · exact c7
  · refine wx_iconst C 1 dX7_isFree_10 (by decide) ?_
    refine wx_goto C 15 dX7_isFree_11 (by decide) ?_
    refine wx_zret C hQ dX7_isFree_15 (by decide) ?_
    refine ⟨_, rfl, ?_, rfl, rfl⟩
    rw [decide_eq_true]
    · rfl
    · exact c7
set_option maxHeartbeats 4000000 in
set_option maxRecDepth 100000 in
theorem t_X7_nightOf (G : g_G) (M : g_M) (L : g_L) {x : Int32} {e : Nat} (hx : x = nI e) (he : e < 60) : mt G yX7_nightOf (Cond.code yX7_nightOf cX7_nightOf 2 (some .int)) 0 [.ref (G.1 + 1), .int x] M L (qI fun v M' L' => v = M 2 e / 24 ∧ M = M' ∧ L = L') := by
  refine mt_of (by decide) rfl (Nat.le_of_ble_eq_true rfl) [(0, .ref (G.1 + 1)), (1, .int x)] rfl (fun X hG C hQ => ?_)
  subst hG
  refine wx_aload_n C 0 dX7_nightOf_0 rfl rfl ?_
  refine gf_X7_9 C dX7_nightOf_1 ?_
  refine wx_iload_n C 1 dX7_nightOf_4 rfl rfl ?_
  refine wx_iald C 2 e (by decide) (fun _ _ => rfl) (by decide) dX7_nightOf_5 hx he ?_
  refine wx_bipush C 24 dX7_nightOf_6 (by decide) ?_
  refine wx_idiv C dX7_nightOf_8 (by decide) ?_
  refine wx_iret C hQ dX7_nightOf_9 ?_
  exact ⟨_, rfl, rfl, rfl, rfl⟩
set_option maxHeartbeats 4000000 in
set_option maxRecDepth 100000 in
theorem t_X7_placeOf (G : g_G) (M : g_M) (L : g_L) {x : Int32} {e : Nat} (hx : x = nI e) (he : e < 60) (ax : Int32) : mt G yX7_placeOf (Cond.code yX7_placeOf cX7_placeOf 3 (some .int)) 0 [.ref (G.1 + 1), .int x, .int ax] M L (qI fun v M' L' => v = plc (M 3) (M 4) ax e ∧ M = M' ∧ L = L') := by
  refine mt_of (by decide) rfl (Nat.le_of_ble_eq_true rfl) [(0, .ref (G.1 + 1)), (1, .int x), (2, .int ax)] rfl (fun X hG C hQ => ?_)
  subst hG
  refine wx_iload_n C 2 dX7_placeOf_0 rfl rfl ?_
  refine wx_if_ne C 13 dX7_placeOf_1 (by decide) (fun c1 => ?_) (fun c1 => ?_)
  · refine wx_aload_n C 0 dX7_placeOf_13 rfl rfl ?_
    refine gf_X7_18 C dX7_placeOf_14 ?_
    refine wx_iload_n C 1 dX7_placeOf_17 rfl rfl ?_
    refine wx_iald C 4 e (by decide) (fun _ _ => rfl) (by decide) dX7_placeOf_18 hx he ?_
    refine wx_iret C hQ dX7_placeOf_19 ?_
    exact ⟨_, rfl, by simp only [plc]; first | rw [if_pos c1] | rw [if_neg c1], rfl, rfl⟩
  · refine wx_aload_n C 0 dX7_placeOf_4 rfl rfl ?_
    refine gf_X7_15 C dX7_placeOf_5 ?_
    refine wx_iload_n C 1 dX7_placeOf_8 rfl rfl ?_
    refine wx_iald C 3 e (by decide) (fun _ _ => rfl) (by decide) dX7_placeOf_9 hx he ?_
    refine wx_goto C 19 dX7_placeOf_10 (by decide) ?_
    refine wx_iret C hQ dX7_placeOf_19 ?_
    exact ⟨_, rfl, by simp only [plc]; first | rw [if_pos c1] | rw [if_neg c1], rfl, rfl⟩
set_option maxHeartbeats 4000000 in
set_option maxRecDepth 100000 in
theorem lp_X7_find {X : g_X} {Qr : Option Value → g_M → g_L → Prop} (C : Cx X cX7_find 5 RX7 (some .int) 0) (hQ : Rx X Qr) {M : g_M} {L : g_L} {h x y : Int32} {b : Nat} (hb : M 1 5 = nI b) (h60 : b ≤ 60) : ∀ (n i : Nat), i ≤ b → b < i + n → Qr (some (.int (sf (fun e => decide (M 2 e = h ∧ M 3 e = x ∧ M 4 e = y)) i (b - i)))) M L → wx X M L 3 [(0, .ref (X.1.1 + 1)), (1, .int h), (2, .int x), (3, .int y), (4, .int (nI i))] [] := by
  intro n
  induction n with
  | zero =>
    intro i h1 h2
    exact absurd h2 (by omega)
  | succ n ih =>
    intro i hi0 hin hp
    refine wx_iload C 4 dX7_find_3 rfl ?_
    refine wx_aload_n C 0 dX7_find_5 rfl rfl ?_
    refine gf_X7_27 C dX7_find_6 ?_
    refine wx_icmp_ge C 54 dX7_find_9 (by decide) (fun c9 => ?_) (fun c9 => ?_)
    · obtain rfl : i = b := by
        rw [hb] at c9
        exact Nat.le_antisymm hi0 ((nI_leI (by omega) (by omega)).mp c9)
      refine wx_iconst C (-1) dX7_find_54 (by decide) ?_
      refine wx_iret C hQ dX7_find_55 ?_
      rw [Nat.sub_self] at hp
      exact hp
    · have hi : i < b := by
        rw [hb] at c9
        exact Nat.lt_of_not_le (fun h => c9 ((nI_leI (by omega) (by omega)).mpr h))
      refine wx_aload_n C 0 dX7_find_12 rfl rfl ?_
      refine gf_X7_9 C dX7_find_13 ?_
      refine wx_iload C 4 dX7_find_16 rfl ?_
      refine wx_iald C 2 i (by decide) (fun _ _ => rfl) (by decide) dX7_find_18 rfl (by omega) ?_
      refine wx_iload_n C 1 dX7_find_19 rfl rfl ?_
      refine wx_icmp_ne C 48 dX7_find_20 (by decide) (fun c20 => ?_) (fun c20 => ?_)
      · refine wx_iinc C (v := (nI (i + 1))) 4 [1, 2, 3, 4, 0] [(0, .ref (X.1.1 + 1)), (1, .int h), (2, .int x), (3, .int y), (4, .int (nI (i + 1)))] dX7_find_48 rfl (nI_1 _) (by decide) rfl ?_
        refine wx_goto C 3 dX7_find_51 (by decide) ?_
        refine ih (i + 1) (by omega) (by omega) ?_
        rw [show b - i = (b - (i + 1)) + 1 by omega, sf, if_neg (by simp; intros; first | contradiction | (simp_all; done))] at hp
        exact hp
      · refine wx_aload_n C 0 dX7_find_23 rfl rfl ?_
        refine gf_X7_15 C dX7_find_24 ?_
        refine wx_iload C 4 dX7_find_27 rfl ?_
        refine wx_iald C 3 i (by decide) (fun _ _ => rfl) (by decide) dX7_find_29 rfl (by omega) ?_
        refine wx_iload_n C 2 dX7_find_30 rfl rfl ?_
        refine wx_icmp_ne C 48 dX7_find_31 (by decide) (fun c31 => ?_) (fun c31 => ?_)
        · refine wx_iinc C (v := (nI (i + 1))) 4 [1, 2, 3, 4, 0] [(0, .ref (X.1.1 + 1)), (1, .int h), (2, .int x), (3, .int y), (4, .int (nI (i + 1)))] dX7_find_48 rfl (nI_1 _) (by decide) rfl ?_
          refine wx_goto C 3 dX7_find_51 (by decide) ?_
          refine ih (i + 1) (by omega) (by omega) ?_
          rw [show b - i = (b - (i + 1)) + 1 by omega, sf, if_neg (by simp; intros; first | contradiction | (simp_all; done))] at hp
          exact hp
        · refine wx_aload_n C 0 dX7_find_34 rfl rfl ?_
          refine gf_X7_18 C dX7_find_35 ?_
          refine wx_iload C 4 dX7_find_38 rfl ?_
          refine wx_iald C 4 i (by decide) (fun _ _ => rfl) (by decide) dX7_find_40 rfl (by omega) ?_
          refine wx_iload_n C 3 dX7_find_41 rfl rfl ?_
          refine wx_icmp_ne C 48 dX7_find_42 (by decide) (fun c42 => ?_) (fun c42 => ?_)
          · refine wx_iinc C (v := (nI (i + 1))) 4 [1, 2, 3, 4, 0] [(0, .ref (X.1.1 + 1)), (1, .int h), (2, .int x), (3, .int y), (4, .int (nI (i + 1)))] dX7_find_48 rfl (nI_1 _) (by decide) rfl ?_
            refine wx_goto C 3 dX7_find_51 (by decide) ?_
            refine ih (i + 1) (by omega) (by omega) ?_
            rw [show b - i = (b - (i + 1)) + 1 by omega, sf, if_neg (by simp; intros; first | contradiction | (simp_all; done))] at hp
            exact hp
          · refine wx_iload C 4 dX7_find_45 rfl ?_
            refine wx_iret C hQ dX7_find_47 ?_
            rw [show b - i = (b - (i + 1)) + 1 by omega, sf, if_pos (by simp only [decide_eq_true_eq]; exact ⟨c20, c31, c42⟩)] at hp
            exact hp
set_option maxHeartbeats 4000000 in
set_option maxRecDepth 100000 in
theorem t_X7_find (G : g_G) (M : g_M) (L : g_L) (h x y : Int32) {b : Nat} (hb : M 1 5 = nI b) (h60 : b ≤ 60) : mt G yX7_find (Cond.code yX7_find cX7_find 5 (some .int)) 0 [.ref (G.1 + 1), .int h, .int x, .int y] M L (qI fun v M' L' => v = sf (fun e => decide (M 2 e = h ∧ M 3 e = x ∧ M 4 e = y)) 0 b ∧ M = M' ∧ L = L') := by
  refine mt_of (by decide) rfl (Nat.le_of_ble_eq_true rfl) [(0, .ref (G.1 + 1)), (1, .int h), (2, .int x), (3, .int y)] rfl (fun X hG C hQ => ?_)
  subst hG
  refine wx_iconst C 0 dX7_find_0 (by decide) ?_
  refine wx_istore C [1, 2, 3, 4, 0] [(0, .ref (X.1.1 + 1)), (1, .int h), (2, .int x), (3, .int y), (4, .int 0)] dX7_find_1 (by decide) rfl ?_
  exact lp_X7_find C hQ hb h60 (b + 1) 0 (by omega) (by omega) ⟨_, rfl, rfl, rfl, rfl⟩
/-- a dot more -/
def sk_add (M : g_M) (n : Nat) (h x y w : Int32) : g_M := g_st (g_st (g_st (g_st (g_st (g_st M 2 n h) 3 n x) 4 n y) 5 n w) 6 n (-1)) 1 5 (nI (n + 1))
set_option maxHeartbeats 4000000 in
set_option maxRecDepth 100000 in
theorem t_X7_add (G : g_G) (M : g_M) (L : g_L) (h x y w : Int32) {n : Nat} (hn : M 1 5 = nI n) (h60 : n ≤ 60) : mt G yX7_add (Cond.code yX7_add cX7_add 6 (some .int)) 0 [.ref (G.1 + 1), .int h, .int x, .int y, .int w] M L (qI fun v M' L' => (n = 60 ∧ v = -4 ∧ M = M' ∨ n < 60 ∧ v = nI n ∧ M' = sk_add M n h x y w) ∧ L = L') := by
  refine mt_of (by decide) rfl (Nat.le_of_ble_eq_true rfl) [(0, .ref (G.1 + 1)), (1, .int h), (2, .int x), (3, .int y), (4, .int w)] rfl (fun X hG C hQ => ?_)
  subst hG
  refine wx_aload_n C 0 dX7_add_0 rfl rfl ?_
  refine gf_X7_27 C dX7_add_1 ?_
  refine wx_bipush C 60 dX7_add_4 (by decide) ?_
  refine wx_icmp_lt C 12 dX7_add_6 (by decide) (fun c6 => ?_) (fun c6 => ?_)
  · have hlt : n < 60 := by
      rw [hn] at c6
      exact (nI_ltI (by omega) (by omega)).mp c6
    refine wx_aload_n C 0 dX7_add_12 rfl rfl ?_
    refine gf_X7_27 C dX7_add_13 ?_
    refine wx_istore C [1, 2, 3, 4, 5, 0] [(0, .ref (X.1.1 + 1)), (1, .int h), (2, .int x), (3, .int y), (4, .int w), (5, .int (M 1 5))] dX7_add_16 (by decide) rfl ?_
    refine wx_aload_n C 0 dX7_add_18 rfl rfl ?_
    refine gf_X7_9 C dX7_add_19 ?_
    refine wx_iload C 5 dX7_add_22 rfl ?_
    refine wx_iload_n C 1 dX7_add_24 rfl rfl ?_
    refine wx_iast C 2 n (by decide) (fun _ _ => rfl) (by decide) dX7_add_25 hn hlt ?_
    refine wx_aload_n C 0 dX7_add_26 rfl rfl ?_
    refine gf_X7_15 C dX7_add_27 ?_
    refine wx_iload C 5 dX7_add_30 rfl ?_
    refine wx_iload_n C 2 dX7_add_32 rfl rfl ?_
    refine wx_iast C 3 n (by decide) (fun _ _ => rfl) (by decide) dX7_add_33 hn hlt ?_
    refine wx_aload_n C 0 dX7_add_34 rfl rfl ?_
    refine gf_X7_18 C dX7_add_35 ?_
    refine wx_iload C 5 dX7_add_38 rfl ?_
    refine wx_iload_n C 3 dX7_add_40 rfl rfl ?_
    refine wx_iast C 4 n (by decide) (fun _ _ => rfl) (by decide) dX7_add_41 hn hlt ?_
    refine wx_aload_n C 0 dX7_add_42 rfl rfl ?_
    refine gf_X7_21 C dX7_add_43 ?_
    refine wx_iload C 5 dX7_add_46 rfl ?_
    refine wx_iload C 4 dX7_add_48 rfl ?_
    refine wx_iast C 5 n (by decide) (fun _ _ => rfl) (by decide) dX7_add_50 hn hlt ?_
    refine wx_aload_n C 0 dX7_add_51 rfl rfl ?_
    refine gf_X7_24 C dX7_add_52 ?_
    refine wx_iload C 5 dX7_add_55 rfl ?_
    refine wx_iconst C (-1) dX7_add_57 (by decide) ?_
    refine wx_iast C 6 n (by decide) (fun _ _ => rfl) (by decide) dX7_add_58 hn hlt ?_
    refine wx_aload_n C 0 dX7_add_59 rfl rfl ?_
    refine wx_dup C dX7_add_60 rfl ?_
    refine gf_X7_27 C dX7_add_61 ?_
    refine wx_iconst C 1 dX7_add_64 (by decide) ?_
    refine wx_iadd C dX7_add_65 ?_
    refine pf_X7_27 C dX7_add_66 ?_
    refine wx_iload C 5 dX7_add_69 rfl ?_
    refine wx_iret C hQ dX7_add_71 ?_
    refine ⟨_, rfl, Or.inr ⟨hlt, hn, ?_⟩, rfl⟩
    unfold sk_add
    congr 1
    simp only [g_st_ap]
    simp only [show ¬ (1 = 6) by decide, show ¬ (1 = 5) by decide, show ¬ (1 = 4) by decide, show ¬ (1 = 3) by decide, show ¬ (1 = 2) by decide, false_and, if_false]
    rw [hn, nI_1]
  · refine wx_bipush C (-4) dX7_add_9 (by decide) ?_
    refine wx_iret C hQ dX7_add_11 ?_
    refine ⟨_, rfl, Or.inl ⟨?_, rfl, rfl⟩, rfl⟩
    rw [hn] at c6
    exact Nat.le_antisymm h60 (Nat.le_of_not_lt (fun h => c6 ((nI_ltI (a := n) (b := 60) (by omega) (by decide)).mpr h)))
set_option maxHeartbeats 4000000 in
set_option maxRecDepth 100000 in
theorem lp_X7_freeOnes {X : g_X} {Qr : Option Value → g_M → g_L → Prop} (C : Cx X cX7_freeOnes 3 RX7 (some .int) 1) (hQ : Rx X Qr) {M : g_M} {L : g_L} {b : Nat} (hb : M 1 5 = nI b) (h60 : b ≤ 60) (hp : Qr (some (.int (nI (cn (fun e => decide (M 6 e = -1)) b)))) M L) : ∀ (n i : Nat), i ≤ b → b < i + n → wx X M L 4 [(0, .ref (X.1.1 + 1)), (1, .int (nI (cn (fun e => decide (M 6 e = -1)) i))), (2, .int (nI i))] [] := by
  intro n
  induction n with
  | zero =>
    intro i h1 h2
    exact absurd h2 (by omega)
  | succ n ih =>
    intro i hi0 hin
    refine wx_iload_n C 2 dX7_freeOnes_4 rfl rfl ?_
    refine wx_aload_n C 0 dX7_freeOnes_5 rfl rfl ?_
    refine gf_X7_27 C dX7_freeOnes_6 ?_
    refine wx_icmp_ge C 29 dX7_freeOnes_9 (by decide) (fun c9 => ?_) (fun c9 => ?_)
    · obtain rfl : i = b := by
        rw [hb] at c9
        exact Nat.le_antisymm hi0 ((nI_leI (by omega) (by omega)).mp c9)
      refine wx_iload_n C 1 dX7_freeOnes_29 rfl rfl ?_
      refine wx_iret C hQ dX7_freeOnes_30 ?_
      exact hp
    · have hi : i < b := by
        rw [hb] at c9
        exact Nat.lt_of_not_le (fun h => c9 ((nI_leI (by omega) (by omega)).mpr h))
      refine wx_aload_n C 0 dX7_freeOnes_12 rfl rfl ?_
      refine wx_iload_n C 2 dX7_freeOnes_13 rfl rfl ?_
      refine ca_X7_31 C (rest := []) (t_X7_isFree X.1 M L (e := i) rfl (by omega)) (by decide) rfl (by decide) rfl rfl (Nat.le_of_ble_eq_true rfl) dX7_freeOnes_14 (kI fun r14 M14 L14 q14 => ?_)
      obtain ⟨rfl, rfl, rfl⟩ := q14
      refine wx_if_eq C 23 dX7_freeOnes_17 (by decide) (fun c17 => ?_) (fun c17 => ?_)
      · refine wx_iinc C (v := (nI (i + 1))) 2 [1, 2, 0] [(0, .ref (X.1.1 + 1)), (1, .int (nI (cn (fun e => decide (M 6 e = -1)) i))), (2, .int (nI (i + 1)))] dX7_freeOnes_23 rfl (nI_1 _) (by decide) rfl ?_
        refine wx_goto C 4 dX7_freeOnes_26 (by decide) ?_
        have h := ih (i + 1) (by omega) (by omega)
        simp only [cn] at h
        rw [if_neg (by rw [bI_0] at c17; simpa using c17)] at h
        exact h
      · refine wx_iinc C (v := (nI ((cn (fun e => decide (M 6 e = -1)) i) + 1))) 1 [1, 0, 2] [(0, .ref (X.1.1 + 1)), (1, .int (nI ((cn (fun e => decide (M 6 e = -1)) i) + 1))), (2, .int (nI i))] dX7_freeOnes_20 rfl (nI_1 _) (by decide) rfl ?_
        refine wx_iinc C (v := (nI (i + 1))) 2 [1, 2, 0] [(0, .ref (X.1.1 + 1)), (1, .int (nI ((cn (fun e => decide (M 6 e = -1)) i) + 1))), (2, .int (nI (i + 1)))] dX7_freeOnes_23 rfl (nI_1 _) (by decide) rfl ?_
        refine wx_goto C 4 dX7_freeOnes_26 (by decide) ?_
        have h := ih (i + 1) (by omega) (by omega)
        simp only [cn] at h
        rw [if_pos (by rw [bI_n0] at c17; simpa using c17)] at h
        exact h
set_option maxHeartbeats 4000000 in
set_option maxRecDepth 100000 in
theorem t_X7_freeOnes (G : g_G) (M : g_M) (L : g_L) {b : Nat} (hb : M 1 5 = nI b) (h60 : b ≤ 60) : mt G yX7_freeOnes (Cond.code yX7_freeOnes cX7_freeOnes 3 (some .int)) 1 [.ref (G.1 + 1)] M L (qI fun v M' L' => v = nI (cn (fun e => decide (M 6 e = -1)) b) ∧ M = M' ∧ L = L') := by
  refine mt_of (by decide) rfl (Nat.le_of_ble_eq_true rfl) [(0, .ref (G.1 + 1))] rfl (fun X hG C hQ => ?_)
  subst hG
  refine wx_iconst C 0 dX7_freeOnes_0 (by decide) ?_
  refine wx_istore_n C [1, 0] [(0, .ref (X.1.1 + 1)), (1, .int 0)] dX7_freeOnes_1 rfl (by decide) rfl ?_
  refine wx_iconst C 0 dX7_freeOnes_2 (by decide) ?_
  refine wx_istore_n C [1, 2, 0] [(0, .ref (X.1.1 + 1)), (1, .int 0), (2, .int 0)] dX7_freeOnes_3 rfl (by decide) rfl ?_
  exact lp_X7_freeOnes C hQ hb h60 ⟨_, rfl, rfl, rfl, rfl⟩ (b + 1) 0 (by omega) (by omega)
theorem g_row_6 {j : Nat} (h : g_row j) : j ≠ 6 ∧ j + 1 ≠ 6 := by
  rcases h with rfl | rfl | ⟨p, hp, rfl⟩ | ⟨i, hi, rfl⟩ <;> omega
set_option maxHeartbeats 4000000 in
set_option maxRecDepth 100000 in
theorem lp_X7_putAll {X : g_X} {Qr : Option Value → g_M → g_L → Prop} (C : Cx X cX7_putAll 4 RX7 none 0) (hQ : Rx X Qr) {M : g_M} {L : g_L} {v : Int32} {j b : Nat} {r : Nat → Nat} (hj : g_row j) (hb : M j 1 = nI b) (h16 : b ≤ 16) (hr : ∀ i, i < b → M (j + 1) i = nI (r i) ∧ r i < 60) (hp : Qr none (pa M r v b) L) : ∀ (n i : Nat), i ≤ b → b < i + n → wx X (pa M r v i) L 2 [(0, .ref (X.1.1 + 1)), (1, .ref (X.1.1 + j)), (2, .int v), (3, .int (nI i))] [] := by
  have hj6 := g_row_6 hj
  intro n
  induction n with
  | zero =>
    intro i h1 h2
    exact absurd h2 (by omega)
  | succ n ih =>
    intro i hi0 hin
    refine wx_iload_n C 3 dX7_putAll_2 rfl rfl ?_
    refine wx_aload_n C 1 dX7_putAll_3 rfl rfl ?_
    refine gf_X7_35 C hj dX7_putAll_4 ?_
    refine wx_icmp_ge C 28 dX7_putAll_7 (by decide) (fun c7 => ?_) (fun c7 => ?_)
    · obtain rfl : i = b := by
        rw [pa_out _ _ _ _ hj6.1, hb] at c7
        exact Nat.le_antisymm hi0 ((nI_leI (by omega) (by omega)).mp c7)
      refine wx_vret C hQ dX7_putAll_28 ?_
      exact hp
    · have hi : i < b := by
        rw [pa_out _ _ _ _ hj6.1, hb] at c7
        exact Nat.lt_of_not_le (fun h => c7 ((nI_leI (by omega) (by omega)).mpr h))
      refine wx_aload_n C 0 dX7_putAll_10 rfl rfl ?_
      refine gf_X7_24 C dX7_putAll_11 ?_
      refine wx_aload_n C 1 dX7_putAll_14 rfl rfl ?_
      refine gf_X7_40 C hj dX7_putAll_15 ?_
      refine wx_iload_n C 3 dX7_putAll_18 rfl rfl ?_
      refine wx_iald C (j + 1) i (g_row_lt2 hj) (sh_rowD hj) (by decide) dX7_putAll_19 rfl (by omega) ?_
      refine wx_iload_n C 2 dX7_putAll_20 rfl rfl ?_
      refine wx_iast C 6 (r i) (by decide) (fun _ _ => rfl) (by decide) dX7_putAll_21 (by rw [pa_out _ _ _ _ hj6.2]; exact (hr i hi).1) (hr i hi).2 ?_
      refine wx_iinc C (v := (nI (i + 1))) 3 [1, 2, 3, 0] [(0, .ref (X.1.1 + 1)), (1, .ref (X.1.1 + j)), (2, .int v), (3, .int (nI (i + 1)))] dX7_putAll_22 rfl (nI_1 _) (by decide) rfl ?_
      refine wx_goto C 2 dX7_putAll_25 (by decide) ?_
      exact ih (i + 1) (by omega) (by omega)
set_option maxHeartbeats 4000000 in
set_option maxRecDepth 100000 in
theorem t_X7_putAll (G : g_G) (M : g_M) (L : g_L) (v : Int32) {j b : Nat} (r : Nat → Nat) (hj : g_row j) (hb : M j 1 = nI b) (h16 : b ≤ 16) (hr : ∀ i, i < b → M (j + 1) i = nI (r i) ∧ r i < 60) : mt G yX7_putAll (Cond.code yX7_putAll cX7_putAll 4 none) 0 [.ref (G.1 + 1), .ref (G.1 + j), .int v] M L (qV fun M' L' => M' = pa M r v b ∧ L = L') := by
  refine mt_of (by decide) rfl (Nat.le_of_ble_eq_true rfl) [(0, .ref (G.1 + 1)), (1, .ref (G.1 + j)), (2, .int v)] rfl (fun X hG C hQ => ?_)
  subst hG
  refine wx_iconst C 0 dX7_putAll_0 (by decide) ?_
  refine wx_istore_n C [1, 2, 3, 0] [(0, .ref (X.1.1 + 1)), (1, .ref (X.1.1 + j)), (2, .int v), (3, .int 0)] dX7_putAll_1 rfl (by decide) rfl ?_
  exact lp_X7_putAll C hQ hj hb h16 hr ⟨rfl, rfl, rfl⟩ (b + 1) 0 (by omega) (by omega)
