/-! ===== BitList ===== -/
def ab (z : Int32) : Int32 := if 0 ≤ z then z else 0 - z
def bitP (t x y o : Nat → Int32) (pc : Int32) (a b : Nat) : Bool := decide (0 < t b - t a ∧ o a = -1 ∧ o b = -1 ∧ t a / 24 = t b / 24 ∧ ab (x b - x a) ≤ pc * (t b - t a) ∧ ab (y b - y a) ≤ pc * (t b - t a))
def cB (M : g_M) : Nat → Nat → Bool := bitP (M 2) (M 3) (M 4) (M 6) (M 8 1)
/-- the bits with the first dot a, the second below b; all with the first below a -/
def rowl (P : Nat → Nat → Bool) (a : Nat) : Nat → List (Nat × Nat)
  | 0 => []
  | b + 1 => rowl P a b ++ (if P a b then [(a, b)] else [])
def bl (P : Nat → Nat → Bool) (n : Nat) : Nat → List (Nat × Nat)
  | 0 => []
  | a + 1 => bl P n a ++ rowl P a n
theorem rowl_le (P : Nat → Nat → Bool) (a : Nat) : ∀ b, (rowl P a b).length ≤ b
  | 0 => Nat.le_refl 0
  | b + 1 => by
    have h := rowl_le P a b
    simp only [rowl, List.length_append]
    split <;> simp <;> omega
theorem bl_le (P : Nat → Nat → Bool) (n : Nat) : ∀ a, (bl P n a).length ≤ a * n
  | 0 => by simp [bl]
  | a + 1 => by
    have h := bl_le P n a
    have h2 := rowl_le P a n
    simp only [bl, List.length_append, Nat.add_mul, Nat.one_mul]
    omega
theorem bl_small {P : Nat → Nat → Bool} {n a b : Nat} (hn : n ≤ 60) (ha : a ≤ n) (hb : b ≤ n) : (bl P n a).length + (rowl P a b).length ≤ 3660 := by
  have h1 := bl_le P n a
  have h2 := rowl_le P a b
  have h3 : a * n ≤ 60 * 60 := Nat.mul_le_mul (by omega) hn
  omega
theorem rowl_pre (P : Nat → Nat → Bool) (a : Nat) {b c : Nat} (h : b ≤ c) : ∃ r, rowl P a c = rowl P a b ++ r := by
  induction c with
  | zero => exact ⟨[], by rw [show b = 0 by omega]; rfl⟩
  | succ c ih =>
    by_cases e : b = c + 1
    · exact ⟨[], by rw [e]; simp⟩
    · obtain ⟨r, hr⟩ := ih (by omega)
      exact ⟨r ++ (if P a c then [(a, c)] else []), by rw [rowl, hr, List.append_assoc]⟩
theorem bl_pre (P : Nat → Nat → Bool) (n : Nat) {a c : Nat} (h : a ≤ c) : ∃ r, bl P n c = bl P n a ++ r := by
  induction c with
  | zero => exact ⟨[], by rw [show a = 0 by omega]; rfl⟩
  | succ c ih =>
    by_cases e : a = c + 1
    · exact ⟨[], by rw [e]; simp⟩
    · obtain ⟨r, hr⟩ := ih (by omega)
      exact ⟨r ++ rowl P c n, by rw [bl, hr, List.append_assoc]⟩
/-- the bit that is found at a, b stands behind those found before -/
theorem bl_at {P : Nat → Nat → Bool} {n a b : Nat} (ha : a < n) (hb : b < n) (hP : P a b = true) : (bl P n n)[(bl P n a).length + (rowl P a b).length]? = some (a, b) := by
  obtain ⟨r, hr⟩ := bl_pre P n (show a + 1 ≤ n from ha)
  obtain ⟨q, hq⟩ := rowl_pre P a (show b + 1 ≤ n from hb)
  rw [hr, bl, hq, rowl, if_pos hP]
  simp only [List.append_assoc]
  rw [List.getElem?_append_right (by omega), List.getElem?_append_right (by omega)]
  simp
theorem bl_lt {P : Nat → Nat → Bool} {n a b : Nat} (ha : a < n) (hb : b < n) (hP : P a b = true) : (bl P n a).length + (rowl P a b).length < (bl P n n).length := by
  have h := bl_at ha hb hP
  exact (List.getElem?_eq_some_iff.mp h).1
set_option maxHeartbeats 4000000 in
set_option maxRecDepth 100000 in
theorem t_X2_isBit (G : g_G) (M : g_M) (L : g_L) {x1 x2 : Int32} {a b : Nat} (h1 : x1 = nI a) (ha : a < 60) (h2 : x2 = nI b) (hb : b < 60) : mt G yX2_isBit (Cond.code yX2_isBit cX2_isBit 4 (some .boolean)) 1 [.ref (G.1 + 8), .int x1, .int x2] M L (qI fun v M' L' => v = bI (cB M a b) ∧ M = M' ∧ L = L') := by
  refine mt_of (by decide) rfl (Nat.le_of_ble_eq_true rfl) [(0, .ref (G.1 + 8)), (1, .int x1), (2, .int x2)] rfl (fun X hG C hQ => ?_)
  subst hG
  refine wx_aload_n C 0 dX2_isBit_0 rfl rfl ?_
  refine gf_X2_13 C dX2_isBit_1 ?_
  refine gf_X2_17 C dX2_isBit_4 ?_
  refine wx_iload_n C 2 dX2_isBit_7 rfl rfl ?_
  refine wx_iald C 2 b (by decide) (fun _ _ => rfl) (by decide) dX2_isBit_8 h2 hb ?_
  refine wx_aload_n C 0 dX2_isBit_9 rfl rfl ?_
  refine gf_X2_13 C dX2_isBit_10 ?_
  refine gf_X2_17 C dX2_isBit_13 ?_
  refine wx_iload_n C 1 dX2_isBit_16 rfl rfl ?_
  refine wx_iald C 2 a (by decide) (fun _ _ => rfl) (by decide) dX2_isBit_17 h1 ha ?_
  refine wx_isub C dX2_isBit_18 ?_
  refine wx_istore_n C [1, 2, 3, 0] [(0, .ref (X.1.1 + 8)), (1, .int x1), (2, .int x2), (3, .int ((M 2 b) - (M 2 a)))] dX2_isBit_19 rfl (by decide) rfl ?_
  refine wx_iload_n C 3 dX2_isBit_20 rfl rfl ?_
  refine wx_if_le C 131 dX2_isBit_21 (by decide) (fun c21 => ?_) (fun c21 => ?_)
  · refine wx_iconst C 0 dX2_isBit_131 (by decide) ?_
    refine wx_zret C hQ dX2_isBit_132 (by decide) ?_
    refine ⟨_, rfl, ?_, rfl, rfl⟩
    rw [cB, bitP, decide_eq_false]
    · rfl
    · intro h
      obtain ⟨h1, h2, h3, h4, h5, h6⟩ := h
      first
      | exact absurd h1 (Int32.not_lt.mpr c21)
      | (rw [bI_0] at c32; exact absurd h2 (of_decide_eq_false c32))
      | (rw [bI_0] at c43; exact absurd h3 (of_decide_eq_false c43))
      | exact absurd h4 c62
      | exact absurd h5 (Int32.not_le.mpr c93)
      | exact absurd h6 (Int32.not_le.mpr c124)
  · refine wx_aload_n C 0 dX2_isBit_24 rfl rfl ?_
    refine gf_X2_13 C dX2_isBit_25 ?_
    refine wx_iload_n C 1 dX2_isBit_28 rfl rfl ?_
    refine ca_X2_23 C (rest := []) (t_X7_isFree X.1 M L h1 ha) (by decide) rfl (by decide) rfl rfl (Nat.le_of_ble_eq_true rfl) dX2_isBit_29 (kI fun r29 M29 L29 q29 => ?_)
    obtain ⟨rfl, rfl, rfl⟩ := q29
    refine wx_if_eq C 131 dX2_isBit_32 (by decide) (fun c32 => ?_) (fun c32 => ?_)
    · refine wx_iconst C 0 dX2_isBit_131 (by decide) ?_
      refine wx_zret C hQ dX2_isBit_132 (by decide) ?_
      refine ⟨_, rfl, ?_, rfl, rfl⟩
      rw [cB, bitP, decide_eq_false]
      · rfl
      · intro h
        obtain ⟨h1, h2, h3, h4, h5, h6⟩ := h
        first
        | exact absurd h1 (Int32.not_lt.mpr c21)
        | (rw [bI_0] at c32; exact absurd h2 (of_decide_eq_false c32))
        | (rw [bI_0] at c43; exact absurd h3 (of_decide_eq_false c43))
        | exact absurd h4 c62
        | exact absurd h5 (Int32.not_le.mpr c93)
        | exact absurd h6 (Int32.not_le.mpr c124)
    · refine wx_aload_n C 0 dX2_isBit_35 rfl rfl ?_
      refine gf_X2_13 C dX2_isBit_36 ?_
      refine wx_iload_n C 2 dX2_isBit_39 rfl rfl ?_
      refine ca_X2_23 C (rest := []) (t_X7_isFree X.1 M L h2 hb) (by decide) rfl (by decide) rfl rfl (Nat.le_of_ble_eq_true rfl) dX2_isBit_40 (kI fun r40 M40 L40 q40 => ?_)
      obtain ⟨rfl, rfl, rfl⟩ := q40
      refine wx_if_eq C 131 dX2_isBit_43 (by decide) (fun c43 => ?_) (fun c43 => ?_)
      · refine wx_iconst C 0 dX2_isBit_131 (by decide) ?_
        refine wx_zret C hQ dX2_isBit_132 (by decide) ?_
        refine ⟨_, rfl, ?_, rfl, rfl⟩
        rw [cB, bitP, decide_eq_false]
        · rfl
        · intro h
          obtain ⟨h1, h2, h3, h4, h5, h6⟩ := h
          first
          | exact absurd h1 (Int32.not_lt.mpr c21)
          | (rw [bI_0] at c32; exact absurd h2 (of_decide_eq_false c32))
          | (rw [bI_0] at c43; exact absurd h3 (of_decide_eq_false c43))
          | exact absurd h4 c62
          | exact absurd h5 (Int32.not_le.mpr c93)
          | exact absurd h6 (Int32.not_le.mpr c124)
      · refine wx_aload_n C 0 dX2_isBit_46 rfl rfl ?_
        refine gf_X2_13 C dX2_isBit_47 ?_
        refine wx_iload_n C 1 dX2_isBit_50 rfl rfl ?_
        refine ca_X2_27 C (rest := []) (t_X7_nightOf X.1 M L h1 ha) (by decide) rfl (by decide) rfl rfl (Nat.le_of_ble_eq_true rfl) dX2_isBit_51 (kI fun r51 M51 L51 q51 => ?_)
        obtain ⟨rfl, rfl, rfl⟩ := q51
        refine wx_aload_n C 0 dX2_isBit_54 rfl rfl ?_
        refine gf_X2_13 C dX2_isBit_55 ?_
        refine wx_iload_n C 2 dX2_isBit_58 rfl rfl ?_
        refine ca_X2_27 C (rest := [.int (M 2 a / 24)]) (t_X7_nightOf X.1 M L h2 hb) (by decide) rfl (by decide) rfl rfl (Nat.le_of_ble_eq_true rfl) dX2_isBit_59 (kI fun r59 M59 L59 q59 => ?_)
        obtain ⟨rfl, rfl, rfl⟩ := q59
        refine wx_icmp_ne C 131 dX2_isBit_62 (by decide) (fun c62 => ?_) (fun c62 => ?_)
        · refine wx_iconst C 0 dX2_isBit_131 (by decide) ?_
          refine wx_zret C hQ dX2_isBit_132 (by decide) ?_
          refine ⟨_, rfl, ?_, rfl, rfl⟩
          rw [cB, bitP, decide_eq_false]
          · rfl
          · intro h
            obtain ⟨h1, h2, h3, h4, h5, h6⟩ := h
            first
            | exact absurd h1 (Int32.not_lt.mpr c21)
            | (rw [bI_0] at c32; exact absurd h2 (of_decide_eq_false c32))
            | (rw [bI_0] at c43; exact absurd h3 (of_decide_eq_false c43))
            | exact absurd h4 c62
            | exact absurd h5 (Int32.not_le.mpr c93)
            | exact absurd h6 (Int32.not_le.mpr c124)
        · refine wx_aload_n C 0 dX2_isBit_65 rfl rfl ?_
          refine gf_X2_13 C dX2_isBit_66 ?_
          refine gf_X2_31 C dX2_isBit_69 ?_
          refine wx_iload_n C 2 dX2_isBit_72 rfl rfl ?_
          refine wx_iald C 3 b (by decide) (fun _ _ => rfl) (by decide) dX2_isBit_73 h2 hb ?_
          refine wx_aload_n C 0 dX2_isBit_74 rfl rfl ?_
          refine gf_X2_13 C dX2_isBit_75 ?_
          refine gf_X2_31 C dX2_isBit_78 ?_
          refine wx_iload_n C 1 dX2_isBit_81 rfl rfl ?_
          refine wx_iald C 3 a (by decide) (fun _ _ => rfl) (by decide) dX2_isBit_82 h1 ha ?_
          refine wx_isub C dX2_isBit_83 ?_
          refine wx_mabs C w2_127 w2_128 w1_13 w2_129 (by decide) (Nat.le_of_ble_eq_true rfl) dX2_isBit_84 ?_
          refine wx_aload_n C 0 dX2_isBit_87 rfl rfl ?_
          refine gf_X2_7 C dX2_isBit_88 ?_
          refine wx_iload_n C 3 dX2_isBit_91 rfl rfl ?_
          refine wx_imul C dX2_isBit_92 ?_
          refine wx_icmp_gt C 131 dX2_isBit_93 (by decide) (fun c93 => ?_) (fun c93 => ?_)
          · refine wx_iconst C 0 dX2_isBit_131 (by decide) ?_
            refine wx_zret C hQ dX2_isBit_132 (by decide) ?_
            refine ⟨_, rfl, ?_, rfl, rfl⟩
            rw [cB, bitP, decide_eq_false]
            · rfl
            · intro h
              obtain ⟨h1, h2, h3, h4, h5, h6⟩ := h
              first
              | exact absurd h1 (Int32.not_lt.mpr c21)
              | (rw [bI_0] at c32; exact absurd h2 (of_decide_eq_false c32))
              | (rw [bI_0] at c43; exact absurd h3 (of_decide_eq_false c43))
              | exact absurd h4 c62
              | exact absurd h5 (Int32.not_le.mpr c93)
              | exact absurd h6 (Int32.not_le.mpr c124)
          · refine wx_aload_n C 0 dX2_isBit_96 rfl rfl ?_
            refine gf_X2_13 C dX2_isBit_97 ?_
            refine gf_X2_39 C dX2_isBit_100 ?_
            refine wx_iload_n C 2 dX2_isBit_103 rfl rfl ?_
            refine wx_iald C 4 b (by decide) (fun _ _ => rfl) (by decide) dX2_isBit_104 h2 hb ?_
            refine wx_aload_n C 0 dX2_isBit_105 rfl rfl ?_
            refine gf_X2_13 C dX2_isBit_106 ?_
            refine gf_X2_39 C dX2_isBit_109 ?_
            refine wx_iload_n C 1 dX2_isBit_112 rfl rfl ?_
            refine wx_iald C 4 a (by decide) (fun _ _ => rfl) (by decide) dX2_isBit_113 h1 ha ?_
            refine wx_isub C dX2_isBit_114 ?_
            refine wx_mabs C w2_127 w2_128 w1_13 w2_129 (by decide) (Nat.le_of_ble_eq_true rfl) dX2_isBit_115 ?_
            refine wx_aload_n C 0 dX2_isBit_118 rfl rfl ?_
            refine gf_X2_7 C dX2_isBit_119 ?_
            refine wx_iload_n C 3 dX2_isBit_122 rfl rfl ?_
            refine wx_imul C dX2_isBit_123 ?_
            refine wx_icmp_gt C 131 dX2_isBit_124 (by decide) (fun c124 => ?_) (fun c124 => ?_)
            · refine wx_iconst C 0 dX2_isBit_131 (by decide) ?_
              refine wx_zret C hQ dX2_isBit_132 (by decide) ?_
              refine ⟨_, rfl, ?_, rfl, rfl⟩
              rw [cB, bitP, decide_eq_false]
              · rfl
              · intro h
                obtain ⟨h1, h2, h3, h4, h5, h6⟩ := h
                first
                | exact absurd h1 (Int32.not_lt.mpr c21)
                | (rw [bI_0] at c32; exact absurd h2 (of_decide_eq_false c32))
                | (rw [bI_0] at c43; exact absurd h3 (of_decide_eq_false c43))
                | exact absurd h4 c62
                | exact absurd h5 (Int32.not_le.mpr c93)
                | exact absurd h6 (Int32.not_le.mpr c124)
            · refine wx_iconst C 1 dX2_isBit_127 (by decide) ?_
              refine wx_goto C 132 dX2_isBit_128 (by decide) ?_
              refine wx_zret C hQ dX2_isBit_132 (by decide) ?_
              refine ⟨_, rfl, ?_, rfl, rfl⟩
              rw [cB, bitP, decide_eq_true]
              · rfl
              · rw [bI_n0] at c32 c43
                exact ⟨Int32.not_le.mp c21, of_decide_eq_true c32, of_decide_eq_true c43, c62, Int32.not_lt.mp c93, Int32.not_lt.mp c124⟩
set_option maxHeartbeats 4000000 in
set_option maxRecDepth 100000 in
theorem lp_X2_total_i {X : g_X} {Qr : Option Value → g_M → g_L → Prop} (C : Cx X cX2_total 4 RX2 (some .int) 2) (hQ : Rx X Qr) {M : g_M} {L : g_L} {b a : Nat} (hb : M 1 5 = nI b) (h60 : b ≤ 60) (ha : a < b) (K : wx X M L 4 [(0, .ref (X.1.1 + 8)), (1, .int (nI (bl (cB M) b (a + 1)).length)), (2, .int (nI (a + 1)))] []) : ∀ (n i : Nat), i ≤ b → b < i + n → wx X M L 17 [(0, .ref (X.1.1 + 8)), (1, .int (nI ((bl (cB M) b a).length + (rowl (cB M) a i).length))), (2, .int (nI a)), (3, .int (nI i))] [] := by
  intro n
  induction n with
  | zero =>
    intro i h1 h2
    exact absurd h2 (by omega)
  | succ n ih =>
    intro i hi0 hin
    refine wx_iload_n C 3 dX2_total_17 rfl rfl ?_
    refine wx_aload_n C 0 dX2_total_18 rfl rfl ?_
    refine gf_X2_13 C dX2_total_19 ?_
    refine gf_X2_42 C dX2_total_22 ?_
    refine wx_icmp_ge C 46 dX2_total_25 (by decide) (fun c25 => ?_) (fun c25 => ?_)
    · have hib : i = b := by
        rw [hb] at c25
        exact Nat.le_antisymm hi0 ((nI_leI (by omega) (by omega)).mp c25)
      refine wx_iinc C (v := (nI (a + 1))) 2 [1, 2, 0, 3] [(0, .ref (X.1.1 + 8)), (1, .int (nI ((bl (cB M) b a).length + (rowl (cB M) a i).length))), (2, .int (nI (a + 1))), (3, .int (nI i))] dX2_total_46 rfl (nI_1 _) (by decide) rfl ?_
      refine wx_goto C 4 dX2_total_49 (by decide) ?_
      exact wx_sub [0, 1, 2] (by rw [hib, bl, List.length_append]; rfl) K
    · have hi : i < b := by
        rw [hb] at c25
        exact Nat.lt_of_not_le (fun h => c25 ((nI_leI (by omega) (by omega)).mpr h))
      refine wx_aload_n C 0 dX2_total_28 rfl rfl ?_
      refine wx_iload_n C 2 dX2_total_29 rfl rfl ?_
      refine wx_iload_n C 3 dX2_total_30 rfl rfl ?_
      refine ca_X2_45 C (rest := []) (t_X2_isBit X.1 M L (a := a) (b := i) rfl (by omega) rfl (by omega)) (by decide) rfl (by decide) rfl rfl (Nat.le_of_ble_eq_true rfl) dX2_total_31 (kI fun r31 M31 L31 q31 => ?_)
      obtain ⟨rfl, rfl, rfl⟩ := q31
      refine wx_if_eq C 40 dX2_total_34 (by decide) (fun c34 => ?_) (fun c34 => ?_)
      · refine wx_iinc C (v := (nI (i + 1))) 3 [1, 2, 3, 0] [(0, .ref (X.1.1 + 8)), (1, .int (nI ((bl (cB M) b a).length + (rowl (cB M) a i).length))), (2, .int (nI a)), (3, .int (nI (i + 1)))] dX2_total_40 rfl (nI_1 _) (by decide) rfl ?_
        refine wx_goto C 17 dX2_total_43 (by decide) ?_
        have h := ih (i + 1) (by omega) (by omega)
        simp only [rowl] at h
        rw [if_neg (by rw [bI_0] at c34; simp [c34])] at h
        simp only [List.append_nil] at h
        exact h
      · refine wx_iinc C (v := (nI (((bl (cB M) b a).length + (rowl (cB M) a i).length) + 1))) 1 [1, 0, 2, 3] [(0, .ref (X.1.1 + 8)), (1, .int (nI (((bl (cB M) b a).length + (rowl (cB M) a i).length) + 1))), (2, .int (nI a)), (3, .int (nI i))] dX2_total_37 rfl (nI_1 _) (by decide) rfl ?_
        refine wx_iinc C (v := (nI (i + 1))) 3 [1, 2, 3, 0] [(0, .ref (X.1.1 + 8)), (1, .int (nI (((bl (cB M) b a).length + (rowl (cB M) a i).length) + 1))), (2, .int (nI a)), (3, .int (nI (i + 1)))] dX2_total_40 rfl (nI_1 _) (by decide) rfl ?_
        refine wx_goto C 17 dX2_total_43 (by decide) ?_
        have h := ih (i + 1) (by omega) (by omega)
        simp only [rowl] at h
        rw [if_pos (bI_n0.mp c34)] at h
        simp only [List.length_append, List.length_singleton, ← Nat.add_assoc] at h
        exact h
set_option maxHeartbeats 4000000 in
set_option maxRecDepth 100000 in
theorem lp_X2_total {X : g_X} {Qr : Option Value → g_M → g_L → Prop} (C : Cx X cX2_total 4 RX2 (some .int) 2) (hQ : Rx X Qr) {M : g_M} {L : g_L} {b : Nat} (hb : M 1 5 = nI b) (h60 : b ≤ 60) (hp : Qr (some (.int (nI (bl (cB M) b b).length))) M L) : ∀ (n i : Nat), i ≤ b → b < i + n → wx X M L 4 [(0, .ref (X.1.1 + 8)), (1, .int (nI (bl (cB M) b i).length)), (2, .int (nI i))] [] := by
  intro n
  induction n with
  | zero =>
    intro i h1 h2
    exact absurd h2 (by omega)
  | succ n ih =>
    intro i hi0 hin
    refine wx_iload_n C 2 dX2_total_4 rfl rfl ?_
    refine wx_aload_n C 0 dX2_total_5 rfl rfl ?_
    refine gf_X2_13 C dX2_total_6 ?_
    refine gf_X2_42 C dX2_total_9 ?_
    refine wx_icmp_ge C 52 dX2_total_12 (by decide) (fun c12 => ?_) (fun c12 => ?_)
    · have hib : i = b := by
        rw [hb] at c12
        exact Nat.le_antisymm hi0 ((nI_leI (by omega) (by omega)).mp c12)
      refine wx_iload_n C 1 dX2_total_52 rfl rfl ?_
      refine wx_iret C hQ dX2_total_53 ?_
      rw [hib]
      exact hp
    · have hi : i < b := by
        rw [hb] at c12
        exact Nat.lt_of_not_le (fun h => c12 ((nI_leI (by omega) (by omega)).mpr h))
      refine wx_iconst C 0 dX2_total_15 (by decide) ?_
      refine wx_istore_n C [1, 2, 3, 0] [(0, .ref (X.1.1 + 8)), (1, .int (nI (bl (cB M) b i).length)), (2, .int (nI i)), (3, .int 0)] dX2_total_16 rfl (by decide) rfl ?_
      exact lp_X2_total_i C hQ hb h60 hi (ih (i + 1) (by omega) (by omega)) (b + 1) 0 (by omega) (by omega)
set_option maxHeartbeats 4000000 in
set_option maxRecDepth 100000 in
theorem t_X2_total (G : g_G) (M : g_M) (L : g_L) {b : Nat} (hb : M 1 5 = nI b) (h60 : b ≤ 60) : mt G yX2_total (Cond.code yX2_total cX2_total 4 (some .int)) 2 [.ref (G.1 + 8)] M L (qI fun v M' L' => v = nI (bl (cB M) b b).length ∧ M = M' ∧ L = L') := by
  refine mt_of (by decide) rfl (Nat.le_of_ble_eq_true rfl) [(0, .ref (G.1 + 8))] rfl (fun X hG C hQ => ?_)
  subst hG
  refine wx_iconst C 0 dX2_total_0 (by decide) ?_
  refine wx_istore_n C [1, 0] [(0, .ref (X.1.1 + 8)), (1, .int 0)] dX2_total_1 rfl (by decide) rfl ?_
  refine wx_iconst C 0 dX2_total_2 (by decide) ?_
  refine wx_istore_n C [1, 2, 0] [(0, .ref (X.1.1 + 8)), (1, .int 0), (2, .int 0)] dX2_total_3 rfl (by decide) rfl ?_
  exact lp_X2_total C hQ hb h60 ⟨_, rfl, rfl, rfl, rfl⟩ (b + 1) 0 (by omega) (by omega)
/-- what seek leaves: it is found, or there is none -/
def skP (M : g_M) (L : g_L) (b : Nat) (x : Int32) : Int32 → g_M → g_L → Prop := fun v M' L' => L = L' ∧ ((v = 1 ∧ ∃ q e, q < 2 ^ 31 ∧ x = nI q ∧ (bl (cB M) b b)[q]? = some e ∧ M' = g_st (g_st M 8 2 (nI e.1)) 8 3 (nI e.2)) ∨ (v = 0 ∧ M = M' ∧ ∀ q, q < 2 ^ 31 → x = nI q → (bl (cB M) b b).length ≤ q))
set_option maxHeartbeats 4000000 in
set_option maxRecDepth 100000 in
theorem lp_X2_seek_i {X : g_X} {Qr : Option Value → g_M → g_L → Prop} (C : Cx X cX2_seek 5 RX2 (some .boolean) 2) (hQ : Rx X Qr) {M : g_M} {L : g_L} {b a : Nat} (hb : M 1 5 = nI b) (h60 : b ≤ 60) (ha : a < b) (q : Nat) (hq : q < 2 ^ 31) (hp : ∀ v M1 L1, skP M L b (nI q) v M1 L1 → Qr (some (.int v)) M1 L1) (K : (bl (cB M) b (a + 1)).length ≤ q → wx X M L 4 [(0, .ref (X.1.1 + 8)), (1, .int (nI q)), (2, .int (nI (q - (bl (cB M) b (a + 1)).length))), (3, .int (nI (a + 1)))] []) : ∀ (n i : Nat), i ≤ b → b < i + n → (bl (cB M) b a).length + (rowl (cB M) a i).length ≤ q → wx X M L 22 [(0, .ref (X.1.1 + 8)), (1, .int (nI q)), (2, .int (nI (q - ((bl (cB M) b a).length + (rowl (cB M) a i).length)))), (3, .int (nI a)), (4, .int (nI i))] [] := by
  intro n
  induction n with
  | zero =>
    intro i h1 h2
    exact absurd h2 (by omega)
  | succ n ih =>
    intro i hi0 hin hle
    refine wx_iload C 4 dX2_seek_22 rfl ?_
    refine wx_aload_n C 0 dX2_seek_24 rfl rfl ?_
    refine gf_X2_13 C dX2_seek_25 ?_
    refine gf_X2_42 C dX2_seek_28 ?_
    refine wx_icmp_ge C 70 dX2_seek_31 (by decide) (fun c31 => ?_) (fun c31 => ?_)
    · have hib : i = b := by
        rw [hb] at c31
        exact Nat.le_antisymm hi0 ((nI_leI (by omega) (by omega)).mp c31)
      refine wx_iinc C (v := (nI (a + 1))) 3 [1, 2, 3, 0, 4] [(0, .ref (X.1.1 + 8)), (1, .int (nI q)), (2, .int (nI (q - ((bl (cB M) b a).length + (rowl (cB M) a i).length)))), (3, .int (nI (a + 1))), (4, .int (nI i))] dX2_seek_70 rfl (nI_1 _) (by decide) rfl ?_
      refine wx_goto C 4 dX2_seek_73 (by decide) ?_
      have e : (bl (cB M) b (a + 1)).length = (bl (cB M) b a).length + (rowl (cB M) a i).length := by rw [hib, bl, List.length_append]
      exact wx_sub [0, 1, 2, 3] (by rw [e]; rfl) (K (by rw [e]; exact hle))
    · have hi : i < b := by
        rw [hb] at c31
        exact Nat.lt_of_not_le (fun h => c31 ((nI_leI (by omega) (by omega)).mpr h))
      refine wx_aload_n C 0 dX2_seek_34 rfl rfl ?_
      refine wx_iload_n C 3 dX2_seek_35 rfl rfl ?_
      refine wx_iload C 4 dX2_seek_36 rfl ?_
      refine ca_X2_45 C (rest := []) (t_X2_isBit X.1 M L (a := a) (b := i) rfl (by omega) rfl (by omega)) (by decide) rfl (by decide) rfl rfl (Nat.le_of_ble_eq_true rfl) dX2_seek_38 (kI fun r38 M38 L38 q38 => ?_)
      obtain ⟨rfl, rfl, rfl⟩ := q38
      refine wx_if_eq C 64 dX2_seek_41 (by decide) (fun c41 => ?_) (fun c41 => ?_)
      · refine wx_iinc C (v := (nI (i + 1))) 4 [1, 2, 3, 4, 0] [(0, .ref (X.1.1 + 8)), (1, .int (nI q)), (2, .int (nI (q - ((bl (cB M) b a).length + (rowl (cB M) a i).length)))), (3, .int (nI a)), (4, .int (nI (i + 1)))] dX2_seek_64 rfl (nI_1 _) (by decide) rfl ?_
        refine wx_goto C 22 dX2_seek_67 (by decide) ?_
        have hn : cB M a i = false := bI_0.mp c41
        have h := ih (i + 1) (by omega) (by omega) (by rw [rowl, if_neg (by simp [hn]), List.append_nil]; exact hle)
        rw [rowl, if_neg (by simp [hn]), List.append_nil] at h
        exact h
      · refine wx_iload_n C 2 dX2_seek_44 rfl rfl ?_
        refine wx_if_ne C 61 dX2_seek_45 (by decide) (fun c45 => ?_) (fun c45 => ?_)
        · refine wx_iinc C (v := (nI (q - ((bl (cB M) b a).length + (rowl (cB M) a i).length) - 1))) 2 [1, 2, 0, 3, 4] [(0, .ref (X.1.1 + 8)), (1, .int (nI q)), (2, .int (nI (q - ((bl (cB M) b a).length + (rowl (cB M) a i).length) - 1))), (3, .int (nI a)), (4, .int (nI i))] dX2_seek_61 rfl (by rw [show Int32.ofInt (-1) = -1 by decide]; exact sb_m1 (Nat.pos_of_ne_zero (fun z => c45 (by rw [z]; rfl)))) (by decide) rfl ?_
          refine wx_iinc C (v := (nI (i + 1))) 4 [1, 2, 3, 4, 0] [(0, .ref (X.1.1 + 8)), (1, .int (nI q)), (2, .int (nI (q - ((bl (cB M) b a).length + (rowl (cB M) a i).length) - 1))), (3, .int (nI a)), (4, .int (nI (i + 1)))] dX2_seek_64 rfl (nI_1 _) (by decide) rfl ?_
          refine wx_goto C 22 dX2_seek_67 (by decide) ?_
          have hy : cB M a i = true := bI_n0.mp c41
          have e : (rowl (cB M) a (i + 1)).length = (rowl (cB M) a i).length + 1 := by rw [rowl, if_pos hy]; simp
          have hz : q - ((bl (cB M) b a).length + (rowl (cB M) a i).length) ≠ 0 := fun z => c45 (by rw [z]; rfl)
          have h := ih (i + 1) (by omega) (by omega) (by rw [e]; omega)
          rw [e, show q - ((bl (cB M) b a).length + ((rowl (cB M) a i).length + 1)) = q - ((bl (cB M) b a).length + (rowl (cB M) a i).length) - 1 by omega] at h
          exact h
        · refine wx_aload_n C 0 dX2_seek_48 rfl rfl ?_
          refine wx_iload_n C 3 dX2_seek_49 rfl rfl ?_
          refine pf_X2_49 C dX2_seek_50 ?_
          refine wx_aload_n C 0 dX2_seek_53 rfl rfl ?_
          refine wx_iload C 4 dX2_seek_54 rfl ?_
          refine pf_X2_52 C dX2_seek_56 ?_
          refine wx_iconst C 1 dX2_seek_59 (by decide) ?_
          refine wx_zret C hQ dX2_seek_60 (by decide) ?_
          have hy : cB M a i = true := bI_n0.mp c41
          have hz : q - ((bl (cB M) b a).length + (rowl (cB M) a i).length) = 0 := nI_inj (by omega) (by omega) c45
          have e : q = (bl (cB M) b a).length + (rowl (cB M) a i).length := by omega
          exact hp _ _ _ ⟨rfl, Or.inl ⟨rfl, q, (a, i), hq, rfl, by rw [e]; exact bl_at ha hi hy, rfl⟩⟩
set_option maxHeartbeats 4000000 in
set_option maxRecDepth 100000 in
theorem lp_X2_seek {X : g_X} {Qr : Option Value → g_M → g_L → Prop} (C : Cx X cX2_seek 5 RX2 (some .boolean) 2) (hQ : Rx X Qr) {M : g_M} {L : g_L} {b : Nat} (hb : M 1 5 = nI b) (h60 : b ≤ 60) (q : Nat) (hq : q < 2 ^ 31) (hp : ∀ v M1 L1, skP M L b (nI q) v M1 L1 → Qr (some (.int v)) M1 L1) : ∀ (n i : Nat), i ≤ b → b < i + n → (bl (cB M) b i).length ≤ q → wx X M L 4 [(0, .ref (X.1.1 + 8)), (1, .int (nI q)), (2, .int (nI (q - (bl (cB M) b i).length))), (3, .int (nI i))] [] := by
  intro n
  induction n with
  | zero =>
    intro i h1 h2
    exact absurd h2 (by omega)
  | succ n ih =>
    intro i hi0 hin hle
    refine wx_iload_n C 3 dX2_seek_4 rfl rfl ?_
    refine wx_aload_n C 0 dX2_seek_5 rfl rfl ?_
    refine gf_X2_13 C dX2_seek_6 ?_
    refine gf_X2_42 C dX2_seek_9 ?_
    refine wx_icmp_ge C 76 dX2_seek_12 (by decide) (fun c12 => ?_) (fun c12 => ?_)
    · refine wx_iconst C 0 dX2_seek_76 (by decide) ?_
      refine wx_zret C hQ dX2_seek_77 (by decide) ?_
      have hib : i = b := by
        rw [hb] at c12
        exact Nat.le_antisymm hi0 ((nI_leI (by omega) (by omega)).mp c12)
      rw [hib] at hle
      exact hp _ _ _ ⟨rfl, Or.inr ⟨rfl, rfl, fun q2 hq2 e => by rw [← nI_inj hq hq2 e]; exact hle⟩⟩
    · have hi : i < b := by
        rw [hb] at c12
        exact Nat.lt_of_not_le (fun h => c12 ((nI_leI (by omega) (by omega)).mpr h))
      refine wx_iload_n C 2 dX2_seek_15 rfl rfl ?_
      refine wx_if_lt C 76 dX2_seek_16 (by decide) (fun c16 => absurd c16 (nI_pos (by omega))) (fun c16 => ?_)
      refine wx_iconst C 0 dX2_seek_19 (by decide) ?_
      refine wx_istore C [1, 2, 3, 4, 0] [(0, .ref (X.1.1 + 8)), (1, .int (nI q)), (2, .int (nI (q - (bl (cB M) b i).length))), (3, .int (nI i)), (4, .int 0)] dX2_seek_20 (by decide) rfl ?_
      exact lp_X2_seek_i C hQ hb h60 hi q hq hp (fun h => ih (i + 1) (by omega) (by omega) h) (b + 1) 0 (by omega) (by omega) (by simpa [rowl] using hle)
set_option maxHeartbeats 4000000 in
set_option maxRecDepth 100000 in
theorem t_X2_seek (G : g_G) (M : g_M) (L : g_L) (x : Int32) {b : Nat} (hb : M 1 5 = nI b) (h60 : b ≤ 60) : mt G yX2_seek (Cond.code yX2_seek cX2_seek 5 (some .boolean)) 2 [.ref (G.1 + 8), .int x] M L (qI (skP M L b x)) := by
  refine mt_of (by decide) rfl (Nat.le_of_ble_eq_true rfl) [(0, .ref (G.1 + 8)), (1, .int x)] rfl (fun X hG C hQ => ?_)
  subst hG
  refine wx_iload_n C 1 dX2_seek_0 rfl rfl ?_
  refine wx_istore_n C [1, 2, 0] [(0, .ref (X.1.1 + 8)), (1, .int x), (2, .int x)] dX2_seek_1 rfl (by decide) rfl ?_
  refine wx_iconst C 0 dX2_seek_2 (by decide) ?_
  refine wx_istore_n C [1, 2, 3, 0] [(0, .ref (X.1.1 + 8)), (1, .int x), (2, .int x), (3, .int 0)] dX2_seek_3 rfl (by decide) rfl ?_
  by_cases hx : x < 0
  · refine wx_iload_n C 3 dX2_seek_4 rfl rfl ?_
    refine wx_aload_n C 0 dX2_seek_5 rfl rfl ?_
    refine gf_X2_13 C dX2_seek_6 ?_
    refine gf_X2_42 C dX2_seek_9 ?_
    refine wx_icmp_ge C 76 dX2_seek_12 (by decide) (fun c12 => ?_) (fun c12 => ?_)
    · refine wx_iconst C 0 dX2_seek_76 (by decide) ?_
      refine wx_zret C hQ dX2_seek_77 (by decide) ?_
      exact ⟨_, rfl, rfl, Or.inr ⟨rfl, rfl, fun q hq e => absurd hx (by rw [e]; exact nI_pos hq)⟩⟩
    · refine wx_iload_n C 2 dX2_seek_15 rfl rfl ?_
      refine wx_if_lt C 76 dX2_seek_16 (by decide) (fun c16 => ?_) (fun c16 => absurd c16 (fun h => h hx))
      refine wx_iconst C 0 dX2_seek_76 (by decide) ?_
      refine wx_zret C hQ dX2_seek_77 (by decide) ?_
      exact ⟨_, rfl, rfl, Or.inr ⟨rfl, rfl, fun q hq e => absurd hx (by rw [e]; exact nI_pos hq)⟩⟩
  · obtain ⟨q, hq, rfl⟩ := nI_of hx
    exact lp_X2_seek C hQ hb h60 q hq (fun v M1 L1 h => ⟨v, rfl, h⟩) (b + 1) 0 (by omega) (by omega) (Nat.zero_le _)
