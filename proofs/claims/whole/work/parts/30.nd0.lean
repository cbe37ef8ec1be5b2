/-! ===== NightDots: what several calls share ===== -/
def inW (x a b : Int32) : Bool := decide (a ≤ x ∧ x ≤ b)
def dotW (f : Nat → Int32) (l : Nat) (x : Int32) : Int32 := if 10 ≤ x ∧ x - 10 < nI l then f (x - 10).toNatClampNeg else -1
set_option maxHeartbeats 4000000 in
set_option maxRecDepth 100000 in
theorem t_X10_isWithin (G : g_G) (M : g_M) (L : g_L) (x a b : Int32) : mt G yX10_isWithin (Cond.code yX10_isWithin cX10_isWithin 3 (some .boolean)) 0 [.int x, .int a, .int b] M L (qI fun v M' L' => v = bI (inW x a b) ∧ M = M' ∧ L = L') := by
  refine mt_of (by decide) rfl (Nat.le_of_ble_eq_true rfl) [(0, .int x), (1, .int a), (2, .int b)] rfl (fun X hG C hQ => ?_)
  subst hG
  refine wx_iload_n C 0 dX10_isWithin_0 rfl rfl ?_
  refine wx_iload_n C 1 dX10_isWithin_1 rfl rfl ?_
  refine wx_icmp_lt C 14 dX10_isWithin_2 (by decide) (fun c2 => ?_) (fun c2 => ?_)
  · refine wx_iconst C 0 dX10_isWithin_14 (by decide) ?_
    refine wx_zret C hQ dX10_isWithin_15 (by decide) ?_
    refine ⟨_, rfl, ?_, rfl, rfl⟩
    unfold inW
    rw [decide_eq_false]
    · rfl
    · intro z
      first
      | exact absurd c2 (Int32.not_lt.mpr z.1)
      | exact absurd c7 (Int32.not_lt.mpr z.2)
  · refine wx_iload_n C 0 dX10_isWithin_5 rfl rfl ?_
    refine wx_iload_n C 2 dX10_isWithin_6 rfl rfl ?_
    refine wx_icmp_gt C 14 dX10_isWithin_7 (by decide) (fun c7 => ?_) (fun c7 => ?_)
    · refine wx_iconst C 0 dX10_isWithin_14 (by decide) ?_
      refine wx_zret C hQ dX10_isWithin_15 (by decide) ?_
      refine ⟨_, rfl, ?_, rfl, rfl⟩
      unfold inW
      rw [decide_eq_false]
      · rfl
      · intro z
        first
        | exact absurd c2 (Int32.not_lt.mpr z.1)
        | exact absurd c7 (Int32.not_lt.mpr z.2)
    · refine wx_iconst C 1 dX10_isWithin_10 (by decide) ?_
      refine wx_goto C 15 dX10_isWithin_11 (by decide) ?_
      refine wx_zret C hQ dX10_isWithin_15 (by decide) ?_
      refine ⟨_, rfl, ?_, rfl, rfl⟩
      unfold inW
      rw [decide_eq_true]
      · rfl
      · exact ⟨Int32.not_lt.mp c2, Int32.not_lt.mp c7⟩
set_option maxHeartbeats 4000000 in
set_option maxRecDepth 100000 in
theorem t_X10_isName (G : g_G) (M : g_M) (L : g_L) (x : Int32) : mt G yX10_isName (Cond.code yX10_isName cX10_isName 1 (some .boolean)) 1 [.int x] M L (qI fun v M' L' => v = bI (inW x 0 999) ∧ M = M' ∧ L = L') := by
  refine mt_of (by decide) rfl (Nat.le_of_ble_eq_true rfl) [(0, .int x)] rfl (fun X hG C hQ => ?_)
  subst hG
  refine wx_iload_n C 0 dX10_isName_0 rfl rfl ?_
  refine wx_iconst C 0 dX10_isName_1 (by decide) ?_
  refine wx_sipush C 999 dX10_isName_2 (by decide) ?_
  refine ca_X10_71 C (rest := []) (t_X10_isWithin X.1 M L x 0 999) (by decide) rfl rfl (Nat.le_of_ble_eq_true rfl) dX10_isName_5 (kI fun r5 M5 L5 q5 => ?_)
  obtain ⟨rfl, rfl, rfl⟩ := q5
  refine wx_zret C hQ dX10_isName_8 (bI_nar _) ?_
  exact ⟨_, rfl, rfl, rfl, rfl⟩
theorem sub10 {x : Int32} {l : Nat} (hl : l ≤ 16) (h1 : 10 ≤ x) (h2 : x - 10 < nI l) : ∃ i, i < l ∧ x - 10 = nI i := by
  refine in_of (by omega) ?_ h2
  rw [i_le, show (10 : Int32).toInt = 10 from rfl] at h1
  have := fb_rng x
  rw [i_le, fb_subI (by rw [show (10 : Int32).toInt = 10 from rfl]; omega) (by rw [show (10 : Int32).toInt = 10 from rfl]; omega), show (10 : Int32).toInt = 10 from rfl, show (0 : Int32).toInt = 0 from rfl]
  omega
set_option maxHeartbeats 4000000 in
set_option maxRecDepth 100000 in
theorem t_X10_dotOfRow (G : g_G) (M : g_M) (L : g_L) {k l : Nat} (hk : g_row k) (hl : M k 1 = nI l) (h16 : l ≤ 16) (x : Int32) : mt G yX10_dotOfRow (Cond.code yX10_dotOfRow cX10_dotOfRow 2 (some .int)) 0 [.ref (G.1 + k), .int x] M L (qI fun v M' L' => v = dotW (M (k + 1)) l x ∧ M = M' ∧ L = L') := by
  refine mt_of (by decide) rfl (Nat.le_of_ble_eq_true rfl) [(0, .ref (G.1 + k)), (1, .int x)] rfl (fun X hG C hQ => ?_)
  subst hG
  refine wx_iload_n C 1 dX10_dotOfRow_0 rfl rfl ?_
  refine wx_bipush C 10 dX10_dotOfRow_1 (by decide) ?_
  refine wx_icmp_lt C 17 dX10_dotOfRow_3 (by decide) (fun c3 => ?_) (fun c3 => ?_)
  · refine wx_iconst C (-1) dX10_dotOfRow_17 (by decide) ?_
    refine wx_iret C hQ dX10_dotOfRow_18 ?_
    refine ⟨_, rfl, ?_, rfl, rfl⟩
    unfold dotW
    rw [if_neg]
    intro z
    first
    | exact absurd c3 (Int32.not_lt.mpr z.1)
    | exact c14 (by rw [hl]; exact z.2)
  · refine wx_iload_n C 1 dX10_dotOfRow_6 rfl rfl ?_
    refine wx_bipush C 10 dX10_dotOfRow_7 (by decide) ?_
    refine wx_isub C dX10_dotOfRow_9 ?_
    refine wx_aload_n C 0 dX10_dotOfRow_10 rfl rfl ?_
    refine gf_X10_183 C hk dX10_dotOfRow_11 ?_
    refine wx_icmp_lt C 19 dX10_dotOfRow_14 (by decide) (fun c14 => ?_) (fun c14 => ?_)
    · rw [hl] at c14
      obtain ⟨i, hi, ei⟩ := sub10 h16 (Int32.not_lt.mp c3) c14
      refine wx_aload_n C 0 dX10_dotOfRow_19 rfl rfl ?_
      refine gf_X10_241 C hk dX10_dotOfRow_20 ?_
      refine wx_iload_n C 1 dX10_dotOfRow_23 rfl rfl ?_
      refine wx_bipush C 10 dX10_dotOfRow_24 (by decide) ?_
      refine wx_isub C dX10_dotOfRow_26 ?_
      refine wx_iald C (k + 1) i (g_row_lt2 hk) (sh_rowD hk) (by decide) dX10_dotOfRow_27 ei (by omega) ?_
      refine wx_iret C hQ dX10_dotOfRow_28 ?_
      refine ⟨_, rfl, ?_, rfl, rfl⟩
      unfold dotW
      rw [if_pos ⟨Int32.not_lt.mp c3, c14⟩, ei, nI_clamp (by omega)]
    · refine wx_iconst C (-1) dX10_dotOfRow_17 (by decide) ?_
      refine wx_iret C hQ dX10_dotOfRow_18 ?_
      refine ⟨_, rfl, ?_, rfl, rfl⟩
      unfold dotW
      rw [if_neg]
      intro z
      first
      | exact absurd c3 (Int32.not_lt.mpr z.1)
      | exact c14 (by rw [hl]; exact z.2)
/-! bits counted, as the JDK does -/
def us (x y : Int32) : Int32 := (x.toUInt32 >>> (y.toUInt32 &&& Int32.toUInt32 31)).toInt32
def bc1 (x : Int32) : Int32 := x - (us x 1 &&& 1431655765)
def bc2 (x : Int32) : Int32 := (x &&& 858993459) + (us x 2 &&& 858993459)
def bc3 (x : Int32) : Int32 := (x + us x 4) &&& 252645135
def bc4 (x : Int32) : Int32 := x + us x 8
def bc5 (x : Int32) : Int32 := x + us x 16
def bcJ (x : Int32) : Int32 := bc5 (bc4 (bc3 (bc2 (bc1 x)))) &&& 63
/-- how many bits, of eight -/
def pop8 (n : Nat) : Nat := n % 2 + n / 2 % 2 + n / 4 % 2 + n / 8 % 2 + n / 16 % 2 + n / 32 % 2 + n / 64 % 2 + n / 128 % 2
theorem bcJ_n : ∀ n, n < 256 → bcJ (nI n) = nI (pop8 n) := by decide +kernel
set_option maxHeartbeats 4000000 in
set_option maxRecDepth 100000 in
theorem t_J6_bitCount_0f7a4 (G : g_G) (M : g_M) (L : g_L) (x : Int32) : mt G yJ6_bitCount_0f7a4 (Cond.code yJ6_bitCount_0f7a4 cJ6_bitCount_0f7a4 1 (some .int)) 0 [.int x] M L (qI fun v M' L' => v = bcJ x ∧ M = M' ∧ L = L') := by
  refine mt_ofJ (by decide +kernel) rfl (Nat.le_of_ble_eq_true rfl) [(0, .int x)] rfl (fun X hG C hQ => ?_)
  subst hG
  refine wx_iload_n C 0 dJ6_bitCount_0f7a4_0 rfl rfl ?_
  refine wx_iload_n C 0 dJ6_bitCount_0f7a4_1 rfl rfl ?_
  refine wx_iconst C 1 dJ6_bitCount_0f7a4_2 (by decide) ?_
  refine wx_iushr C dJ6_bitCount_0f7a4_3 ?_
  refine wx_ldcw C w3_143 dJ6_bitCount_0f7a4_4 ?_
  refine wx_iand C dJ6_bitCount_0f7a4_7 ?_
  refine wx_isub C dJ6_bitCount_0f7a4_8 ?_
  refine wx_nmi (fun y1 hy1 => ?_)
  refine wx_istore_n C [0] [(0, .int y1)] dJ6_bitCount_0f7a4_9 rfl (by decide) rfl ?_
  refine wx_iload_n C 0 dJ6_bitCount_0f7a4_10 rfl rfl ?_
  refine wx_ldcw C w3_144 dJ6_bitCount_0f7a4_11 ?_
  refine wx_iand C dJ6_bitCount_0f7a4_14 ?_
  refine wx_iload_n C 0 dJ6_bitCount_0f7a4_15 rfl rfl ?_
  refine wx_iconst C 2 dJ6_bitCount_0f7a4_16 (by decide) ?_
  refine wx_iushr C dJ6_bitCount_0f7a4_17 ?_
  refine wx_ldcw C w3_144 dJ6_bitCount_0f7a4_18 ?_
  refine wx_iand C dJ6_bitCount_0f7a4_21 ?_
  refine wx_iadd C dJ6_bitCount_0f7a4_22 ?_
  refine wx_nmi (fun y2 hy2 => ?_)
  refine wx_istore_n C [0] [(0, .int y2)] dJ6_bitCount_0f7a4_23 rfl (by decide) rfl ?_
  refine wx_iload_n C 0 dJ6_bitCount_0f7a4_24 rfl rfl ?_
  refine wx_iload_n C 0 dJ6_bitCount_0f7a4_25 rfl rfl ?_
  refine wx_iconst C 4 dJ6_bitCount_0f7a4_26 (by decide) ?_
  refine wx_iushr C dJ6_bitCount_0f7a4_27 ?_
  refine wx_iadd C dJ6_bitCount_0f7a4_28 ?_
  refine wx_ldcw C w3_145 dJ6_bitCount_0f7a4_29 ?_
  refine wx_iand C dJ6_bitCount_0f7a4_32 ?_
  refine wx_nmi (fun y3 hy3 => ?_)
  refine wx_istore_n C [0] [(0, .int y3)] dJ6_bitCount_0f7a4_33 rfl (by decide) rfl ?_
  refine wx_iload_n C 0 dJ6_bitCount_0f7a4_34 rfl rfl ?_
  refine wx_iload_n C 0 dJ6_bitCount_0f7a4_35 rfl rfl ?_
  refine wx_bipush C 8 dJ6_bitCount_0f7a4_36 (by decide) ?_
  refine wx_iushr C dJ6_bitCount_0f7a4_38 ?_
  refine wx_iadd C dJ6_bitCount_0f7a4_39 ?_
  refine wx_nmi (fun y4 hy4 => ?_)
  refine wx_istore_n C [0] [(0, .int y4)] dJ6_bitCount_0f7a4_40 rfl (by decide) rfl ?_
  refine wx_iload_n C 0 dJ6_bitCount_0f7a4_41 rfl rfl ?_
  refine wx_iload_n C 0 dJ6_bitCount_0f7a4_42 rfl rfl ?_
  refine wx_bipush C 16 dJ6_bitCount_0f7a4_43 (by decide) ?_
  refine wx_iushr C dJ6_bitCount_0f7a4_45 ?_
  refine wx_iadd C dJ6_bitCount_0f7a4_46 ?_
  refine wx_nmi (fun y5 hy5 => ?_)
  refine wx_istore_n C [0] [(0, .int y5)] dJ6_bitCount_0f7a4_47 rfl (by decide) rfl ?_
  refine wx_iload_n C 0 dJ6_bitCount_0f7a4_48 rfl rfl ?_
  refine wx_bipush C 63 dJ6_bitCount_0f7a4_49 (by decide) ?_
  refine wx_iand C dJ6_bitCount_0f7a4_51 ?_
  refine wx_iret C hQ dJ6_bitCount_0f7a4_52 ?_
  have e1 : y1 = bc1 x := hy1
  have e2 : y2 = bc2 y1 := hy2
  have e3 : y3 = bc3 y2 := hy3
  have e4 : y4 = bc4 y3 := hy4
  have e5 : y5 = bc5 y4 := hy5
  refine ⟨_, rfl, ?_, rfl, rfl⟩
  unfold bcJ
  rw [← e1, ← e2, ← e3, ← e4, ← e5]
