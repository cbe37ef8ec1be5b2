/-! ===== the reference: fits, divisor, told, fit, miss ===== -/
/-- Euclid's way comes to its end within k steps -/
def gct : Nat → Int64 → Int64 → Prop
  | 0, _, b => b = 0
  | k + 1, a, b => b = 0 ∨ gct k b (a - a / b * b)
theorem gct_0 (a : Int64) : ∀ k, gct k a 0
  | 0 => rfl
  | _ + 1 => Or.inl rfl
theorem gct_up : ∀ {k : Nat} {a b : Int64}, gct k a b → gct (k + 1) a b
  | 0, _, _, h => Or.inl h
  | _ + 1, _, _, h => by
    rcases h with h | h
    · exact Or.inl h
    · exact Or.inr (gct_up h)
theorem gct_add {k : Nat} {a b : Int64} (h : gct k a b) : ∀ n, gct (k + n) a b
  | 0 => h
  | n + 1 => gct_up (gct_add h n)
theorem jrem (a b : Int64) (hb : b ≠ 0) : (a - a / b * b).toInt = a.toInt.tmod b.toInt := by
  have ha := fb_rngL a
  have hb1 := fb_rngL b
  have hb0 : b.toInt ≠ 0 := fun z => hb ((j_eq b 0).mpr (by rw [z]; rfl))
  rw [Int64.toInt_sub, Int64.toInt_mul, Int64.toInt_div]
  have e1 : (a.toInt - ((a.toInt.tdiv b.toInt).bmod (2 ^ 64) * b.toInt).bmod (2 ^ 64)).bmod (2 ^ 64) = (a.toInt - a.toInt.tdiv b.toInt * b.toInt).bmod (2 ^ 64) := by
    rw [Int.sub_bmod_bmod, ← Int.sub_bmod_bmod, Int.bmod_mul_bmod, Int.sub_bmod_bmod]
  rw [e1]
  have e2 : a.toInt - a.toInt.tdiv b.toInt * b.toInt = a.toInt.tmod b.toInt := by
    rw [Int.tmod_def, Int.mul_comm]
  rw [e2]
  have h3 : (a.toInt.tmod b.toInt).natAbs < b.toInt.natAbs := by
    rw [Int.natAbs_tmod]
    exact Nat.mod_lt _ (by omega)
  exact fb_bmodL (by omega) (by omega)
theorem gct_pow : ∀ (j : Nat) (a b : Int64), b.toInt.natAbs < 2 ^ j → gct (2 * j + 1) a b
  | 0, a, b, h => by
    have : b = 0 := (j_eq b 0).mpr (by rw [show (0 : Int64).toInt = 0 from rfl]; omega)
    exact Or.inl this
  | j + 1, a, b, h => by
    by_cases hb : b = 0
    · exact Or.inl hb
    refine Or.inr ?_
    show gct (2 * j + 1 + 1) b (a - a / b * b)
    by_cases hr : a - a / b * b = 0
    · exact Or.inl hr
    refine Or.inr ?_
    refine gct_pow j _ _ ?_
    rw [jrem _ _ hr, jrem _ _ hb, Int.natAbs_tmod, Int.natAbs_tmod]
    have hr0 : (a.toInt.tmod b.toInt) ≠ 0 := fun z => hr ((j_eq _ _).mpr (by rw [jrem _ _ hb, z]; rfl))
    have hb0 : b.toInt ≠ 0 := fun z => hb ((j_eq b 0).mpr (by rw [z]; rfl))
    have hz : a.toInt.natAbs % b.toInt.natAbs ≠ 0 := by
      intro z
      apply hr0
      have := Int.natAbs_tmod a.toInt b.toInt
      omega
    have h1 : a.toInt.natAbs % b.toInt.natAbs < b.toInt.natAbs := Nat.mod_lt _ (by omega)
    generalize a.toInt.natAbs % b.toInt.natAbs = q at hz h1 ⊢
    generalize b.toInt.natAbs = u at h h1 ⊢
    have h2 : u % q < q := Nat.mod_lt _ (by omega)
    have h3 := Nat.div_add_mod u q
    have h4 : 1 ≤ u / q := (Nat.one_le_div_iff (by omega)).mpr (by omega)
    have h5 : q * 1 ≤ q * (u / q) := Nat.mul_le_mul_left q h4
    have h6 : 2 ^ (j + 1) = 2 * 2 ^ j := by rw [Nat.pow_succ, Nat.mul_comm]
    omega
theorem gct_all (a b : Int64) : gct 200 a b := by
  have hb := fb_rngL b
  exact gct_add (gct_pow 64 a b (by omega)) 71
theorem gcs_ne : ∀ (k : Nat) (a b : Int64), a ≠ 0 → gcs k a b ≠ 0
  | 0, _, _, h => h
  | k + 1, a, b, h => by
    rw [gcs]
    split
    · exact h
    · rename_i hb
      exact gcs_ne k b _ hb
theorem gcs_ne2 {a b : Int64} (h : b ≠ 0) : gcs 200 a b ≠ 0 := by
  rw [gcs, if_neg h]
  exact gcs_ne _ _ _ h
theorem jab_ge {a : Int64} (h : 0 ≤ a) : jab a = a := by
  unfold jab
  by_cases h0 : 0 < a
  · rw [if_pos h0]
  · rw [if_neg h0]
    have : a = 0 := by
      rw [j_lt] at h0
      rw [j_le] at h
      exact (j_eq _ _).mpr (by omega)
    rw [this]; rfl
theorem jab_lt {a : Int64} (h : a < 0) : jab a = -a := by
  unfold jab
  rw [if_neg]
  intro z
  rw [j_lt] at h z
  omega
set_option maxHeartbeats 4000000 in
set_option maxRecDepth 100000 in
theorem lp_X11_divisor {X : g_X} {Qr : Option Value → g_M → g_L → Prop} (C : Cx X cX11_divisor 10 RX11 (some .long) 0) (hQ : Rx X Qr) {M : g_M} {L : g_L} {a0 b0 : Int64} : ∀ (k : Nat) (a b : Int64), gct k a b → Qr (some (.long (gcs k a b))) M L → wx X M L 17 [(0, .long a0), (2, .long b0), (4, .long a), (6, .long b)] [] := by
  intro k
  induction k with
  | zero =>
    intro a b hk hp
    refine wx_lload C 3 dX11_divisor_17 rfl ?_
    refine wx_lconst C 0 dX11_divisor_19 (by decide) ?_
    refine wx_lcmp C dX11_divisor_20 ?_
    refine wx_if_eq C 42 dX11_divisor_21 (by decide) (fun c21 => ?_) (fun c21 => ?_)
    · refine wx_lload C 2 dX11_divisor_42 rfl ?_
      refine wx_lret C hQ dX11_divisor_44 ?_
      exact hp
    · exact absurd ((lg_cmp_eq _ _).mpr hk) c21
  | succ k ih =>
    intro a b hk hp
    refine wx_lload C 3 dX11_divisor_17 rfl ?_
    refine wx_lconst C 0 dX11_divisor_19 (by decide) ?_
    refine wx_lcmp C dX11_divisor_20 ?_
    refine wx_if_eq C 42 dX11_divisor_21 (by decide) (fun c21 => ?_) (fun c21 => ?_)
    · refine wx_lload C 2 dX11_divisor_42 rfl ?_
      refine wx_lret C hQ dX11_divisor_44 ?_
      have hb := (lg_cmp_eq _ _).mp c21
      rw [gcs, if_pos hb] at hp
      exact hp
    · refine wx_lload C 2 dX11_divisor_24 rfl ?_
      refine wx_lload C 3 dX11_divisor_26 rfl ?_
      refine wx_lrem C dX11_divisor_28 (fun z => c21 ((lg_cmp_eq _ _).mpr z)) ?_
      refine wx_lstore C [1, 2, 3, 4, 0] [(0, .long a0), (2, .long b0), (4, .long a), (6, .long b), (8, .long (a - a / b * b))] dX11_divisor_29 (by decide) rfl ?_
      refine wx_lload C 3 dX11_divisor_31 rfl ?_
      refine wx_lstore C [1, 2, 0, 3, 4] [(0, .long a0), (2, .long b0), (4, .long b), (6, .long b), (8, .long (a - a / b * b))] dX11_divisor_33 (by decide) rfl ?_
      refine wx_lload C 4 dX11_divisor_35 rfl ?_
      refine wx_lstore C [1, 2, 3, 0, 4] [(0, .long a0), (2, .long b0), (4, .long b), (6, .long (a - a / b * b)), (8, .long (a - a / b * b))] dX11_divisor_37 (by decide) rfl ?_
      refine wx_goto C 17 dX11_divisor_39 (by decide) ?_
      rcases hk with hk | hk
      · exact absurd ((lg_cmp_eq _ _).mpr hk) c21
      · rw [gcs, if_neg (fun z => c21 ((lg_cmp_eq _ _).mpr z))] at hp
        exact wx_sub [0, 1, 2, 3] rfl (ih _ _ hk hp)
set_option maxHeartbeats 4000000 in
set_option maxRecDepth 100000 in
theorem t_X11_divisor (G : g_G) (M : g_M) (L : g_L) (a b : Int64) : mt G yX11_divisor (Cond.code yX11_divisor cX11_divisor 10 (some .long)) 0 [.long a, .long b] M L (qL fun v M' L' => M = M' ∧ v = gcs 200 (jab a) b ∧ L = L') := by
  refine mt_of (by decide) rfl (Nat.le_of_ble_eq_true rfl) [(0, .long a), (2, .long b)] rfl (fun X hG C hQ => ?_)
  subst hG
  refine wx_lload_n C 0 dX11_divisor_0 rfl rfl ?_
  refine wx_lconst C 0 dX11_divisor_1 (by decide) ?_
  refine wx_lcmp C dX11_divisor_2 ?_
  refine wx_if_ge C 11 dX11_divisor_3 (by decide) (fun c3 => ?_) (fun c3 => ?_)
  · refine wx_lload_n C 0 dX11_divisor_11 rfl rfl ?_
    refine wx_lstore C [1, 2, 0] [(0, .long a), (2, .long b), (4, .long a)] dX11_divisor_12 (by decide) rfl ?_
    refine wx_lload_n C 1 dX11_divisor_14 rfl rfl ?_
    refine wx_lstore C [1, 2, 3, 0] [(0, .long a), (2, .long b), (4, .long a), (6, .long b)] dX11_divisor_15 (by decide) rfl ?_
    have hj := jab_ge ((lg_cmp_ge _ _).mp c3)
    exact lp_X11_divisor C hQ 200 _ _ (gct_all _ _) ⟨_, rfl, rfl, by rw [hj], rfl⟩
  · refine wx_lload_n C 0 dX11_divisor_6 rfl rfl ?_
    refine wx_lneg C dX11_divisor_7 ?_
    refine wx_goto C 12 dX11_divisor_8 (by decide) ?_
    refine wx_lstore C [1, 2, 0] [(0, .long a), (2, .long b), (4, .long (-a))] dX11_divisor_12 (by decide) rfl ?_
    refine wx_lload_n C 1 dX11_divisor_14 rfl rfl ?_
    refine wx_lstore C [1, 2, 3, 0] [(0, .long a), (2, .long b), (4, .long (-a)), (6, .long b)] dX11_divisor_15 (by decide) rfl ?_
    rw [← jab_lt ((lg_cmp_lt _ _).mp (Int32.not_le.mp c3))]
    exact lp_X11_divisor C hQ 200 _ _ (gct_all _ _) ⟨_, rfl, rfl, rfl, rfl⟩
set_option maxHeartbeats 4000000 in
set_option maxRecDepth 100000 in
theorem t_X11_told (G : g_G) (M : g_M) (L : g_L) (a b : Int64) (pt : Int32) (hb : 0 < b) : mt G yX11_told (Cond.code yX11_told cX11_told 7 (some .long)) 1 [.long a, .long b, .int pt] M L (qL fun v M' L' => M = M' ∧ v = red a b pt ∧ L = L') := by
  refine mt_of (by decide) rfl (Nat.le_of_ble_eq_true rfl) [(0, .long a), (2, .long b), (4, .int pt)] rfl (fun X hG C hQ => ?_)
  subst hG
  have hb0 : b ≠ 0 := fun z => by rw [z] at hb; exact absurd hb (by decide)
  have hne : gcs 200 (jab a) b ≠ 0 := gcs_ne2 hb0
  have ejb : jab b = b := jab_ge (by rw [j_lt] at hb; rw [j_le]; omega)
  refine wx_lload_n C 0 dX11_told_0 rfl rfl ?_
  refine wx_lload_n C 1 dX11_told_1 rfl rfl ?_
  refine ca_X11_213 C (rest := []) (t_X11_divisor X.1 M L a b) (by decide) rfl rfl (Nat.le_of_ble_eq_true rfl) dX11_told_2 (kL fun r2 M2 L2 q2 => ?_)
  obtain ⟨rfl, rfl, rfl⟩ := q2
  refine wx_lstore C [1, 2, 3, 0] [(0, .long a), (2, .long b), (4, .int pt), (5, .long (gcs 200 (jab a) b))] dX11_told_5 (by decide) rfl ?_
  refine wx_iload C 2 dX11_told_7 rfl ?_
  refine wx_if_ne C 19 dX11_told_9 (by decide) (fun c9 => ?_) (fun c9 => ?_)
  · refine wx_lload_n C 1 dX11_told_19 rfl rfl ?_
    refine wx_lload C 3 dX11_told_20 rfl ?_
    refine wx_ldiv C dX11_told_22 hne ?_
    refine wx_lret C hQ dX11_told_23 ?_
    refine ⟨_, rfl, rfl, ?_, rfl⟩
    unfold red
    rw [ejb, if_neg hne]
    first
    | rw [if_pos c9]
    | rw [if_neg c9]
  · refine wx_lload_n C 0 dX11_told_12 rfl rfl ?_
    refine wx_lload C 3 dX11_told_13 rfl ?_
    refine wx_ldiv C dX11_told_15 hne ?_
    refine wx_goto C 23 dX11_told_16 (by decide) ?_
    refine wx_lret C hQ dX11_told_23 ?_
    refine ⟨_, rfl, rfl, ?_, rfl⟩
    unfold red
    rw [ejb, if_neg hne]
    first
    | rw [if_pos c9]
    | rw [if_neg c9]
def ftK (L : g_L) (t z : Nat → Int32) (r : Nat → Nat) (l : Nat) (K : g_L) : Prop := K 149 34 = spB t r l ∧ K 149 32 = spT t z r l ∧ K 149 35 = fpB t r l ∧ K 149 33 = fpT t z r l
set_option maxHeartbeats 4000000 in
set_option maxRecDepth 100000 in
theorem lp_X11_fits {X : g_X} {Qr : Option Value → g_M → g_L → Prop} (C : Cx X cX11_fits 18 RX11 (some .boolean) 1) (hQ : Rx X Qr) {M : g_M} {L : g_L} {p l : Nat} {r : Nat → Nat} {ax : Int32} (hp12 : p < 12) (hr : mrw M p l r) (hp : ∀ K, ftK L (M 150) (plc (M 151) (M 152) ax) r l K → Qr (some (.int (bI (decide (0 < spB (M 150) r l))))) M K) : ∀ (n i : Nat), i ≤ l → l < i + n → wx X M L 23 [(0, .ref (X.1.1 + 149)), (1, .int (nI p)), (2, .int ax), (3, .long ((nI l).toInt64)), (5, .long (smT (M 150) r i)), (7, .long (smT (plc (M 151) (M 152) ax) r i)), (9, .long (smX (M 150) (M 150) r i)), (11, .long (smX (M 150) (plc (M 151) (M 152) ax) r i)), (13, .int (nI i))] [] := by
  intro n
  induction n with
  | zero =>
    intro i h1 h2
    exact absurd h2 (by omega)
  | succ n ih =>
    intro i hi0 hin
    have h8 := hr.2.1
    refine wx_iload C 8 dX11_fits_23 rfl ?_
    refine wx_aload_n C 0 dX11_fits_25 rfl rfl ?_
    refine gf_X11_38 C dX11_fits_26 ?_
    refine wx_iload_n C 1 dX11_fits_29 rfl rfl ?_
    refine wx_iald C 156 p (by decide) (fun _ _ => rfl) (by decide) dX11_fits_30 rfl hp12 ?_
    refine wx_icmp_ge C 114 dX11_fits_31 (by decide) (fun c31 => ?_) (fun c31 => ?_)
    · have hib : i = l := by
        rw [hr.1] at c31
        exact Nat.le_antisymm hi0 ((nI_leI (by omega) (by omega)).mp c31)
      rw [hib]
      refine wx_aload_n C 0 dX11_fits_114 rfl rfl ?_
      refine wx_lload_n C 3 dX11_fits_115 rfl rfl ?_
      refine wx_lload C 6 dX11_fits_116 rfl ?_
      refine wx_lmul C dX11_fits_118 ?_
      refine wx_lload C 4 dX11_fits_119 rfl ?_
      refine wx_lload C 4 dX11_fits_121 rfl ?_
      refine wx_lmul C dX11_fits_123 ?_
      refine wx_lsub C dX11_fits_124 ?_
      refine pf_X11_201 C dX11_fits_125 ?_
      refine wx_aload_n C 0 dX11_fits_128 rfl rfl ?_
      refine wx_lload_n C 3 dX11_fits_129 rfl rfl ?_
      refine wx_lload C 7 dX11_fits_130 rfl ?_
      refine wx_lmul C dX11_fits_132 ?_
      refine wx_lload C 4 dX11_fits_133 rfl ?_
      refine wx_lload C 5 dX11_fits_135 rfl ?_
      refine wx_lmul C dX11_fits_137 ?_
      refine wx_lsub C dX11_fits_138 ?_
      refine pf_X11_204 C dX11_fits_139 ?_
      refine wx_aload_n C 0 dX11_fits_142 rfl rfl ?_
      refine wx_lload_n C 3 dX11_fits_143 rfl rfl ?_
      refine wx_aload_n C 0 dX11_fits_144 rfl rfl ?_
      refine gf_X11_201 C dX11_fits_145 ?_
      refine wx_lmul C dX11_fits_148 ?_
      refine pf_X11_207 C dX11_fits_149 ?_
      refine wx_aload_n C 0 dX11_fits_152 rfl rfl ?_
      refine wx_lload C 5 dX11_fits_153 rfl ?_
      refine wx_aload_n C 0 dX11_fits_155 rfl rfl ?_
      refine gf_X11_201 C dX11_fits_156 ?_
      refine wx_lmul C dX11_fits_159 ?_
      refine wx_aload_n C 0 dX11_fits_160 rfl rfl ?_
      refine gf_X11_204 C dX11_fits_161 ?_
      refine wx_lload C 4 dX11_fits_164 rfl ?_
      refine wx_lmul C dX11_fits_166 ?_
      refine wx_lsub C dX11_fits_167 ?_
      refine pf_X11_210 C dX11_fits_168 ?_
      refine wx_aload_n C 0 dX11_fits_171 rfl rfl ?_
      refine gf_X11_201 C dX11_fits_172 ?_
      refine wx_lconst C 0 dX11_fits_175 (by decide) ?_
      refine wx_lcmp C dX11_fits_176 ?_
      refine wx_if_le C 184 dX11_fits_177 (by decide) (fun c177 => ?_) (fun c177 => ?_)
      · refine wx_iconst C 0 dX11_fits_184 (by decide) ?_
        refine wx_zret C hQ dX11_fits_185 (by decide) ?_
        have hft : ftK L (M 150) (plc (M 151) (M 152) ax) r l (g_sl (g_sl (g_sl (g_sl L 149 34 ((((nI l).toInt64) * (smX (M 150) (M 150) r l)) - ((smT (M 150) r l) * (smT (M 150) r l)))) 149 32 ((((nI l).toInt64) * (smX (M 150) (plc (M 151) (M 152) ax) r l)) - ((smT (M 150) r l) * (smT (plc (M 151) (M 152) ax) r l)))) 149 35 (((nI l).toInt64) * ((g_sl (g_sl L 149 34 ((((nI l).toInt64) * (smX (M 150) (M 150) r l)) - ((smT (M 150) r l) * (smT (M 150) r l)))) 149 32 ((((nI l).toInt64) * (smX (M 150) (plc (M 151) (M 152) ax) r l)) - ((smT (M 150) r l) * (smT (plc (M 151) (M 152) ax) r l)))) 149 34))) 149 33 (((smT (plc (M 151) (M 152) ax) r l) * ((g_sl (g_sl (g_sl L 149 34 ((((nI l).toInt64) * (smX (M 150) (M 150) r l)) - ((smT (M 150) r l) * (smT (M 150) r l)))) 149 32 ((((nI l).toInt64) * (smX (M 150) (plc (M 151) (M 152) ax) r l)) - ((smT (M 150) r l) * (smT (plc (M 151) (M 152) ax) r l)))) 149 35 (((nI l).toInt64) * ((g_sl (g_sl L 149 34 ((((nI l).toInt64) * (smX (M 150) (M 150) r l)) - ((smT (M 150) r l) * (smT (M 150) r l)))) 149 32 ((((nI l).toInt64) * (smX (M 150) (plc (M 151) (M 152) ax) r l)) - ((smT (M 150) r l) * (smT (plc (M 151) (M 152) ax) r l)))) 149 34))) 149 34)) - (((g_sl (g_sl (g_sl L 149 34 ((((nI l).toInt64) * (smX (M 150) (M 150) r l)) - ((smT (M 150) r l) * (smT (M 150) r l)))) 149 32 ((((nI l).toInt64) * (smX (M 150) (plc (M 151) (M 152) ax) r l)) - ((smT (M 150) r l) * (smT (plc (M 151) (M 152) ax) r l)))) 149 35 (((nI l).toInt64) * ((g_sl (g_sl L 149 34 ((((nI l).toInt64) * (smX (M 150) (M 150) r l)) - ((smT (M 150) r l) * (smT (M 150) r l)))) 149 32 ((((nI l).toInt64) * (smX (M 150) (plc (M 151) (M 152) ax) r l)) - ((smT (M 150) r l) * (smT (plc (M 151) (M 152) ax) r l)))) 149 34))) 149 32) * (smT (M 150) r l)))) := by
          refine ⟨?_, ?_, ?_, ?_⟩
          · rw [g_sl_ap, if_neg (by decide), g_sl_ap, if_neg (by decide), g_sl_ap, if_neg (by decide), g_sl_ap, if_pos ⟨rfl, rfl⟩]; rfl
          · rw [g_sl_ap, if_neg (by decide), g_sl_ap, if_neg (by decide), g_sl_ap, if_pos ⟨rfl, rfl⟩]; rfl
          · rw [g_sl_ap, if_neg (by decide), g_sl_ap, if_pos ⟨rfl, rfl⟩, g_sl_ap, if_neg (by decide), g_sl_ap, if_pos ⟨rfl, rfl⟩]; rfl
          · rw [g_sl_ap, if_pos ⟨rfl, rfl⟩, g_sl_ap, if_neg (by decide), g_sl_ap, if_neg (by decide), g_sl_ap, if_pos ⟨rfl, rfl⟩, g_sl_ap, if_neg (by decide), g_sl_ap, if_pos ⟨rfl, rfl⟩]; rfl
        have hv := hp _ hft
        rw [decide_eq_false (by have hc := (lg_cmp_le _ _).mp c177; rw [hft.1] at hc; exact Int64.not_lt.mpr hc)] at hv
        exact hv
      · refine wx_iconst C 1 dX11_fits_180 (by decide) ?_
        refine wx_goto C 185 dX11_fits_181 (by decide) ?_
        refine wx_zret C hQ dX11_fits_185 (by decide) ?_
        have hft : ftK L (M 150) (plc (M 151) (M 152) ax) r l (g_sl (g_sl (g_sl (g_sl L 149 34 ((((nI l).toInt64) * (smX (M 150) (M 150) r l)) - ((smT (M 150) r l) * (smT (M 150) r l)))) 149 32 ((((nI l).toInt64) * (smX (M 150) (plc (M 151) (M 152) ax) r l)) - ((smT (M 150) r l) * (smT (plc (M 151) (M 152) ax) r l)))) 149 35 (((nI l).toInt64) * ((g_sl (g_sl L 149 34 ((((nI l).toInt64) * (smX (M 150) (M 150) r l)) - ((smT (M 150) r l) * (smT (M 150) r l)))) 149 32 ((((nI l).toInt64) * (smX (M 150) (plc (M 151) (M 152) ax) r l)) - ((smT (M 150) r l) * (smT (plc (M 151) (M 152) ax) r l)))) 149 34))) 149 33 (((smT (plc (M 151) (M 152) ax) r l) * ((g_sl (g_sl (g_sl L 149 34 ((((nI l).toInt64) * (smX (M 150) (M 150) r l)) - ((smT (M 150) r l) * (smT (M 150) r l)))) 149 32 ((((nI l).toInt64) * (smX (M 150) (plc (M 151) (M 152) ax) r l)) - ((smT (M 150) r l) * (smT (plc (M 151) (M 152) ax) r l)))) 149 35 (((nI l).toInt64) * ((g_sl (g_sl L 149 34 ((((nI l).toInt64) * (smX (M 150) (M 150) r l)) - ((smT (M 150) r l) * (smT (M 150) r l)))) 149 32 ((((nI l).toInt64) * (smX (M 150) (plc (M 151) (M 152) ax) r l)) - ((smT (M 150) r l) * (smT (plc (M 151) (M 152) ax) r l)))) 149 34))) 149 34)) - (((g_sl (g_sl (g_sl L 149 34 ((((nI l).toInt64) * (smX (M 150) (M 150) r l)) - ((smT (M 150) r l) * (smT (M 150) r l)))) 149 32 ((((nI l).toInt64) * (smX (M 150) (plc (M 151) (M 152) ax) r l)) - ((smT (M 150) r l) * (smT (plc (M 151) (M 152) ax) r l)))) 149 35 (((nI l).toInt64) * ((g_sl (g_sl L 149 34 ((((nI l).toInt64) * (smX (M 150) (M 150) r l)) - ((smT (M 150) r l) * (smT (M 150) r l)))) 149 32 ((((nI l).toInt64) * (smX (M 150) (plc (M 151) (M 152) ax) r l)) - ((smT (M 150) r l) * (smT (plc (M 151) (M 152) ax) r l)))) 149 34))) 149 32) * (smT (M 150) r l)))) := by
          refine ⟨?_, ?_, ?_, ?_⟩
          · rw [g_sl_ap, if_neg (by decide), g_sl_ap, if_neg (by decide), g_sl_ap, if_neg (by decide), g_sl_ap, if_pos ⟨rfl, rfl⟩]; rfl
          · rw [g_sl_ap, if_neg (by decide), g_sl_ap, if_neg (by decide), g_sl_ap, if_pos ⟨rfl, rfl⟩]; rfl
          · rw [g_sl_ap, if_neg (by decide), g_sl_ap, if_pos ⟨rfl, rfl⟩, g_sl_ap, if_neg (by decide), g_sl_ap, if_pos ⟨rfl, rfl⟩]; rfl
          · rw [g_sl_ap, if_pos ⟨rfl, rfl⟩, g_sl_ap, if_neg (by decide), g_sl_ap, if_neg (by decide), g_sl_ap, if_pos ⟨rfl, rfl⟩, g_sl_ap, if_neg (by decide), g_sl_ap, if_pos ⟨rfl, rfl⟩]; rfl
        have hv := hp _ hft
        rw [decide_eq_true (by have hc := Int64.not_le.mp (fun z => c177 ((lg_cmp_le _ _).mpr z)); rw [hft.1] at hc; exact hc)] at hv
        exact hv
    · have hi : i < l := by
        rw [hr.1] at c31
        exact Nat.lt_of_not_le (fun h => c31 ((nI_leI (by omega) (by omega)).mpr h))
      have hri := hr.2.2 i hi
      refine wx_aload_n C 0 dX11_fits_34 rfl rfl ?_
      refine gf_X11_19 C dX11_fits_35 ?_
      refine wx_aload_n C 0 dX11_fits_38 rfl rfl ?_
      refine gf_X11_41 C dX11_fits_39 ?_
      refine wx_bipush C 8 dX11_fits_42 (by decide) ?_
      refine wx_iload_n C 1 dX11_fits_44 rfl rfl ?_
      refine wx_imul C dX11_fits_45 ?_
      refine wx_iload C 8 dX11_fits_46 rfl ?_
      refine wx_iadd C dX11_fits_48 ?_
      refine wx_iald C 157 (8 * p + i) (by decide) (fun _ _ => rfl) (by decide) dX11_fits_49 (by rw [show (8 : Int32) = nI 8 from rfl, pk_mul, nI_add]) (by omega) ?_
      refine wx_iald C 150 (r i) (by decide) (fun _ _ => rfl) (by decide) dX11_fits_50 hri.1 hri.2 ?_
      refine wx_i2l C dX11_fits_51 ?_
      refine wx_lstore C [1, 2, 3, 4, 5, 6, 7, 8, 9, 0] [(0, .ref (X.1.1 + 149)), (1, .int (nI p)), (2, .int ax), (3, .long ((nI l).toInt64)), (5, .long (smT (M 150) r i)), (7, .long (smT (plc (M 151) (M 152) ax) r i)), (9, .long (smX (M 150) (M 150) r i)), (11, .long (smX (M 150) (plc (M 151) (M 152) ax) r i)), (13, .int (nI i)), (14, .long ((M 150 (r i)).toInt64))] dX11_fits_52 (by decide) rfl ?_
      refine wx_aload_n C 0 dX11_fits_54 rfl rfl ?_
      refine wx_aload_n C 0 dX11_fits_55 rfl rfl ?_
      refine gf_X11_41 C dX11_fits_56 ?_
      refine wx_bipush C 8 dX11_fits_59 (by decide) ?_
      refine wx_iload_n C 1 dX11_fits_61 rfl rfl ?_
      refine wx_imul C dX11_fits_62 ?_
      refine wx_iload C 8 dX11_fits_63 rfl ?_
      refine wx_iadd C dX11_fits_65 ?_
      refine wx_iald C 157 (8 * p + i) (by decide) (fun _ _ => rfl) (by decide) dX11_fits_66 (by rw [show (8 : Int32) = nI 8 from rfl, pk_mul, nI_add]) (by omega) ?_
      refine wx_iload_n C 2 dX11_fits_67 rfl rfl ?_
      refine ca_X11_99 C (rest := []) (t_X11_placeOf X.1 M L hri.1 hri.2 ax) (by decide) rfl (by decide) rfl rfl (Nat.le_of_ble_eq_true rfl) dX11_fits_68 (kI fun r68 M68 L68 q68 => ?_)
      obtain ⟨rfl, rfl, rfl⟩ := q68
      refine wx_i2l C dX11_fits_71 ?_
      refine wx_lstore C [1, 2, 3, 4, 5, 6, 7, 8, 9, 10, 0] [(0, .ref (X.1.1 + 149)), (1, .int (nI p)), (2, .int ax), (3, .long ((nI l).toInt64)), (5, .long (smT (M 150) r i)), (7, .long (smT (plc (M 151) (M 152) ax) r i)), (9, .long (smX (M 150) (M 150) r i)), (11, .long (smX (M 150) (plc (M 151) (M 152) ax) r i)), (13, .int (nI i)), (14, .long ((M 150 (r i)).toInt64)), (16, .long ((plc (M 151) (M 152) ax (r i)).toInt64))] dX11_fits_72 (by decide) rfl ?_
      refine wx_lload C 4 dX11_fits_74 rfl ?_
      refine wx_lload C 9 dX11_fits_76 rfl ?_
      refine wx_ladd C dX11_fits_78 ?_
      refine wx_lstore C [1, 2, 3, 4, 0, 5, 6, 7, 8, 9, 10] [(0, .ref (X.1.1 + 149)), (1, .int (nI p)), (2, .int ax), (3, .long ((nI l).toInt64)), (5, .long ((smT (M 150) r i) + ((M 150 (r i)).toInt64))), (7, .long (smT (plc (M 151) (M 152) ax) r i)), (9, .long (smX (M 150) (M 150) r i)), (11, .long (smX (M 150) (plc (M 151) (M 152) ax) r i)), (13, .int (nI i)), (14, .long ((M 150 (r i)).toInt64)), (16, .long ((plc (M 151) (M 152) ax (r i)).toInt64))] dX11_fits_79 (by decide) rfl ?_
      refine wx_lload C 5 dX11_fits_81 rfl ?_
      refine wx_lload C 10 dX11_fits_83 rfl ?_
      refine wx_ladd C dX11_fits_85 ?_
      refine wx_lstore C [1, 2, 3, 4, 5, 0, 6, 7, 8, 9, 10] [(0, .ref (X.1.1 + 149)), (1, .int (nI p)), (2, .int ax), (3, .long ((nI l).toInt64)), (5, .long ((smT (M 150) r i) + ((M 150 (r i)).toInt64))), (7, .long ((smT (plc (M 151) (M 152) ax) r i) + ((plc (M 151) (M 152) ax (r i)).toInt64))), (9, .long (smX (M 150) (M 150) r i)), (11, .long (smX (M 150) (plc (M 151) (M 152) ax) r i)), (13, .int (nI i)), (14, .long ((M 150 (r i)).toInt64)), (16, .long ((plc (M 151) (M 152) ax (r i)).toInt64))] dX11_fits_86 (by decide) rfl ?_
      refine wx_lload C 6 dX11_fits_88 rfl ?_
      refine wx_lload C 9 dX11_fits_90 rfl ?_
      refine wx_lload C 9 dX11_fits_92 rfl ?_
      refine wx_lmul C dX11_fits_94 ?_
      refine wx_ladd C dX11_fits_95 ?_
      refine wx_lstore C [1, 2, 3, 4, 5, 6, 0, 7, 8, 9, 10] [(0, .ref (X.1.1 + 149)), (1, .int (nI p)), (2, .int ax), (3, .long ((nI l).toInt64)), (5, .long ((smT (M 150) r i) + ((M 150 (r i)).toInt64))), (7, .long ((smT (plc (M 151) (M 152) ax) r i) + ((plc (M 151) (M 152) ax (r i)).toInt64))), (9, .long ((smX (M 150) (M 150) r i) + (((M 150 (r i)).toInt64) * ((M 150 (r i)).toInt64)))), (11, .long (smX (M 150) (plc (M 151) (M 152) ax) r i)), (13, .int (nI i)), (14, .long ((M 150 (r i)).toInt64)), (16, .long ((plc (M 151) (M 152) ax (r i)).toInt64))] dX11_fits_96 (by decide) rfl ?_
      refine wx_lload C 7 dX11_fits_98 rfl ?_
      refine wx_lload C 9 dX11_fits_100 rfl ?_
      refine wx_lload C 10 dX11_fits_102 rfl ?_
      refine wx_lmul C dX11_fits_104 ?_
      refine wx_ladd C dX11_fits_105 ?_
      refine wx_lstore C [1, 2, 3, 4, 5, 6, 7, 0, 8, 9, 10] [(0, .ref (X.1.1 + 149)), (1, .int (nI p)), (2, .int ax), (3, .long ((nI l).toInt64)), (5, .long ((smT (M 150) r i) + ((M 150 (r i)).toInt64))), (7, .long ((smT (plc (M 151) (M 152) ax) r i) + ((plc (M 151) (M 152) ax (r i)).toInt64))), (9, .long ((smX (M 150) (M 150) r i) + (((M 150 (r i)).toInt64) * ((M 150 (r i)).toInt64)))), (11, .long ((smX (M 150) (plc (M 151) (M 152) ax) r i) + (((M 150 (r i)).toInt64) * ((plc (M 151) (M 152) ax (r i)).toInt64)))), (13, .int (nI i)), (14, .long ((M 150 (r i)).toInt64)), (16, .long ((plc (M 151) (M 152) ax (r i)).toInt64))] dX11_fits_106 (by decide) rfl ?_
      refine wx_iinc C (v := (nI (i + 1))) 8 [1, 2, 3, 4, 5, 6, 7, 8, 0, 9, 10] [(0, .ref (X.1.1 + 149)), (1, .int (nI p)), (2, .int ax), (3, .long ((nI l).toInt64)), (5, .long ((smT (M 150) r i) + ((M 150 (r i)).toInt64))), (7, .long ((smT (plc (M 151) (M 152) ax) r i) + ((plc (M 151) (M 152) ax (r i)).toInt64))), (9, .long ((smX (M 150) (M 150) r i) + (((M 150 (r i)).toInt64) * ((M 150 (r i)).toInt64)))), (11, .long ((smX (M 150) (plc (M 151) (M 152) ax) r i) + (((M 150 (r i)).toInt64) * ((plc (M 151) (M 152) ax (r i)).toInt64)))), (13, .int (nI (i + 1))), (14, .long ((M 150 (r i)).toInt64)), (16, .long ((plc (M 151) (M 152) ax (r i)).toInt64))] dX11_fits_108 rfl (nI_1 _) (by decide) rfl ?_
      refine wx_goto C 23 dX11_fits_111 (by decide) ?_
      exact wx_sub [0, 1, 2, 3, 4, 5, 6, 7, 8] rfl (ih (i + 1) (by omega) (by omega))
set_option maxHeartbeats 4000000 in
set_option maxRecDepth 100000 in
theorem t_X11_fits (G : g_G) (M : g_M) (L : g_L) {x : Int32} {p l : Nat} {r : Nat → Nat} (hx : x = nI p) (hp12 : p < 12) (hr : mrw M p l r) (ax : Int32) : mt G yX11_fits (Cond.code yX11_fits cX11_fits 18 (some .boolean)) 1 [.ref (G.1 + 149), .int x, .int ax] M L (qI fun v M' L' => M = M' ∧ v = bI (decide (0 < spB (M 150) r l)) ∧ ftK L (M 150) (plc (M 151) (M 152) ax) r l L') := by
  refine mt_of (by decide) rfl (Nat.le_of_ble_eq_true rfl) [(0, .ref (G.1 + 149)), (1, .int x), (2, .int ax)] rfl (fun X hG C hQ => ?_)
  subst hG
  refine wx_aload_n C 0 dX11_fits_0 rfl rfl ?_
  refine gf_X11_38 C dX11_fits_1 ?_
  refine wx_iload_n C 1 dX11_fits_4 rfl rfl ?_
  refine wx_iald C 156 p (by decide) (fun _ _ => rfl) (by decide) dX11_fits_5 hx hp12 ?_
  refine wx_i2l C dX11_fits_6 ?_
  refine wx_lstore_n C [1, 2, 3, 0] [(0, .ref (X.1.1 + 149)), (1, .int x), (2, .int ax), (3, .long ((M 156 p).toInt64))] dX11_fits_7 rfl (by decide) rfl ?_
  refine wx_lconst C 0 dX11_fits_8 (by decide) ?_
  refine wx_lstore C [1, 2, 3, 4, 0] [(0, .ref (X.1.1 + 149)), (1, .int x), (2, .int ax), (3, .long ((M 156 p).toInt64)), (5, .long 0)] dX11_fits_9 (by decide) rfl ?_
  refine wx_lconst C 0 dX11_fits_11 (by decide) ?_
  refine wx_lstore C [1, 2, 3, 4, 5, 0] [(0, .ref (X.1.1 + 149)), (1, .int x), (2, .int ax), (3, .long ((M 156 p).toInt64)), (5, .long 0), (7, .long 0)] dX11_fits_12 (by decide) rfl ?_
  refine wx_lconst C 0 dX11_fits_14 (by decide) ?_
  refine wx_lstore C [1, 2, 3, 4, 5, 6, 0] [(0, .ref (X.1.1 + 149)), (1, .int x), (2, .int ax), (3, .long ((M 156 p).toInt64)), (5, .long 0), (7, .long 0), (9, .long 0)] dX11_fits_15 (by decide) rfl ?_
  refine wx_lconst C 0 dX11_fits_17 (by decide) ?_
  refine wx_lstore C [1, 2, 3, 4, 5, 6, 7, 0] [(0, .ref (X.1.1 + 149)), (1, .int x), (2, .int ax), (3, .long ((M 156 p).toInt64)), (5, .long 0), (7, .long 0), (9, .long 0), (11, .long 0)] dX11_fits_18 (by decide) rfl ?_
  refine wx_iconst C 0 dX11_fits_20 (by decide) ?_
  refine wx_istore C [1, 2, 3, 4, 5, 6, 7, 8, 0] [(0, .ref (X.1.1 + 149)), (1, .int x), (2, .int ax), (3, .long ((M 156 p).toInt64)), (5, .long 0), (7, .long 0), (9, .long 0), (11, .long 0), (13, .int 0)] dX11_fits_21 (by decide) rfl ?_
  rw [hr.1, hx]
  exact lp_X11_fits C hQ hp12 hr (fun K hK => ⟨_, rfl, rfl, rfl, hK⟩) (l + 1) 0 (by omega) (by omega)
/-! sums of hours are small -/
theorem sm_rng {f : Nat → Int64} {B : Int} (hB : 0 ≤ B) (hB2 : B ≤ 1000000000) : ∀ {l : Nat}, l ≤ 16 → (∀ i, i < l → 0 ≤ (f i).toInt ∧ (f i).toInt ≤ B) → 0 ≤ (sm f l).toInt ∧ (sm f l).toInt ≤ l * B
  | 0, _, _ => by
    rw [show (sm f 0).toInt = 0 from rfl]
    omega
  | l + 1, hl, h => by
    obtain ⟨h1, h2⟩ := sm_rng hB hB2 (l := l) (by omega) (fun i hi => h i (by omega))
    obtain ⟨h3, h4⟩ := h l (by omega)
    have hm : (l : Int) * B ≤ 16 * B := Int.mul_le_mul_of_nonneg_right (by omega) hB
    have e : (sm f (l + 1)).toInt = (sm f l).toInt + (f l).toInt := by
      rw [sm]
      exact fb_addL (by omega) (by omega)
    have e2 : ((l + 1 : Nat) : Int) * B = l * B + B := by
      rw [Int.natCast_add, Int.add_mul]
      simp
    rw [e, e2]
    omega
theorem spB_rng {t : Nat → Int32} {r : Nat → Nat} {l : Nat} (hl : l ≤ 8) (ht : ∀ i, i < l → 0 ≤ (t (r i)).toInt ∧ (t (r i)).toInt ≤ 400) : (spB t r l).toInt ≤ 100000000 ∧ (0 < spB t r l → 0 < fpB t r l) := by
  have eW : ∀ q : Int32, q.toInt64.toInt = q.toInt := fun q => Int32.toInt_toInt64 q
  have hT := sm_rng (f := fun i => (t (r i)).toInt64) (B := 400) (by decide) (by decide) (l := l) (by omega) (fun i hi => by
    show 0 ≤ ((t (r i)).toInt64).toInt ∧ ((t (r i)).toInt64).toInt ≤ 400
    rw [eW]; exact ht i hi)
  have hX := sm_rng (f := fun i => (t (r i)).toInt64 * (t (r i)).toInt64) (B := 160000) (by decide) (by decide) (l := l) (by omega) (fun i hi => by
    show 0 ≤ ((t (r i)).toInt64 * (t (r i)).toInt64).toInt ∧ ((t (r i)).toInt64 * (t (r i)).toInt64).toInt ≤ 160000
    obtain ⟨a, b⟩ := ht i hi
    have m1 : 0 ≤ (t (r i)).toInt * (t (r i)).toInt := Int.mul_nonneg a a
    have m2 : (t (r i)).toInt * (t (r i)).toInt ≤ 400 * (t (r i)).toInt := Int.mul_le_mul_of_nonneg_right b a
    rw [fb_mulL (by rw [eW]; omega) (by rw [eW]; omega), eW]
    omega)
  have hS : 0 ≤ (smT t r l).toInt ∧ (smT t r l).toInt ≤ l * 400 := hT
  have hQ : 0 ≤ (smX t t r l).toInt ∧ (smX t t r l).toInt ≤ l * 160000 := hX
  have hn : ((nI l).toInt64).toInt = l := by rw [eW, nI_toInt (by omega)]
  have a1 : 0 ≤ (l : Int) * (smX t t r l).toInt := Int.mul_nonneg (by omega) hQ.1
  have a2 : (l : Int) * (smX t t r l).toInt ≤ 8 * (smX t t r l).toInt := Int.mul_le_mul_of_nonneg_right (by omega) hQ.1
  have b1 : 0 ≤ (smT t r l).toInt * (smT t r l).toInt := Int.mul_nonneg hS.1 hS.1
  have b2 : (smT t r l).toInt * (smT t r l).toInt ≤ 3200 * (smT t r l).toInt := Int.mul_le_mul_of_nonneg_right (by omega) hS.1
  have e1 : ((nI l).toInt64 * smX t t r l).toInt = l * (smX t t r l).toInt := by rw [fb_mulL (by rw [hn]; omega) (by rw [hn]; omega), hn]
  have e2 : (smT t r l * smT t r l).toInt = (smT t r l).toInt * (smT t r l).toInt := fb_mulL (by omega) (by omega)
  have e3 : (spB t r l).toInt = l * (smX t t r l).toInt - (smT t r l).toInt * (smT t r l).toInt := by
    unfold spB
    rw [fb_subL (by rw [e1, e2]; omega) (by rw [e1, e2]; omega), e1, e2]
  refine ⟨by omega, fun h => ?_⟩
  rw [j_lt, show (0 : Int64).toInt = 0 from rfl] at h ⊢
  have hl0 : 1 ≤ l := by
    refine Nat.one_le_iff_ne_zero.mpr (fun z => ?_)
    subst z
    rw [show (spB t r 0).toInt = 0 from (by unfold spB smX smT; simp only [sm]; decide)] at h
    omega
  unfold fpB
  generalize spB t r l = w at h e3
  have c1 : w.toInt * 1 ≤ w.toInt * (l : Int) := Int.mul_le_mul_of_nonneg_left (by omega) (by omega)
  have c2 : (l : Int) * w.toInt ≤ 8 * w.toInt := Int.mul_le_mul_of_nonneg_right (by omega) (by omega)
  have c3 : w.toInt * (l : Int) = (l : Int) * w.toInt := Int.mul_comm _ _
  rw [fb_mulL (by rw [hn]; omega) (by rw [hn]; omega), hn]
  omega
set_option maxHeartbeats 4000000 in
set_option maxRecDepth 100000 in
theorem t_X11_fit (G : g_G) (M : g_M) (L : g_L) (x ax k pt : Int32) {n e fa ac : Nat} {sz : Nat → Nat} {rr : Nat → Nat → Nat} {go : Nat → Bool} (hM : mI M n e fa ac sz rr go) (hrn : ∀ p, p < 12 → ∀ i, i < sz p → rr p i < n) : mt G yX11_fit (Cond.code yX11_fit cX11_fit 5 (some .long)) 2 [.ref (G.1 + 149), .int x, .int ax, .int k, .int pt] M L (qL fun v M' L' => M = M' ∧ (((inW k 0 1 = false ∨ inW pt 0 1 = false ∨ (mHas M e x = false ∨ inW ax 0 1 = false)) ∧ v = NO) ∨ (inW k 0 1 = true ∧ inW pt 0 1 = true ∧ inW ax 0 1 = true ∧ ∃ p, p < e ∧ x = nI p ∧ M 158 p = 0 ∧ v = (if 0 < spB (M 150) (rr p) (sz p) then ftV (M 150) (plc (M 151) (M 152) ax) (rr p) (sz p) k pt else NO)))) := by
  refine mt_of (by decide) rfl (Nat.le_of_ble_eq_true rfl) [(0, .ref (G.1 + 149)), (1, .int x), (2, .int ax), (3, .int k), (4, .int pt)] rfl (fun X hG C hQ => ?_)
  subst hG
  refine wx_aload_n C 0 dX11_fit_0 rfl rfl ?_
  refine wx_iload_n C 1 dX11_fit_1 rfl rfl ?_
  refine ca_X11_185 C (rest := []) (t_X11_isPath X.1 M L x hM.he hM.e12) (by decide) rfl (by decide) rfl rfl (Nat.le_of_ble_eq_true rfl) dX11_fit_2 (kI fun r2 M2 L2 q2 => ?_)
  obtain ⟨rfl, rfl, rfl⟩ := q2
  refine wx_if_eq C 45 dX11_fit_5 (by decide) (fun c5 => ?_) (fun c5 => ?_)
  · refine wx_ldc2 C w4_211 dX11_fit_45 ?_
    refine wx_lret C hQ dX11_fit_48 ?_
    refine ⟨_, rfl, rfl, ?_⟩
    first
    | exact Or.inl ⟨Or.inr (Or.inr (Or.inl (bI_0.mp c5))), rfl⟩
    | exact Or.inl ⟨Or.inr (Or.inr (Or.inr (bI_0.mp c14))), rfl⟩
    | exact Or.inl ⟨Or.inl (bI_0.mp c23), rfl⟩
    | exact Or.inl ⟨Or.inr (Or.inl (bI_0.mp c33)), rfl⟩
    | exact Or.inr ⟨bI_n0.mp c23, bI_n0.mp c33, bI_n0.mp c14, p, hp, rfl, hg0, by rw [if_neg (of_decide_eq_false (bI_0.mp c42))]; rfl⟩
  · obtain ⟨p, hp, rfl, hg0⟩ := mHas_t hM.e12 (bI_n0.mp c5)
    have hp12 : p < 12 := by have := hM.e12; omega
    have hr := hM.r hp12
    refine wx_iload_n C 2 dX11_fit_8 rfl rfl ?_
    refine wx_iconst C 0 dX11_fit_9 (by decide) ?_
    refine wx_iconst C 1 dX11_fit_10 (by decide) ?_
    refine ca_X11_78 C (rest := []) (t_X11_isIn X.1 M L ax 0 1) (by decide) rfl rfl (Nat.le_of_ble_eq_true rfl) dX11_fit_11 (kI fun r11 M11 L11 q11 => ?_)
    obtain ⟨rfl, rfl, rfl⟩ := q11
    refine wx_if_eq C 45 dX11_fit_14 (by decide) (fun c14 => ?_) (fun c14 => ?_)
    · refine wx_ldc2 C w4_211 dX11_fit_45 ?_
      refine wx_lret C hQ dX11_fit_48 ?_
      refine ⟨_, rfl, rfl, ?_⟩
      first
      | exact Or.inl ⟨Or.inr (Or.inr (Or.inl (bI_0.mp c5))), rfl⟩
      | exact Or.inl ⟨Or.inr (Or.inr (Or.inr (bI_0.mp c14))), rfl⟩
      | exact Or.inl ⟨Or.inl (bI_0.mp c23), rfl⟩
      | exact Or.inl ⟨Or.inr (Or.inl (bI_0.mp c33)), rfl⟩
      | exact Or.inr ⟨bI_n0.mp c23, bI_n0.mp c33, bI_n0.mp c14, p, hp, rfl, hg0, by rw [if_neg (of_decide_eq_false (bI_0.mp c42))]; rfl⟩
    · refine wx_iload_n C 3 dX11_fit_17 rfl rfl ?_
      refine wx_iconst C 0 dX11_fit_18 (by decide) ?_
      refine wx_iconst C 1 dX11_fit_19 (by decide) ?_
      refine ca_X11_78 C (rest := []) (t_X11_isIn X.1 M L k 0 1) (by decide) rfl rfl (Nat.le_of_ble_eq_true rfl) dX11_fit_20 (kI fun r20 M20 L20 q20 => ?_)
      obtain ⟨rfl, rfl, rfl⟩ := q20
      refine wx_if_eq C 45 dX11_fit_23 (by decide) (fun c23 => ?_) (fun c23 => ?_)
      · refine wx_ldc2 C w4_211 dX11_fit_45 ?_
        refine wx_lret C hQ dX11_fit_48 ?_
        refine ⟨_, rfl, rfl, ?_⟩
        first
        | exact Or.inl ⟨Or.inr (Or.inr (Or.inl (bI_0.mp c5))), rfl⟩
        | exact Or.inl ⟨Or.inr (Or.inr (Or.inr (bI_0.mp c14))), rfl⟩
        | exact Or.inl ⟨Or.inl (bI_0.mp c23), rfl⟩
        | exact Or.inl ⟨Or.inr (Or.inl (bI_0.mp c33)), rfl⟩
        | exact Or.inr ⟨bI_n0.mp c23, bI_n0.mp c33, bI_n0.mp c14, p, hp, rfl, hg0, by rw [if_neg (of_decide_eq_false (bI_0.mp c42))]; rfl⟩
      · refine wx_iload C 4 dX11_fit_26 rfl ?_
        refine wx_iconst C 0 dX11_fit_28 (by decide) ?_
        refine wx_iconst C 1 dX11_fit_29 (by decide) ?_
        refine ca_X11_78 C (rest := []) (t_X11_isIn X.1 M L pt 0 1) (by decide) rfl rfl (Nat.le_of_ble_eq_true rfl) dX11_fit_30 (kI fun r30 M30 L30 q30 => ?_)
        obtain ⟨rfl, rfl, rfl⟩ := q30
        refine wx_if_eq C 45 dX11_fit_33 (by decide) (fun c33 => ?_) (fun c33 => ?_)
        · refine wx_ldc2 C w4_211 dX11_fit_45 ?_
          refine wx_lret C hQ dX11_fit_48 ?_
          refine ⟨_, rfl, rfl, ?_⟩
          first
          | exact Or.inl ⟨Or.inr (Or.inr (Or.inl (bI_0.mp c5))), rfl⟩
          | exact Or.inl ⟨Or.inr (Or.inr (Or.inr (bI_0.mp c14))), rfl⟩
          | exact Or.inl ⟨Or.inl (bI_0.mp c23), rfl⟩
          | exact Or.inl ⟨Or.inr (Or.inl (bI_0.mp c33)), rfl⟩
          | exact Or.inr ⟨bI_n0.mp c23, bI_n0.mp c33, bI_n0.mp c14, p, hp, rfl, hg0, by rw [if_neg (of_decide_eq_false (bI_0.mp c42))]; rfl⟩
        · refine wx_aload_n C 0 dX11_fit_36 rfl rfl ?_
          refine wx_iload_n C 1 dX11_fit_37 rfl rfl ?_
          refine wx_iload_n C 2 dX11_fit_38 rfl rfl ?_
          refine ca_X11_216 C (rest := []) (t_X11_fits X.1 M L rfl hp12 hr ax) (by decide) rfl (by decide) rfl rfl (Nat.le_of_ble_eq_true rfl) dX11_fit_39 (kI fun r39 M39 L39 q39 => ?_)
          obtain ⟨rfl, rfl, hf1, hf2, hf3, hf4⟩ := q39
          refine wx_if_ne C 49 dX11_fit_42 (by decide) (fun c42 => ?_) (fun c42 => ?_)
          · have hpos := of_decide_eq_true (bI_n0.mp c42)
            have hpos2 := (spB_rng (t := M 150) (r := rr p) hr.2.1 (fun i hi => hM.t (hrn p hp12 i hi))).2 hpos
            refine wx_iload_n C 3 dX11_fit_49 rfl rfl ?_
            refine wx_if_ne C 69 dX11_fit_50 (by decide) (fun c50 => ?_) (fun c50 => ?_)
            · refine wx_aload_n C 0 dX11_fit_69 rfl rfl ?_
              refine gf_X11_204 C dX11_fit_70 ?_
              refine wx_aload_n C 0 dX11_fit_73 rfl rfl ?_
              refine gf_X11_201 C dX11_fit_74 ?_
              refine wx_iload C 4 dX11_fit_77 rfl ?_
              refine ca_X11_219 C (rest := []) (t_X11_told X.1 M L39 (L39 149 32) (L39 149 34) pt (by rw [hf1]; exact hpos)) (by decide) rfl rfl (Nat.le_of_ble_eq_true rfl) dX11_fit_79 (kL fun r79 M79 L79 q79 => ?_)
              obtain ⟨rfl, rfl, rfl⟩ := q79
              refine wx_lret C hQ dX11_fit_82 ?_
              refine ⟨_, rfl, rfl, Or.inr ⟨bI_n0.mp c23, bI_n0.mp c33, bI_n0.mp c14, p, hp, rfl, hg0, ?_⟩⟩
              rw [if_pos hpos]
              unfold ftV
              rw [if_neg c50, hf1, hf2]
            · refine wx_aload_n C 0 dX11_fit_53 rfl rfl ?_
              refine gf_X11_210 C dX11_fit_54 ?_
              refine wx_aload_n C 0 dX11_fit_57 rfl rfl ?_
              refine gf_X11_207 C dX11_fit_58 ?_
              refine wx_iload C 4 dX11_fit_61 rfl ?_
              refine ca_X11_219 C (rest := []) (t_X11_told X.1 M L39 (L39 149 33) (L39 149 35) pt (by rw [hf3]; exact hpos2)) (by decide) rfl rfl (Nat.le_of_ble_eq_true rfl) dX11_fit_63 (kL fun r63 M63 L63 q63 => ?_)
              obtain ⟨rfl, rfl, rfl⟩ := q63
              refine wx_goto C 82 dX11_fit_66 (by decide) ?_
              refine wx_lret C hQ dX11_fit_82 ?_
              refine ⟨_, rfl, rfl, Or.inr ⟨bI_n0.mp c23, bI_n0.mp c33, bI_n0.mp c14, p, hp, rfl, hg0, ?_⟩⟩
              rw [if_pos hpos]
              unfold ftV
              rw [if_pos c50, hf3, hf4]
          · refine wx_ldc2 C w4_211 dX11_fit_45 ?_
            refine wx_lret C hQ dX11_fit_48 ?_
            refine ⟨_, rfl, rfl, ?_⟩
            first
            | exact Or.inl ⟨Or.inr (Or.inr (Or.inl (bI_0.mp c5))), rfl⟩
            | exact Or.inl ⟨Or.inr (Or.inr (Or.inr (bI_0.mp c14))), rfl⟩
            | exact Or.inl ⟨Or.inl (bI_0.mp c23), rfl⟩
            | exact Or.inl ⟨Or.inr (Or.inl (bI_0.mp c33)), rfl⟩
            | exact Or.inr ⟨bI_n0.mp c23, bI_n0.mp c33, bI_n0.mp c14, p, hp, rfl, hg0, by rw [if_neg (of_decide_eq_false (bI_0.mp c42))]; rfl⟩
set_option maxHeartbeats 4000000 in
set_option maxRecDepth 100000 in
theorem t_X11_miss (G : g_G) (M : g_M) (L : g_L) (x ix ax pt : Int32) {n e fa ac : Nat} {sz : Nat → Nat} {rr : Nat → Nat → Nat} {go : Nat → Bool} (hM : mI M n e fa ac sz rr go) (hrn : ∀ p, p < 12 → ∀ i, i < sz p → rr p i < n) : mt G yX11_miss (Cond.code yX11_miss cX11_miss 8 (some .long)) 2 [.ref (G.1 + 149), .int x, .int ix, .int ax, .int pt] M L (qL fun v M' L' => M = M' ∧ (((inW pt 0 1 = false ∨ (mHas M e x = false ∨ inW ax 0 1 = false)) ∧ v = NO) ∨ (∃ p, p < e ∧ x = nI p ∧ M 158 p = 0 ∧ ((dHas (sz p) ix = false ∧ v = NO) ∨ (inW pt 0 1 = true ∧ inW ax 0 1 = true ∧ v = (if 0 < spB (M 150) (rr p) (sz p) ∧ dHas (sz p) ix = true then msV (M 150) (plc (M 151) (M 152) ax) (rr p) (sz p) (rr p ix.toNatClampNeg) pt else NO)))))) := by
  refine mt_of (by decide) rfl (Nat.le_of_ble_eq_true rfl) [(0, .ref (G.1 + 149)), (1, .int x), (2, .int ix), (3, .int ax), (4, .int pt)] rfl (fun X hG C hQ => ?_)
  subst hG
  refine wx_aload_n C 0 dX11_miss_0 rfl rfl ?_
  refine wx_iload_n C 1 dX11_miss_1 rfl rfl ?_
  refine ca_X11_185 C (rest := []) (t_X11_isPath X.1 M L x hM.he hM.e12) (by decide) rfl (by decide) rfl rfl (Nat.le_of_ble_eq_true rfl) dX11_miss_2 (kI fun r2 M2 L2 q2 => ?_)
  obtain ⟨rfl, rfl, rfl⟩ := q2
  refine wx_if_eq C 52 dX11_miss_5 (by decide) (fun c5 => ?_) (fun c5 => ?_)
  · refine wx_ldc2 C w4_211 dX11_miss_52 ?_
    refine wx_lret C hQ dX11_miss_55 ?_
    refine ⟨_, rfl, rfl, ?_⟩
    first
    | exact Or.inl ⟨Or.inr (Or.inl (bI_0.mp c5)), rfl⟩
    | (refine Or.inr ⟨p, hp, rfl, hg0, Or.inl ⟨?_, rfl⟩⟩
       have h8 := hr.2.1
       have hin := bI_0.mp c21
       rw [hr.1, inW_p (by omega)] at hin
       exact hin)
    | exact Or.inl ⟨Or.inr (Or.inr (bI_0.mp c30)), rfl⟩
    | exact Or.inl ⟨Or.inl (bI_0.mp c40), rfl⟩
    | exact Or.inr ⟨p, hp, rfl, hg0, Or.inr ⟨bI_n0.mp c40, bI_n0.mp c30, by rw [if_neg (fun z => of_decide_eq_false (bI_0.mp c49) z.1)]; rfl⟩⟩
  · obtain ⟨p, hp, rfl, hg0⟩ := mHas_t hM.e12 (bI_n0.mp c5)
    have hp12 : p < 12 := by have := hM.e12; omega
    have hr := hM.r hp12
    refine wx_iload_n C 2 dX11_miss_8 rfl rfl ?_
    refine wx_iconst C 0 dX11_miss_9 (by decide) ?_
    refine wx_aload_n C 0 dX11_miss_10 rfl rfl ?_
    refine gf_X11_38 C dX11_miss_11 ?_
    refine wx_iload_n C 1 dX11_miss_14 rfl rfl ?_
    refine wx_iald C 156 p (by decide) (fun _ _ => rfl) (by decide) dX11_miss_15 rfl hp12 ?_
    refine wx_iconst C 1 dX11_miss_16 (by decide) ?_
    refine wx_isub C dX11_miss_17 ?_
    refine ca_X11_78 C (rest := []) (t_X11_isIn X.1 M L ix 0 (M 156 p - 1)) (by decide) rfl rfl (Nat.le_of_ble_eq_true rfl) dX11_miss_18 (kI fun r18 M18 L18 q18 => ?_)
    obtain ⟨rfl, rfl, rfl⟩ := q18
    refine wx_if_eq C 52 dX11_miss_21 (by decide) (fun c21 => ?_) (fun c21 => ?_)
    · refine wx_ldc2 C w4_211 dX11_miss_52 ?_
      refine wx_lret C hQ dX11_miss_55 ?_
      refine ⟨_, rfl, rfl, ?_⟩
      first
      | exact Or.inl ⟨Or.inr (Or.inl (bI_0.mp c5)), rfl⟩
      | (refine Or.inr ⟨p, hp, rfl, hg0, Or.inl ⟨?_, rfl⟩⟩
         have h8 := hr.2.1
         have hin := bI_0.mp c21
         rw [hr.1, inW_p (by omega)] at hin
         exact hin)
      | exact Or.inl ⟨Or.inr (Or.inr (bI_0.mp c30)), rfl⟩
      | exact Or.inl ⟨Or.inl (bI_0.mp c40), rfl⟩
      | exact Or.inr ⟨p, hp, rfl, hg0, Or.inr ⟨bI_n0.mp c40, bI_n0.mp c30, by rw [if_neg (fun z => of_decide_eq_false (bI_0.mp c49) z.1)]; rfl⟩⟩
    · have h8 := hr.2.1
      have hin := bI_n0.mp c21
      rw [hr.1, inW_p (by omega)] at hin
      obtain ⟨j, hj, rfl⟩ := dHas_t (by omega) hin
      have hrj := hr.2.2 j hj
      refine wx_iload_n C 3 dX11_miss_24 rfl rfl ?_
      refine wx_iconst C 0 dX11_miss_25 (by decide) ?_
      refine wx_iconst C 1 dX11_miss_26 (by decide) ?_
      refine ca_X11_78 C (rest := []) (t_X11_isIn X.1 M L ax 0 1) (by decide) rfl rfl (Nat.le_of_ble_eq_true rfl) dX11_miss_27 (kI fun r27 M27 L27 q27 => ?_)
      obtain ⟨rfl, rfl, rfl⟩ := q27
      refine wx_if_eq C 52 dX11_miss_30 (by decide) (fun c30 => ?_) (fun c30 => ?_)
      · refine wx_ldc2 C w4_211 dX11_miss_52 ?_
        refine wx_lret C hQ dX11_miss_55 ?_
        refine ⟨_, rfl, rfl, ?_⟩
        first
        | exact Or.inl ⟨Or.inr (Or.inl (bI_0.mp c5)), rfl⟩
        | (refine Or.inr ⟨p, hp, rfl, hg0, Or.inl ⟨?_, rfl⟩⟩
           have h8 := hr.2.1
           have hin := bI_0.mp c21
           rw [hr.1, inW_p (by omega)] at hin
           exact hin)
        | exact Or.inl ⟨Or.inr (Or.inr (bI_0.mp c30)), rfl⟩
        | exact Or.inl ⟨Or.inl (bI_0.mp c40), rfl⟩
        | exact Or.inr ⟨p, hp, rfl, hg0, Or.inr ⟨bI_n0.mp c40, bI_n0.mp c30, by rw [if_neg (fun z => of_decide_eq_false (bI_0.mp c49) z.1)]; rfl⟩⟩
      · refine wx_iload C 4 dX11_miss_33 rfl ?_
        refine wx_iconst C 0 dX11_miss_35 (by decide) ?_
        refine wx_iconst C 1 dX11_miss_36 (by decide) ?_
        refine ca_X11_78 C (rest := []) (t_X11_isIn X.1 M L pt 0 1) (by decide) rfl rfl (Nat.le_of_ble_eq_true rfl) dX11_miss_37 (kI fun r37 M37 L37 q37 => ?_)
        obtain ⟨rfl, rfl, rfl⟩ := q37
        refine wx_if_eq C 52 dX11_miss_40 (by decide) (fun c40 => ?_) (fun c40 => ?_)
        · refine wx_ldc2 C w4_211 dX11_miss_52 ?_
          refine wx_lret C hQ dX11_miss_55 ?_
          refine ⟨_, rfl, rfl, ?_⟩
          first
          | exact Or.inl ⟨Or.inr (Or.inl (bI_0.mp c5)), rfl⟩
          | (refine Or.inr ⟨p, hp, rfl, hg0, Or.inl ⟨?_, rfl⟩⟩
             have h8 := hr.2.1
             have hin := bI_0.mp c21
             rw [hr.1, inW_p (by omega)] at hin
             exact hin)
          | exact Or.inl ⟨Or.inr (Or.inr (bI_0.mp c30)), rfl⟩
          | exact Or.inl ⟨Or.inl (bI_0.mp c40), rfl⟩
          | exact Or.inr ⟨p, hp, rfl, hg0, Or.inr ⟨bI_n0.mp c40, bI_n0.mp c30, by rw [if_neg (fun z => of_decide_eq_false (bI_0.mp c49) z.1)]; rfl⟩⟩
        · refine wx_aload_n C 0 dX11_miss_43 rfl rfl ?_
          refine wx_iload_n C 1 dX11_miss_44 rfl rfl ?_
          refine wx_iload_n C 3 dX11_miss_45 rfl rfl ?_
          refine ca_X11_216 C (rest := []) (t_X11_fits X.1 M L rfl hp12 hr ax) (by decide) rfl (by decide) rfl rfl (Nat.le_of_ble_eq_true rfl) dX11_miss_46 (kI fun r46 M46 L46 q46 => ?_)
          obtain ⟨rfl, rfl, hf1, hf2, hf3, hf4⟩ := q46
          refine wx_if_ne C 56 dX11_miss_49 (by decide) (fun c49 => ?_) (fun c49 => ?_)
          · have hpos := of_decide_eq_true (bI_n0.mp c49)
            have hpos2 := (spB_rng (t := M 150) (r := rr p) hr.2.1 (fun i hi => hM.t (hrn p hp12 i hi))).2 hpos
            refine wx_aload_n C 0 dX11_miss_56 rfl rfl ?_
            refine gf_X11_41 C dX11_miss_57 ?_
            refine wx_bipush C 8 dX11_miss_60 (by decide) ?_
            refine wx_iload_n C 1 dX11_miss_62 rfl rfl ?_
            refine wx_imul C dX11_miss_63 ?_
            refine wx_iload_n C 2 dX11_miss_64 rfl rfl ?_
            refine wx_iadd C dX11_miss_65 ?_
            refine wx_iald C 157 (8 * p + j) (by decide) (fun _ _ => rfl) (by decide) dX11_miss_66 (by rw [show (8 : Int32) = nI 8 from rfl, pk_mul, nI_add]) (by omega) ?_
            refine wx_istore C [1, 2, 3, 4, 5, 0] [(0, .ref (X.1.1 + 149)), (1, .int (nI p)), (2, .int (nI j)), (3, .int ax), (4, .int pt), (5, .int (M 157 (8 * p + j)))] dX11_miss_67 (by decide) rfl ?_
            refine wx_aload_n C 0 dX11_miss_69 rfl rfl ?_
            refine wx_iload C 5 dX11_miss_70 rfl ?_
            refine wx_iload_n C 3 dX11_miss_72 rfl rfl ?_
            refine ca_X11_99 C (rest := []) (t_X11_placeOf X.1 M L46 (e := rr p j) hrj.1 hrj.2 ax) (by decide) rfl (by decide) rfl rfl (Nat.le_of_ble_eq_true rfl) dX11_miss_73 (kI fun r73 M73 L73 q73 => ?_)
            obtain ⟨rfl, rfl, rfl⟩ := q73
            refine wx_i2l C dX11_miss_76 ?_
            refine wx_aload_n C 0 dX11_miss_77 rfl rfl ?_
            refine gf_X11_207 C dX11_miss_78 ?_
            refine wx_lmul C dX11_miss_81 ?_
            refine wx_aload_n C 0 dX11_miss_82 rfl rfl ?_
            refine gf_X11_210 C dX11_miss_83 ?_
            refine wx_lsub C dX11_miss_86 ?_
            refine wx_aload_n C 0 dX11_miss_87 rfl rfl ?_
            refine gf_X11_204 C dX11_miss_88 ?_
            refine wx_aload_n C 0 dX11_miss_91 rfl rfl ?_
            refine gf_X11_38 C dX11_miss_92 ?_
            refine wx_iload_n C 1 dX11_miss_95 rfl rfl ?_
            refine wx_iald C 156 p (by decide) (fun _ _ => rfl) (by decide) dX11_miss_96 rfl hp12 ?_
            refine wx_i2l C dX11_miss_97 ?_
            refine wx_lmul C dX11_miss_98 ?_
            refine wx_aload_n C 0 dX11_miss_99 rfl rfl ?_
            refine gf_X11_19 C dX11_miss_100 ?_
            refine wx_iload C 5 dX11_miss_103 rfl ?_
            refine wx_iald C 150 (rr p j) (by decide) (fun _ _ => rfl) (by decide) dX11_miss_105 hrj.1 hrj.2 ?_
            refine wx_i2l C dX11_miss_106 ?_
            refine wx_lmul C dX11_miss_107 ?_
            refine wx_lsub C dX11_miss_108 ?_
            refine wx_nml (fun up hup => ?_)
            refine wx_lstore C [1, 2, 3, 4, 5, 6, 0] [(0, .ref (X.1.1 + 149)), (1, .int (nI p)), (2, .int (nI j)), (3, .int ax), (4, .int pt), (5, .int (M 157 (8 * p + j))), (6, .long up)] dX11_miss_109 (by decide) rfl ?_
            refine wx_lload C 6 dX11_miss_111 rfl ?_
            refine wx_lconst C 0 dX11_miss_113 (by decide) ?_
            refine wx_lcmp C dX11_miss_114 ?_
            refine wx_if_ge C 124 dX11_miss_115 (by decide) (fun c115 => ?_) (fun c115 => ?_)
            · refine wx_lload C 6 dX11_miss_124 rfl ?_
              refine wx_aload_n C 0 dX11_miss_126 rfl rfl ?_
              refine gf_X11_207 C dX11_miss_127 ?_
              refine wx_iload C 4 dX11_miss_130 rfl ?_
              refine ca_X11_219 C (rest := []) (t_X11_told X.1 M L46 up (L46 149 35) pt (by rw [hf3]; exact hpos2)) (by decide) rfl rfl (Nat.le_of_ble_eq_true rfl) dX11_miss_132 (kL fun r132 M132 L132 q132 => ?_)
              obtain ⟨rfl, rfl, rfl⟩ := q132
              refine wx_lret C hQ dX11_miss_135 ?_
              refine ⟨_, rfl, rfl, Or.inr ⟨p, hp, rfl, hg0, Or.inr ⟨bI_n0.mp c40, bI_n0.mp c30, ?_⟩⟩⟩
              rw [if_pos ⟨hpos, hin⟩]
              unfold msV
              rw [nI_clamp (by omega), ← hf3, ← hf4, ← hf2, ← hr.1]
              rw [← hup]
              rw [jab_ge ((lg_cmp_ge _ _).mp c115)]
            · refine wx_lload C 6 dX11_miss_118 rfl ?_
              refine wx_lneg C dX11_miss_120 ?_
              refine wx_goto C 126 dX11_miss_121 (by decide) ?_
              refine wx_aload_n C 0 dX11_miss_126 rfl rfl ?_
              refine gf_X11_207 C dX11_miss_127 ?_
              refine wx_iload C 4 dX11_miss_130 rfl ?_
              refine ca_X11_219 C (rest := []) (t_X11_told X.1 M L46 (-up) (L46 149 35) pt (by rw [hf3]; exact hpos2)) (by decide) rfl rfl (Nat.le_of_ble_eq_true rfl) dX11_miss_132 (kL fun r132 M132 L132 q132 => ?_)
              obtain ⟨rfl, rfl, rfl⟩ := q132
              refine wx_lret C hQ dX11_miss_135 ?_
              refine ⟨_, rfl, rfl, Or.inr ⟨p, hp, rfl, hg0, Or.inr ⟨bI_n0.mp c40, bI_n0.mp c30, ?_⟩⟩⟩
              rw [if_pos ⟨hpos, hin⟩]
              unfold msV
              rw [nI_clamp (by omega), ← hf3, ← hf4, ← hf2, ← hr.1]
              rw [← hup]
              rw [jab_lt ((lg_cmp_lt _ _).mp (Int32.not_le.mp c115))]
          · refine wx_ldc2 C w4_211 dX11_miss_52 ?_
            refine wx_lret C hQ dX11_miss_55 ?_
            refine ⟨_, rfl, rfl, ?_⟩
            first
            | exact Or.inl ⟨Or.inr (Or.inl (bI_0.mp c5)), rfl⟩
            | (refine Or.inr ⟨p, hp, rfl, hg0, Or.inl ⟨?_, rfl⟩⟩
               have h8 := hr.2.1
               have hin := bI_0.mp c21
               rw [hr.1, inW_p (by omega)] at hin
               exact hin)
            | exact Or.inl ⟨Or.inr (Or.inr (bI_0.mp c30)), rfl⟩
            | exact Or.inl ⟨Or.inl (bI_0.mp c40), rfl⟩
            | exact Or.inr ⟨p, hp, rfl, hg0, Or.inr ⟨bI_n0.mp c40, bI_n0.mp c30, by rw [if_neg (fun z => of_decide_eq_false (bI_0.mp c49) z.1)]; rfl⟩⟩
