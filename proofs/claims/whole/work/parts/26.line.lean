/-! ===== Net: what a row reaches; Line ===== -/
theorem t_edge2 (G : g_G) (M : g_M) (L : g_L) {k l : Nat} {r : Nat → Nat} (hk : rok M k l r) (hg0 : 1 ≤ (M 7 1).toInt) (a b ax h : Int32) (w : Bool) : mt G yX4_edge (Cond.code yX4_edge cX4_edge 10 (some .long)) 2 [.ref (G.1 + 7), .ref (G.1 + k), .int ax, .int h, .int (bI w)] (nt M a b) L (qL fun v M' L' => L = L' ∧ v = edS (cLp M ax r l) h w 41 ∧ ∃ a b, M' = nt M a b) := by
  refine mt_mono (t_X4_edge G (nt M a b) L (hk.nt a b) hg0 ax h w) (fun r M1 L1 h => ?_)
  obtain ⟨u, e, h1, h2, a1, b1, h3⟩ := h
  rw [nt_nt] at h3
  exact ⟨u, e, h1, h2, a1, b1, h3⟩
def rchB (p : Lp) (pl h : Int32) : Bool := decide (edS p h false 41 - p.2.2.1.toInt64 ≤ pl.toInt64 ∧ pl.toInt64 ≤ edS p h true 41 + p.2.2.1.toInt64)
def rch (M : g_M) (r : Nat → Nat) (l e : Nat) : Bool := snd M r l && (rchB (cLp M 0 r l) (plc (M 3) (M 4) 0 e) (M 2 e) && rchB (cLp M 1 r l) (plc (M 3) (M 4) 1 e) (M 2 e))
set_option maxHeartbeats 4000000 in
set_option maxRecDepth 100000 in
theorem t_X4_reachesBy (G : g_G) (M : g_M) (L : g_L) {k l e : Nat} {r : Nat → Nat} (hk : rok M k l r) (hg0 : 1 ≤ (M 7 1).toInt) {x : Int32} (hx : x = nI e) (he : e < 60) (ax : Int32) : mt G yX4_reachesBy (Cond.code yX4_reachesBy cX4_reachesBy 6 (some .boolean)) 3 [.ref (G.1 + 7), .ref (G.1 + k), .int x, .int ax] M L (qI fun v M' L' => L = L' ∧ v = bI (rchB (cLp M ax r l) (plc (M 3) (M 4) ax e) (M 2 e)) ∧ ∃ a b, M' = nt M a b) := by
  refine mt_of (by decide) rfl (Nat.le_of_ble_eq_true rfl) [(0, .ref (G.1 + 7)), (1, .ref (G.1 + k)), (2, .int x), (3, .int ax)] rfl (fun X hG C hQ => ?_)
  subst hG
  refine wx_aload_n C 0 dX4_reachesBy_0 rfl rfl ?_
  refine gf_X4_18 C dX4_reachesBy_1 ?_
  refine wx_iload_n C 2 dX4_reachesBy_4 rfl rfl ?_
  refine wx_iload_n C 3 dX4_reachesBy_5 rfl rfl ?_
  refine ca_X4_31 C (rest := []) (t_X7_placeOf X.1 M L hx he ax) (by decide) rfl (by decide) rfl rfl (Nat.le_of_ble_eq_true rfl) dX4_reachesBy_6 (kI fun r6 M6 L6 q6 => ?_)
  obtain ⟨rfl, rfl, rfl⟩ := q6
  refine wx_istore C [1, 2, 3, 4, 0] [(0, .ref (X.1.1 + 7)), (1, .ref (X.1.1 + k)), (2, .int x), (3, .int ax), (4, .int (plc (M 3) (M 4) ax e))] dX4_reachesBy_9 (by decide) rfl ?_
  refine wx_aload_n C 0 dX4_reachesBy_11 rfl rfl ?_
  refine gf_X4_18 C dX4_reachesBy_12 ?_
  refine gf_X4_37 C dX4_reachesBy_15 ?_
  refine wx_iload_n C 2 dX4_reachesBy_18 rfl rfl ?_
  refine wx_iald C 2 e (by decide) (fun _ _ => rfl) (by decide) dX4_reachesBy_19 hx he ?_
  refine wx_istore C [1, 2, 3, 4, 5, 0] [(0, .ref (X.1.1 + 7)), (1, .ref (X.1.1 + k)), (2, .int x), (3, .int ax), (4, .int (plc (M 3) (M 4) ax e)), (5, .int (M 2 e))] dX4_reachesBy_20 (by decide) rfl ?_
  refine wx_iload C 4 dX4_reachesBy_22 rfl ?_
  refine wx_i2l C dX4_reachesBy_24 ?_
  refine wx_aload_n C 0 dX4_reachesBy_25 rfl rfl ?_
  refine wx_aload_n C 1 dX4_reachesBy_26 rfl rfl ?_
  refine wx_iload_n C 3 dX4_reachesBy_27 rfl rfl ?_
  refine wx_iload C 5 dX4_reachesBy_28 rfl ?_
  refine wx_iconst C 0 dX4_reachesBy_30 (by decide) ?_
  refine ca_X4_71 C (rest := [.long ((plc (M 3) (M 4) ax e).toInt64)]) (t_X4_edge X.1 M L hk hg0 ax (M 2 e) false) (by decide) rfl (by decide) rfl rfl (Nat.le_of_ble_eq_true rfl) dX4_reachesBy_31 (kL fun r31 M31 L31 q31 => ?_)
  obtain ⟨rfl, rfl, a31, b31, rfl⟩ := q31
  refine wx_aload_n C 0 dX4_reachesBy_34 rfl rfl ?_
  refine gf_X4_15 C dX4_reachesBy_35 ?_
  refine wx_i2l C dX4_reachesBy_38 ?_
  refine wx_lsub C dX4_reachesBy_39 ?_
  refine wx_lcmp C dX4_reachesBy_40 ?_
  refine wx_if_lt C 70 dX4_reachesBy_41 (by decide) (fun c41 => ?_) (fun c41 => ?_)
  · refine wx_iconst C 0 dX4_reachesBy_70 (by decide) ?_
    refine wx_zret C hQ dX4_reachesBy_71 (by decide) ?_
    refine ⟨_, rfl, rfl, ?_, _, _, rfl⟩
    unfold rchB
    rw [decide_eq_false]
    · rfl
    · intro z
      first
      | exact absurd ((lg_cmp_lt _ _).mp c41) (Int64.not_lt.mpr z.1)
      | exact absurd ((lg_cmp_gt _ _).mp c63) (Int64.not_lt.mpr z.2)
  · refine wx_iload C 4 dX4_reachesBy_44 rfl ?_
    refine wx_i2l C dX4_reachesBy_46 ?_
    refine wx_aload_n C 0 dX4_reachesBy_47 rfl rfl ?_
    refine wx_aload_n C 1 dX4_reachesBy_48 rfl rfl ?_
    refine wx_iload_n C 3 dX4_reachesBy_49 rfl rfl ?_
    refine wx_iload C 5 dX4_reachesBy_50 rfl ?_
    refine wx_iconst C 1 dX4_reachesBy_52 (by decide) ?_
    refine ca_X4_71 C (rest := [.long ((plc (M 3) (M 4) ax e).toInt64)]) (t_edge2 X.1 M L hk hg0 a31 b31 ax (M 2 e) true) (by decide) rfl (by decide) rfl rfl (Nat.le_of_ble_eq_true rfl) dX4_reachesBy_53 (kL fun r53 M53 L53 q53 => ?_)
    obtain ⟨rfl, rfl, a53, b53, rfl⟩ := q53
    refine wx_aload_n C 0 dX4_reachesBy_56 rfl rfl ?_
    refine gf_X4_15 C dX4_reachesBy_57 ?_
    refine wx_i2l C dX4_reachesBy_60 ?_
    refine wx_ladd C dX4_reachesBy_61 ?_
    refine wx_lcmp C dX4_reachesBy_62 ?_
    refine wx_if_gt C 70 dX4_reachesBy_63 (by decide) (fun c63 => ?_) (fun c63 => ?_)
    · refine wx_iconst C 0 dX4_reachesBy_70 (by decide) ?_
      refine wx_zret C hQ dX4_reachesBy_71 (by decide) ?_
      refine ⟨_, rfl, rfl, ?_, _, _, rfl⟩
      unfold rchB
      rw [decide_eq_false]
      · rfl
      · intro z
        first
        | exact absurd ((lg_cmp_lt _ _).mp c41) (Int64.not_lt.mpr z.1)
        | exact absurd ((lg_cmp_gt _ _).mp c63) (Int64.not_lt.mpr z.2)
    · refine wx_iconst C 1 dX4_reachesBy_66 (by decide) ?_
      refine wx_goto C 71 dX4_reachesBy_67 (by decide) ?_
      refine wx_zret C hQ dX4_reachesBy_71 (by decide) ?_
      refine ⟨_, rfl, rfl, ?_, _, _, rfl⟩
      unfold rchB
      rw [decide_eq_true]
      · rfl
      · exact ⟨Int64.not_lt.mp (fun z => c41 ((lg_cmp_lt _ _).mpr z)), Int64.not_lt.mp (fun z => c63 ((lg_cmp_gt _ _).mpr z))⟩
theorem t_reachesBy2 (G : g_G) (M : g_M) (L : g_L) {k l e : Nat} {r : Nat → Nat} (hk : rok M k l r) (hg0 : 1 ≤ (M 7 1).toInt) {x : Int32} (hx : x = nI e) (he : e < 60) (a b ax : Int32) : mt G yX4_reachesBy (Cond.code yX4_reachesBy cX4_reachesBy 6 (some .boolean)) 3 [.ref (G.1 + 7), .ref (G.1 + k), .int x, .int ax] (nt M a b) L (qI fun v M' L' => L = L' ∧ v = bI (rchB (cLp M ax r l) (plc (M 3) (M 4) ax e) (M 2 e)) ∧ ∃ a b, M' = nt M a b) := by
  refine mt_mono (t_X4_reachesBy G (nt M a b) L (hk.nt a b) hg0 hx he ax) (fun r M1 L1 h => ?_)
  obtain ⟨u, e, h1, h2, a1, b1, h3⟩ := h
  rw [nt_nt] at h3
  exact ⟨u, e, h1, h2, a1, b1, h3⟩
set_option maxHeartbeats 4000000 in
set_option maxRecDepth 100000 in
theorem t_X4_reaches (G : g_G) (M : g_M) (L : g_L) {k l e : Nat} {r : Nat → Nat} (hk : rok M k l r) (hg0 : 1 ≤ (M 7 1).toInt) {x : Int32} (hx : x = nI e) (he : e < 60) : mt G yX4_reaches (Cond.code yX4_reaches cX4_reaches 3 (some .boolean)) 4 [.ref (G.1 + 7), .ref (G.1 + k), .int x] M L (qI fun v M' L' => L = L' ∧ v = bI (rch M r l e) ∧ ∃ a b, M' = nt M a b) := by
  refine mt_of (by decide) rfl (Nat.le_of_ble_eq_true rfl) [(0, .ref (G.1 + 7)), (1, .ref (G.1 + k)), (2, .int x)] rfl (fun X hG C hQ => ?_)
  subst hG
  refine wx_aload_n C 0 dX4_reaches_0 rfl rfl ?_
  refine wx_aload_n C 1 dX4_reaches_1 rfl rfl ?_
  refine ca_X4_75 C (rest := []) (t_X4_isSound X.1 M L hk hg0) (by decide) rfl (by decide) rfl rfl (Nat.le_of_ble_eq_true rfl) dX4_reaches_2 (kI fun r2 M2 L2 q2 => ?_)
  obtain ⟨rfl, rfl, a2, b2, rfl⟩ := q2
  refine wx_if_eq C 32 dX4_reaches_5 (by decide) (fun c5 => ?_) (fun c5 => ?_)
  · refine wx_iconst C 0 dX4_reaches_32 (by decide) ?_
    refine wx_zret C hQ dX4_reaches_33 (by decide) ?_
    refine ⟨_, rfl, rfl, ?_, _, _, rfl⟩
    unfold rch
    first
    | rw [bI_0.mp c5, Bool.false_and]; rfl
    | rw [bI_0.mp c15, Bool.false_and, Bool.and_false]; rfl
    | rw [bI_0.mp c25, Bool.and_false, Bool.and_false]; rfl
  · refine wx_aload_n C 0 dX4_reaches_8 rfl rfl ?_
    refine wx_aload_n C 1 dX4_reaches_9 rfl rfl ?_
    refine wx_iload_n C 2 dX4_reaches_10 rfl rfl ?_
    refine wx_iconst C 0 dX4_reaches_11 (by decide) ?_
    refine ca_X4_79 C (rest := []) (t_reachesBy2 X.1 M L hk hg0 hx he a2 b2 0) (by decide) rfl (by decide) rfl rfl (Nat.le_of_ble_eq_true rfl) dX4_reaches_12 (kI fun r12 M12 L12 q12 => ?_)
    obtain ⟨rfl, rfl, a12, b12, rfl⟩ := q12
    refine wx_if_eq C 32 dX4_reaches_15 (by decide) (fun c15 => ?_) (fun c15 => ?_)
    · refine wx_iconst C 0 dX4_reaches_32 (by decide) ?_
      refine wx_zret C hQ dX4_reaches_33 (by decide) ?_
      refine ⟨_, rfl, rfl, ?_, _, _, rfl⟩
      unfold rch
      first
      | rw [bI_0.mp c5, Bool.false_and]; rfl
      | rw [bI_0.mp c15, Bool.false_and, Bool.and_false]; rfl
      | rw [bI_0.mp c25, Bool.and_false, Bool.and_false]; rfl
    · refine wx_aload_n C 0 dX4_reaches_18 rfl rfl ?_
      refine wx_aload_n C 1 dX4_reaches_19 rfl rfl ?_
      refine wx_iload_n C 2 dX4_reaches_20 rfl rfl ?_
      refine wx_iconst C 1 dX4_reaches_21 (by decide) ?_
      refine ca_X4_79 C (rest := []) (t_reachesBy2 X.1 M L hk hg0 hx he a12 b12 1) (by decide) rfl (by decide) rfl rfl (Nat.le_of_ble_eq_true rfl) dX4_reaches_22 (kI fun r22 M22 L22 q22 => ?_)
      obtain ⟨rfl, rfl, a22, b22, rfl⟩ := q22
      refine wx_if_eq C 32 dX4_reaches_25 (by decide) (fun c25 => ?_) (fun c25 => ?_)
      · refine wx_iconst C 0 dX4_reaches_32 (by decide) ?_
        refine wx_zret C hQ dX4_reaches_33 (by decide) ?_
        refine ⟨_, rfl, rfl, ?_, _, _, rfl⟩
        unfold rch
        first
        | rw [bI_0.mp c5, Bool.false_and]; rfl
        | rw [bI_0.mp c15, Bool.false_and, Bool.and_false]; rfl
        | rw [bI_0.mp c25, Bool.and_false, Bool.and_false]; rfl
      · refine wx_iconst C 1 dX4_reaches_28 (by decide) ?_
        refine wx_goto C 33 dX4_reaches_29 (by decide) ?_
        refine wx_zret C hQ dX4_reaches_33 (by decide) ?_
        refine ⟨_, rfl, rfl, ?_, _, _, rfl⟩
        unfold rch
        rw [bI_n0.mp c5, bI_n0.mp c15, bI_n0.mp c25]
        rfl
/-! Line -/
def sm (f : Nat → Int64) : Nat → Int64
  | 0 => 0
  | i + 1 => sm f i + f i
def smT (t : Nat → Int32) (r : Nat → Nat) : Nat → Int64 := sm (fun i => (t (r i)).toInt64)
def smX (t z : Nat → Int32) (r : Nat → Nat) : Nat → Int64 := sm (fun i => (t (r i)).toInt64 * (z (r i)).toInt64)
def lnS (L : g_L) (a b c : Int64) : g_L := g_sl (g_sl (g_sl L 146 0 a) 146 1 b) 146 2 c
theorem lnS_up (L : g_L) (a b c x y : Int64) : g_sl (g_sl (lnS L a b c) 146 1 (lnS L a b c 146 1 + x)) 146 2 (g_sl (lnS L a b c) 146 1 (lnS L a b c 146 1 + x) 146 2 + y) = lnS L a (b + x) (c + y) := by
  have e1 : lnS L a b c 146 1 = b := rfl
  have e2 : g_sl (lnS L a b c) 146 1 (b + x) 146 2 = c := rfl
  rw [e1, e2]
  funext u v
  simp only [lnS, g_sl_ap]
  (repeat' split) <;> first | rfl | (exfalso; omega)
/-- above and below the speed's line -/
def spT (t z : Nat → Int32) (r : Nat → Nat) (l : Nat) : Int64 := (nI l).toInt64 * smX t z r l - smT t r l * smT z r l
def spB (t : Nat → Int32) (r : Nat → Nat) (l : Nat) : Int64 := (nI l).toInt64 * smX t t r l - smT t r l * smT t r l
def lnF (L : g_L) (t z : Nat → Int32) (r : Nat → Nat) (l : Nat) : g_L := g_sl (g_sl (lnS L (nI l).toInt64 (smT t r l) (smT z r l)) 146 3 (spT t z r l)) 146 4 (spB t r l)
def jab (x : Int64) : Int64 := if 0 < x then x else -x
def gcs : Nat → Int64 → Int64 → Int64
  | 0, a, _ => a
  | n + 1, a, b => if b = 0 then a else gcs n b (a - a / b * b)
def red (top below : Int64) (part : Int32) : Int64 := if gcs 200 (jab top) (jab below) = 0 then NO else (if part = 0 then top else below) / gcs 200 (jab top) (jab below)
def pT (L : g_L) : Int64 := L 146 2 * L 146 4 - L 146 3 * L 146 1
def pB (L : g_L) : Int64 := L 146 0 * L 146 4
set_option maxHeartbeats 4000000 in
set_option maxRecDepth 100000 in
theorem lp_X3_through {X : g_X} {Qr : Option Value → g_M → g_L → Prop} (C : Cx X cX3_through 13 RX3 (some .boolean) 1) (hQ : Rx X Qr) {M : g_M} {L : g_L} {k l : Nat} {r : Nat → Nat} {ax : Int32} (hk : rok M k l r) (hp : Qr (some (.int (bI (decide (0 < spB (M 2) r l))))) M (lnF L (M 2) (plc (M 3) (M 4) ax) r l)) : ∀ (n i : Nat), i ≤ l → l < i + n → wx X M (lnS L (nI l).toInt64 (smT (M 2) r i) (smT (plc (M 3) (M 4) ax) r i)) 28 [(0, .ref (X.1.1 + 146)), (1, .ref (X.1.1 + 1)), (2, .ref (X.1.1 + k)), (3, .int ax), (4, .long (smX (M 2) (M 2) r i)), (6, .long (smX (M 2) (plc (M 3) (M 4) ax) r i)), (8, .int (nI i))] [] := by
  intro n
  induction n with
  | zero =>
    intro i h1 h2
    exact absurd h2 (by omega)
  | succ n ih =>
    intro i hi0 hin
    refine wx_iload C 6 dX3_through_28 rfl ?_
    refine wx_aload_n C 2 dX3_through_30 rfl rfl ?_
    refine gf_X3_9 C hk.1 dX3_through_31 ?_
    refine wx_icmp_ge C 115 dX3_through_34 (by decide) (fun c34 => ?_) (fun c34 => ?_)
    · have hib : i = l := by
        rw [hk.2.1] at c34
        have := hk.2.2.1
        exact Nat.le_antisymm hi0 ((nI_leI (by omega) (by omega)).mp c34)
      rw [hib]
      refine wx_aload_n C 0 dX3_through_115 rfl rfl ?_
      refine wx_aload_n C 0 dX3_through_116 rfl rfl ?_
      refine gf_X3_15 C dX3_through_117 ?_
      refine wx_lload C 5 dX3_through_120 rfl ?_
      refine wx_lmul C dX3_through_122 ?_
      refine wx_aload_n C 0 dX3_through_123 rfl rfl ?_
      refine gf_X3_21 C dX3_through_124 ?_
      refine wx_aload_n C 0 dX3_through_127 rfl rfl ?_
      refine gf_X3_24 C dX3_through_128 ?_
      refine wx_lmul C dX3_through_131 ?_
      refine wx_lsub C dX3_through_132 ?_
      refine pf_X3_39 C dX3_through_133 ?_
      refine wx_aload_n C 0 dX3_through_136 rfl rfl ?_
      refine wx_aload_n C 0 dX3_through_137 rfl rfl ?_
      refine gf_X3_15 C dX3_through_138 ?_
      refine wx_lload C 4 dX3_through_141 rfl ?_
      refine wx_lmul C dX3_through_143 ?_
      refine wx_aload_n C 0 dX3_through_144 rfl rfl ?_
      refine gf_X3_21 C dX3_through_145 ?_
      refine wx_aload_n C 0 dX3_through_148 rfl rfl ?_
      refine gf_X3_21 C dX3_through_149 ?_
      refine wx_lmul C dX3_through_152 ?_
      refine wx_lsub C dX3_through_153 ?_
      refine pf_X3_42 C dX3_through_154 ?_
      refine wx_aload_n C 0 dX3_through_157 rfl rfl ?_
      refine gf_X3_42 C dX3_through_158 ?_
      refine wx_lconst C 0 dX3_through_161 (by decide) ?_
      refine wx_lcmp C dX3_through_162 ?_
      refine wx_if_le C 170 dX3_through_163 (by decide) (fun c163 => ?_) (fun c163 => ?_)
      · refine wx_iconst C 0 dX3_through_170 (by decide) ?_
        refine wx_zret C hQ dX3_through_171 (by decide) ?_
        have hz : ¬ 0 < spB (M 2) r l := Int64.not_lt.mpr ((lg_cmp_le _ _).mp c163)
        rw [decide_eq_false hz] at hp
        exact hp
      · refine wx_iconst C 1 dX3_through_166 (by decide) ?_
        refine wx_goto C 171 dX3_through_167 (by decide) ?_
        refine wx_zret C hQ dX3_through_171 (by decide) ?_
        have hz : 0 < spB (M 2) r l := Int64.not_le.mp (fun z => c163 ((lg_cmp_le _ _).mpr z))
        rw [decide_eq_true hz] at hp
        exact hp
    · have hi : i < l := by
        rw [hk.2.1] at c34
        have := hk.2.2.1
        exact Nat.lt_of_not_le (fun h => c34 ((nI_leI (by omega) (by omega)).mpr h))
      have hri := hk.2.2.2 i hi
      refine wx_aload_n C 1 dX3_through_37 rfl rfl ?_
      refine gf_X3_27 C dX3_through_38 ?_
      refine wx_aload_n C 2 dX3_through_41 rfl rfl ?_
      refine gf_X3_33 C hk.1 dX3_through_42 ?_
      refine wx_iload C 6 dX3_through_45 rfl ?_
      refine wx_iald C (k + 1) i (g_row_lt2 hk.1) (sh_rowD hk.1) (by decide) dX3_through_47 rfl (by have := hk.2.2.1; omega) ?_
      refine wx_iald C 2 (r i) (by decide) (fun _ _ => rfl) (by decide) dX3_through_48 hri.1 hri.2 ?_
      refine wx_i2l C dX3_through_49 ?_
      refine wx_lstore C [1, 2, 3, 4, 5, 6, 7, 0] [(0, .ref (X.1.1 + 146)), (1, .ref (X.1.1 + 1)), (2, .ref (X.1.1 + k)), (3, .int ax), (4, .long (smX (M 2) (M 2) r i)), (6, .long (smX (M 2) (plc (M 3) (M 4) ax) r i)), (8, .int (nI i)), (9, .long ((M 2 (r i)).toInt64))] dX3_through_50 (by decide) rfl ?_
      refine wx_aload_n C 1 dX3_through_52 rfl rfl ?_
      refine wx_aload_n C 2 dX3_through_53 rfl rfl ?_
      refine gf_X3_33 C hk.1 dX3_through_54 ?_
      refine wx_iload C 6 dX3_through_57 rfl ?_
      refine wx_iald C (k + 1) i (g_row_lt2 hk.1) (sh_rowD hk.1) (by decide) dX3_through_59 rfl (by have := hk.2.2.1; omega) ?_
      refine wx_iload_n C 3 dX3_through_60 rfl rfl ?_
      refine ca_X3_35 C (rest := []) (t_X7_placeOf X.1 M (lnS L (nI l).toInt64 (smT (M 2) r i) (smT (plc (M 3) (M 4) ax) r i)) hri.1 hri.2 ax) (by decide) rfl (by decide) rfl rfl (Nat.le_of_ble_eq_true rfl) dX3_through_61 (kI fun r61 M61 L61 q61 => ?_)
      obtain ⟨rfl, rfl, rfl⟩ := q61
      refine wx_i2l C dX3_through_64 ?_
      refine wx_lstore C [1, 2, 3, 4, 5, 6, 7, 8, 0] [(0, .ref (X.1.1 + 146)), (1, .ref (X.1.1 + 1)), (2, .ref (X.1.1 + k)), (3, .int ax), (4, .long (smX (M 2) (M 2) r i)), (6, .long (smX (M 2) (plc (M 3) (M 4) ax) r i)), (8, .int (nI i)), (9, .long ((M 2 (r i)).toInt64)), (11, .long ((plc (M 3) (M 4) ax (r i)).toInt64))] dX3_through_65 (by decide) rfl ?_
      refine wx_aload_n C 0 dX3_through_67 rfl rfl ?_
      refine wx_dup C dX3_through_68 rfl ?_
      refine gf_X3_21 C dX3_through_69 ?_
      refine wx_lload C 7 dX3_through_72 rfl ?_
      refine wx_ladd C dX3_through_74 ?_
      refine pf_X3_21 C dX3_through_75 ?_
      refine wx_aload_n C 0 dX3_through_78 rfl rfl ?_
      refine wx_dup C dX3_through_79 rfl ?_
      refine gf_X3_24 C dX3_through_80 ?_
      refine wx_lload C 8 dX3_through_83 rfl ?_
      refine wx_ladd C dX3_through_85 ?_
      refine pf_X3_24 C dX3_through_86 ?_
      refine wx_lload C 4 dX3_through_89 rfl ?_
      refine wx_lload C 7 dX3_through_91 rfl ?_
      refine wx_lload C 7 dX3_through_93 rfl ?_
      refine wx_lmul C dX3_through_95 ?_
      refine wx_ladd C dX3_through_96 ?_
      refine wx_lstore C [1, 2, 3, 4, 0, 5, 6, 7, 8] [(0, .ref (X.1.1 + 146)), (1, .ref (X.1.1 + 1)), (2, .ref (X.1.1 + k)), (3, .int ax), (4, .long ((smX (M 2) (M 2) r i) + (((M 2 (r i)).toInt64) * ((M 2 (r i)).toInt64)))), (6, .long (smX (M 2) (plc (M 3) (M 4) ax) r i)), (8, .int (nI i)), (9, .long ((M 2 (r i)).toInt64)), (11, .long ((plc (M 3) (M 4) ax (r i)).toInt64))] dX3_through_97 (by decide) rfl ?_
      refine wx_lload C 5 dX3_through_99 rfl ?_
      refine wx_lload C 7 dX3_through_101 rfl ?_
      refine wx_lload C 8 dX3_through_103 rfl ?_
      refine wx_lmul C dX3_through_105 ?_
      refine wx_ladd C dX3_through_106 ?_
      refine wx_lstore C [1, 2, 3, 4, 5, 0, 6, 7, 8] [(0, .ref (X.1.1 + 146)), (1, .ref (X.1.1 + 1)), (2, .ref (X.1.1 + k)), (3, .int ax), (4, .long ((smX (M 2) (M 2) r i) + (((M 2 (r i)).toInt64) * ((M 2 (r i)).toInt64)))), (6, .long ((smX (M 2) (plc (M 3) (M 4) ax) r i) + (((M 2 (r i)).toInt64) * ((plc (M 3) (M 4) ax (r i)).toInt64)))), (8, .int (nI i)), (9, .long ((M 2 (r i)).toInt64)), (11, .long ((plc (M 3) (M 4) ax (r i)).toInt64))] dX3_through_107 (by decide) rfl ?_
      refine wx_iinc C (v := (nI (i + 1))) 6 [1, 2, 3, 4, 5, 6, 0, 7, 8] [(0, .ref (X.1.1 + 146)), (1, .ref (X.1.1 + 1)), (2, .ref (X.1.1 + k)), (3, .int ax), (4, .long ((smX (M 2) (M 2) r i) + (((M 2 (r i)).toInt64) * ((M 2 (r i)).toInt64)))), (6, .long ((smX (M 2) (plc (M 3) (M 4) ax) r i) + (((M 2 (r i)).toInt64) * ((plc (M 3) (M 4) ax (r i)).toInt64)))), (8, .int (nI (i + 1))), (9, .long ((M 2 (r i)).toInt64)), (11, .long ((plc (M 3) (M 4) ax (r i)).toInt64))] dX3_through_109 rfl (nI_1 _) (by decide) rfl ?_
      refine wx_goto C 28 dX3_through_112 (by decide) ?_
      rw [lnS_up]
      exact wx_sub [0, 1, 2, 3, 4, 5, 6] rfl (ih (i + 1) (by omega) (by omega))
set_option maxHeartbeats 4000000 in
set_option maxRecDepth 100000 in
theorem t_X3_through (G : g_G) (M : g_M) (L : g_L) {k l : Nat} {r : Nat → Nat} (hk : rok M k l r) (ax : Int32) : mt G yX3_through (Cond.code yX3_through cX3_through 13 (some .boolean)) 1 [.ref (G.1 + 146), .ref (G.1 + 1), .ref (G.1 + k), .int ax] M L (qI fun v M' L' => M = M' ∧ v = bI (decide (0 < spB (M 2) r l)) ∧ L' = lnF L (M 2) (plc (M 3) (M 4) ax) r l) := by
  refine mt_of (by decide) rfl (Nat.le_of_ble_eq_true rfl) [(0, .ref (G.1 + 146)), (1, .ref (G.1 + 1)), (2, .ref (G.1 + k)), (3, .int ax)] rfl (fun X hG C hQ => ?_)
  subst hG
  refine wx_aload_n C 0 dX3_through_0 rfl rfl ?_
  refine wx_aload_n C 2 dX3_through_1 rfl rfl ?_
  refine gf_X3_9 C hk.1 dX3_through_2 ?_
  refine wx_i2l C dX3_through_5 ?_
  refine pf_X3_15 C dX3_through_6 ?_
  refine wx_aload_n C 0 dX3_through_9 rfl rfl ?_
  refine wx_lconst C 0 dX3_through_10 (by decide) ?_
  refine pf_X3_21 C dX3_through_11 ?_
  refine wx_aload_n C 0 dX3_through_14 rfl rfl ?_
  refine wx_lconst C 0 dX3_through_15 (by decide) ?_
  refine pf_X3_24 C dX3_through_16 ?_
  refine wx_lconst C 0 dX3_through_19 (by decide) ?_
  refine wx_lstore C [1, 2, 3, 4, 0] [(0, .ref (X.1.1 + 146)), (1, .ref (X.1.1 + 1)), (2, .ref (X.1.1 + k)), (3, .int ax), (4, .long 0)] dX3_through_20 (by decide) rfl ?_
  refine wx_lconst C 0 dX3_through_22 (by decide) ?_
  refine wx_lstore C [1, 2, 3, 4, 5, 0] [(0, .ref (X.1.1 + 146)), (1, .ref (X.1.1 + 1)), (2, .ref (X.1.1 + k)), (3, .int ax), (4, .long 0), (6, .long 0)] dX3_through_23 (by decide) rfl ?_
  refine wx_iconst C 0 dX3_through_25 (by decide) ?_
  refine wx_istore C [1, 2, 3, 4, 5, 6, 0] [(0, .ref (X.1.1 + 146)), (1, .ref (X.1.1 + 1)), (2, .ref (X.1.1 + k)), (3, .int ax), (4, .long 0), (6, .long 0), (8, .int 0)] dX3_through_26 (by decide) rfl ?_
  have h := lp_X3_through C hQ hk (ax := ax) (L := L) ⟨_, rfl, rfl, rfl, rfl⟩ (l + 1) 0 (by omega) (by omega)
  have e : lnS L (nI l).toInt64 (smT (M 2) r 0) (smT (plc (M 3) (M 4) ax) r 0) = g_sl (g_sl (g_sl L 146 0 ((M k 1).toInt64)) 146 1 0) 146 2 0 := by rw [hk.2.1]; rfl
  rw [e] at h
  exact h
set_option maxHeartbeats 4000000 in
set_option maxRecDepth 100000 in
theorem t_X3_placeTop (G : g_G) (M : g_M) (L : g_L)  : mt G yX3_placeTop (Cond.code yX3_placeTop cX3_placeTop 1 (some .long)) 0 [.ref (G.1 + 146)] M L (qL fun v M' L' => M = M' ∧ v = pT L ∧ L = L') := by
  refine mt_of (by decide) rfl (Nat.le_of_ble_eq_true rfl) [(0, .ref (G.1 + 146))] rfl (fun X hG C hQ => ?_)
  subst hG
  refine wx_aload_n C 0 dX3_placeTop_0 rfl rfl ?_
  refine gf_X3_24 C dX3_placeTop_1 ?_
  refine wx_aload_n C 0 dX3_placeTop_4 rfl rfl ?_
  refine gf_X3_42 C dX3_placeTop_5 ?_
  refine wx_lmul C dX3_placeTop_8 ?_
  refine wx_aload_n C 0 dX3_placeTop_9 rfl rfl ?_
  refine gf_X3_39 C dX3_placeTop_10 ?_
  refine wx_aload_n C 0 dX3_placeTop_13 rfl rfl ?_
  refine gf_X3_21 C dX3_placeTop_14 ?_
  refine wx_lmul C dX3_placeTop_17 ?_
  refine wx_lsub C dX3_placeTop_18 ?_
  refine wx_lret C hQ dX3_placeTop_19 ?_
  exact ⟨_, rfl, rfl, rfl, rfl⟩
set_option maxHeartbeats 4000000 in
set_option maxRecDepth 100000 in
theorem t_X3_placeBelow (G : g_G) (M : g_M) (L : g_L)  : mt G yX3_placeBelow (Cond.code yX3_placeBelow cX3_placeBelow 1 (some .long)) 0 [.ref (G.1 + 146)] M L (qL fun v M' L' => M = M' ∧ v = pB L ∧ L = L') := by
  refine mt_of (by decide) rfl (Nat.le_of_ble_eq_true rfl) [(0, .ref (G.1 + 146))] rfl (fun X hG C hQ => ?_)
  subst hG
  refine wx_aload_n C 0 dX3_placeBelow_0 rfl rfl ?_
  refine gf_X3_15 C dX3_placeBelow_1 ?_
  refine wx_aload_n C 0 dX3_placeBelow_4 rfl rfl ?_
  refine gf_X3_42 C dX3_placeBelow_5 ?_
  refine wx_lmul C dX3_placeBelow_8 ?_
  refine wx_lret C hQ dX3_placeBelow_9 ?_
  exact ⟨_, rfl, rfl, rfl, rfl⟩
set_option maxHeartbeats 4000000 in
set_option maxRecDepth 100000 in
theorem t_X3_missTop (G : g_G) (M : g_M) (L : g_L) (h p : Int64) : mt G yX3_missTop (Cond.code yX3_missTop cX3_missTop 5 (some .long)) 1 [.ref (G.1 + 146), .long h, .long p] M L (qL fun v M' L' => M = M' ∧ v = jab (p * pB L - pT L - L 146 3 * L 146 0 * h) ∧ L = L') := by
  refine mt_of (by decide) rfl (Nat.le_of_ble_eq_true rfl) [(0, .ref (G.1 + 146)), (1, .long h), (3, .long p)] rfl (fun X hG C hQ => ?_)
  subst hG
  refine wx_lload_n C 2 dX3_missTop_0 rfl rfl ?_
  refine wx_aload_n C 0 dX3_missTop_1 rfl rfl ?_
  refine ca_X3_45 C (rest := [.long p]) (t_X3_placeBelow X.1 M L) (by decide) rfl (by decide) rfl rfl (Nat.le_of_ble_eq_true rfl) dX3_missTop_2 (kL fun r2 M2 L2 q2 => ?_)
  obtain ⟨rfl, rfl, rfl⟩ := q2
  refine wx_lmul C dX3_missTop_5 ?_
  refine wx_aload_n C 0 dX3_missTop_6 rfl rfl ?_
  refine ca_X3_49 C (rest := [.long (p * (pB L))]) (t_X3_placeTop X.1 M L) (by decide) rfl (by decide) rfl rfl (Nat.le_of_ble_eq_true rfl) dX3_missTop_7 (kL fun r7 M7 L7 q7 => ?_)
  obtain ⟨rfl, rfl, rfl⟩ := q7
  refine wx_lsub C dX3_missTop_10 ?_
  refine wx_aload_n C 0 dX3_missTop_11 rfl rfl ?_
  refine gf_X3_39 C dX3_missTop_12 ?_
  refine wx_aload_n C 0 dX3_missTop_15 rfl rfl ?_
  refine gf_X3_15 C dX3_missTop_16 ?_
  refine wx_lmul C dX3_missTop_19 ?_
  refine wx_lload_n C 1 dX3_missTop_20 rfl rfl ?_
  refine wx_lmul C dX3_missTop_21 ?_
  refine wx_lsub C dX3_missTop_22 ?_
  refine wx_mabsl C w3_114 w3_115 w1_13 w3_116 (by decide) (Nat.le_of_ble_eq_true rfl) dX3_missTop_23 ?_
  refine wx_lret C hQ dX3_missTop_26 ?_
  exact ⟨_, rfl, rfl, rfl, rfl⟩
set_option maxHeartbeats 4000000 in
set_option maxRecDepth 100000 in
theorem lp_X3_gcd {X : g_X} {Qr : Option Value → g_M → g_L → Prop} (C : Cx X cX3_commonDivisor 11 RX3 (some .long) 0) (hQ : Rx X Qr) {M : g_M} {L : g_L} {a0 b0 : Int64} : ∀ (n i : Nat), i ≤ 200 → 200 < i + n → ∀ (a b : Int64), Qr (some (.long (gcs (200 - i) a b))) M L → wx X M L 9 [(0, .long a0), (2, .long b0), (4, .long a), (6, .long b), (8, .int (nI i))] [] := by
  intro n
  induction n with
  | zero =>
    intro i h1 h2
    exact absurd h2 (by omega)
  | succ n ih =>
    intro i hi0 hin a b hp
    refine wx_iload C 4 dX3_commonDivisor_9 rfl ?_
    refine wx_sipush C 200 dX3_commonDivisor_11 (by decide) ?_
    refine wx_icmp_ge C 45 dX3_commonDivisor_14 (by decide) (fun c14 => ?_) (fun c14 => ?_)
    · refine wx_lload C 2 dX3_commonDivisor_45 rfl ?_
      refine wx_lret C hQ dX3_commonDivisor_47 ?_
      first
      | (rw [if_pos ((lg_cmp_eq _ _).mp c21)] at hp; exact hp)
      | (rw [show 200 - i = 0 by have := (nI_leI (a := 200) (b := i) (by decide) (by omega)).mp c14; omega, gcs] at hp; exact hp)
    · have hi : i < 200 := Nat.lt_of_not_le (fun h => c14 ((nI_leI (a := 200) (b := i) (by decide) (by omega)).mpr h))
      rw [show 200 - i = (200 - (i + 1)) + 1 by omega, gcs] at hp
      refine wx_lload C 3 dX3_commonDivisor_17 rfl ?_
      refine wx_lconst C 0 dX3_commonDivisor_19 (by decide) ?_
      refine wx_lcmp C dX3_commonDivisor_20 ?_
      refine wx_if_eq C 45 dX3_commonDivisor_21 (by decide) (fun c21 => ?_) (fun c21 => ?_)
      · refine wx_lload C 2 dX3_commonDivisor_45 rfl ?_
        refine wx_lret C hQ dX3_commonDivisor_47 ?_
        first
        | (rw [if_pos ((lg_cmp_eq _ _).mp c21)] at hp; exact hp)
        | (rw [show 200 - i = 0 by have := (nI_leI (a := 200) (b := i) (by decide) (by omega)).mp c14; omega, gcs] at hp; exact hp)
      · refine wx_lload C 2 dX3_commonDivisor_24 rfl ?_
        refine wx_lload C 3 dX3_commonDivisor_26 rfl ?_
        refine wx_lrem C dX3_commonDivisor_28 (fun z => c21 ((lg_cmp_eq _ _).mpr z)) ?_
        refine wx_lstore C [1, 2, 3, 4, 5, 0] [(0, .long a0), (2, .long b0), (4, .long a), (6, .long b), (8, .int (nI i)), (9, .long (a - a / b * b))] dX3_commonDivisor_29 (by decide) rfl ?_
        refine wx_lload C 3 dX3_commonDivisor_31 rfl ?_
        refine wx_lstore C [1, 2, 0, 3, 4, 5] [(0, .long a0), (2, .long b0), (4, .long b), (6, .long b), (8, .int (nI i)), (9, .long (a - a / b * b))] dX3_commonDivisor_33 (by decide) rfl ?_
        refine wx_lload C 5 dX3_commonDivisor_35 rfl ?_
        refine wx_lstore C [1, 2, 3, 0, 4, 5] [(0, .long a0), (2, .long b0), (4, .long b), (6, .long (a - a / b * b)), (8, .int (nI i)), (9, .long (a - a / b * b))] dX3_commonDivisor_37 (by decide) rfl ?_
        refine wx_iinc C (v := (nI (i + 1))) 4 [1, 2, 3, 4, 0, 5] [(0, .long a0), (2, .long b0), (4, .long b), (6, .long (a - a / b * b)), (8, .int (nI (i + 1))), (9, .long (a - a / b * b))] dX3_commonDivisor_39 rfl (nI_1 _) (by decide) rfl ?_
        refine wx_goto C 9 dX3_commonDivisor_42 (by decide) ?_
        rw [if_neg (fun z => c21 ((lg_cmp_eq _ _).mpr z))] at hp
        exact wx_sub [0, 1, 2, 3, 4] rfl (ih (i + 1) (by omega) (by omega) _ _ hp)
set_option maxHeartbeats 4000000 in
set_option maxRecDepth 100000 in
theorem t_X3_commonDivisor (G : g_G) (M : g_M) (L : g_L) (a b : Int64) : mt G yX3_commonDivisor (Cond.code yX3_commonDivisor cX3_commonDivisor 11 (some .long)) 0 [.long a, .long b] M L (qL fun v M' L' => M = M' ∧ v = gcs 200 a b ∧ L = L') := by
  refine mt_of (by decide) rfl (Nat.le_of_ble_eq_true rfl) [(0, .long a), (2, .long b)] rfl (fun X hG C hQ => ?_)
  subst hG
  refine wx_lload_n C 0 dX3_commonDivisor_0 rfl rfl ?_
  refine wx_lstore C [1, 2, 0] [(0, .long a), (2, .long b), (4, .long a)] dX3_commonDivisor_1 (by decide) rfl ?_
  refine wx_lload_n C 1 dX3_commonDivisor_3 rfl rfl ?_
  refine wx_lstore C [1, 2, 3, 0] [(0, .long a), (2, .long b), (4, .long a), (6, .long b)] dX3_commonDivisor_4 (by decide) rfl ?_
  refine wx_iconst C 0 dX3_commonDivisor_6 (by decide) ?_
  refine wx_istore C [1, 2, 3, 4, 0] [(0, .long a), (2, .long b), (4, .long a), (6, .long b), (8, .int 0)] dX3_commonDivisor_7 (by decide) rfl ?_
  exact lp_X3_gcd C hQ 201 0 (by omega) (by omega) a b ⟨_, rfl, rfl, rfl, rfl⟩
set_option maxHeartbeats 4000000 in
set_option maxRecDepth 100000 in
theorem t_X3_reduced (G : g_G) (M : g_M) (L : g_L) (top below : Int64) (part : Int32) : mt G yX3_reduced (Cond.code yX3_reduced cX3_reduced 7 (some .long)) 1 [.long top, .long below, .int part] M L (qL fun v M' L' => M = M' ∧ v = red top below part ∧ L = L') := by
  refine mt_of (by decide) rfl (Nat.le_of_ble_eq_true rfl) [(0, .long top), (2, .long below), (4, .int part)] rfl (fun X hG C hQ => ?_)
  subst hG
  refine wx_lload_n C 0 dX3_reduced_0 rfl rfl ?_
  refine wx_mabsl C w3_114 w3_115 w1_13 w3_116 (by decide) (Nat.le_of_ble_eq_true rfl) dX3_reduced_1 ?_
  refine wx_lload_n C 1 dX3_reduced_4 rfl rfl ?_
  refine wx_mabsl C w3_114 w3_115 w1_13 w3_116 (by decide) (Nat.le_of_ble_eq_true rfl) dX3_reduced_5 ?_
  refine ca_X3_58 C (rest := []) (t_X3_commonDivisor X.1 M L (jab top) (jab below)) (by decide) rfl rfl (Nat.le_of_ble_eq_true rfl) dX3_reduced_8 (kL fun r8 M8 L8 q8 => ?_)
  obtain ⟨rfl, rfl, rfl⟩ := q8
  refine wx_lstore C [1, 2, 3, 0] [(0, .long top), (2, .long below), (4, .int part), (5, .long (gcs 200 (jab top) (jab below)))] dX3_reduced_11 (by decide) rfl ?_
  refine wx_lload C 3 dX3_reduced_13 rfl ?_
  refine wx_lconst C 0 dX3_reduced_15 (by decide) ?_
  refine wx_lcmp C dX3_reduced_16 ?_
  refine wx_if_ne C 24 dX3_reduced_17 (by decide) (fun c17 => ?_) (fun c17 => ?_)
  · refine wx_iload C 2 dX3_reduced_24 rfl ?_
    refine wx_if_ne C 33 dX3_reduced_26 (by decide) (fun c26 => ?_) (fun c26 => ?_)
    · refine wx_lload_n C 1 dX3_reduced_33 rfl rfl ?_
      refine wx_lload C 3 dX3_reduced_34 rfl ?_
      refine wx_ldiv C dX3_reduced_36 (fun z => c17 ((lg_cmp_eq _ _).mpr z)) ?_
      refine wx_lret C hQ dX3_reduced_37 ?_
      refine ⟨_, rfl, rfl, ?_, rfl⟩
      unfold red
      rw [if_neg (fun z => c17 ((lg_cmp_eq _ _).mpr z))]
      first
      | rw [if_pos c26]
      | rw [if_neg c26]
    · refine wx_lload_n C 0 dX3_reduced_29 rfl rfl ?_
      refine wx_goto C 34 dX3_reduced_30 (by decide) ?_
      refine wx_lload C 3 dX3_reduced_34 rfl ?_
      refine wx_ldiv C dX3_reduced_36 (fun z => c17 ((lg_cmp_eq _ _).mpr z)) ?_
      refine wx_lret C hQ dX3_reduced_37 ?_
      refine ⟨_, rfl, rfl, ?_, rfl⟩
      unfold red
      rw [if_neg (fun z => c17 ((lg_cmp_eq _ _).mpr z))]
      first
      | rw [if_pos c26]
      | rw [if_neg c26]
  · refine wx_ldc2 C w3_120 dX3_reduced_20 ?_
    refine wx_lret C hQ dX3_reduced_23 ?_
    refine ⟨_, rfl, rfl, ?_, rfl⟩
    unfold red
    rw [if_pos ((lg_cmp_eq _ _).mp c17)]
    rfl
